theorem CoB.next {c : Nat → Nat} {ap : Nat → Nat} {n : Nat} {S : PSt} {M M2 : MPt} {p r k : Nat} {pay2 : Nat → Nat} (h : CoB c n S M) (hn : n < 16) (hp : p < 16) (hnc : mch M p = false) (hr : 0 < r) (hB : 0 < qB S * k) (hD : mD M = qB S)
    (hC : ∀ q, q < 16 → mch M2 q = (mch M q || decide (q = p))) (hI : ∀ i, i < 16 → mor M2 i = va_up (mor M) n p i ∧ mli M2 i = va_up (mli M) n (mD M * k) i ∧ mra M2 i = va_up (mra M) n r i) : CoB c (n + 1) (nxtS c ap n S p r k pay2) M2 := by
  obtain ⟨h1, h2, h3, h4, h5, h6⟩ := h
  have hno : ∀ i, i < n → qpik S i ≠ p := fun i hi q => by
    have := (h3 p hp).mpr ⟨i, hi, q⟩
    rw [hnc] at this
    cases this
  refine ⟨fun q hq => ?_, fun i hi => ?_, fun q hq => ?_, fun i j hi hj e => ?_, ?_, ?_⟩
  · rw [hC q hq, h1 q hq]
    show _ = (qps S ||| 2 ^ p).testBit q
    rw [Nat.testBit_or, Nat.testBit_two_pow]
    congr 1
    exact decide_eq_decide.mpr ⟨fun e => e.symm, fun e => e.symm⟩
  · have h7 := hI i (by omega)
    rw [h7.1, h7.2.1, h7.2.2]
    show va_up (mor M) n p i = va_up (qpik S) n p i ∧ va_up (mli M) n (mD M * k) i = va_up (qbas S) n (qB S * k) i ∧ va_up (mra M) n r i = va_up (qrat S) n r i ∧ va_up (qpik S) n p i < 16 ∧ 0 < va_up (qrat S) n r i ∧ 0 < va_up (qbas S) n (qB S * k) i
    by_cases e : i = n
    · subst e
      rw [va_up_self, va_up_self, va_up_self, va_up_self, va_up_self, va_up_self, hD]
      exact ⟨rfl, rfl, rfl, hp, hr, hB⟩
    · rw [va_up_ne _ _ e, va_up_ne _ _ e, va_up_ne _ _ e, va_up_ne _ _ e, va_up_ne _ _ e, va_up_ne _ _ e]
      exact h2 i (by omega)
  · show mch M2 q = true ↔ ∃ i, i < n + 1 ∧ va_up (qpik S) n p i = q
    rw [hC q hq]
    constructor
    · intro z
      rcases Bool.or_eq_true_iff.mp z with z | z
      · obtain ⟨i, hi, e⟩ := (h3 q hq).mp z
        exact ⟨i, by omega, by rw [va_up_ne _ _ (by omega)]; exact e⟩
      · exact ⟨n, by omega, by rw [va_up_self]; exact (of_decide_eq_true z).symm⟩
    · intro z
      obtain ⟨i, hi, e⟩ := z
      by_cases e2 : i = n
      · rw [e2, va_up_self] at e
        rw [decide_eq_true e.symm, Bool.or_true]
      · rw [va_up_ne _ _ e2] at e
        rw [(h3 q hq).mpr ⟨i, by omega, e⟩, Bool.true_or]
  · have e9 : va_up (qpik S) n p i = va_up (qpik S) n p j := e
    by_cases ei : i = n
    · by_cases ej : j = n
      · omega
      · rw [ei, va_up_self, va_up_ne _ _ ej] at e9
        exact absurd e9.symm (hno j (by omega))
    · by_cases ej : j = n
      · rw [ej, va_up_self, va_up_ne _ _ ei] at e9
        exact absurd e9 (hno i (by omega))
      · rw [va_up_ne _ _ ei, va_up_ne _ _ ej] at e9
        exact h4 i j (by omega) (by omega) e9
  · show qco S + c p = sg (fun i => c (va_up (qpik S) n p i)) n + c (va_up (qpik S) n p n)
    rw [va_up_self, h5, sg_congr (f := fun i => c (va_up (qpik S) n p i)) (g := fun i => c (qpik S i)) n (fun i hi => by rw [va_up_ne _ _ (by omega)])]
  · show qps S ||| 2 ^ p < 2 ^ 16
    exact Nat.or_lt_two_pow h6 (Nat.pow_lt_pow_right (by decide) hp)
theorem sg_less {vs : Nat} {ap x x2 : Nat → Nat} {p k r q : Nat} (hX : ∀ v, v < 48 → x2 v = x v * k - shM (sqp vs ap p) x r k v) : sg (suM (sqp vs ap q) x2) 48 ≤ sg (suM (sqp vs ap q) x) 48 * k := by
  rw [← sg_mul]
  refine sg_le 48 (fun v hv => ?_)
  unfold suM
  rw [hX v hv]
  split
  · exact Nat.sub_le _ _
  · omega
theorem CoO.next {c : Nat → Nat} {vs : Nat} {ap : Nat → Nat} {n : Nat} {S : PSt} {M M2 : MPt} {p r k : Nat} {pay2 : Nat → Nat} (hA : CoA vs S M) (h : CoO c vs ap S M) (hk : 0 < k) (hp : p < 16) (ht : (clS c ap S p).1 = true) (hop : (qop S).testBit p = true) (hD : mD M2 = mD M * k) (hX : ∀ v, v < 48 → mx M2 v = mx M v * k - shM (sqp vs ap p) (mx M) r k v)
    (hC : ∀ q, q < 16 → mch M2 q = (mch M q || decide (q = p))) : CoO c vs ap (nxtS c ap n S p r k pay2) M2 := fun q hq => by
  have hbit : (qop (nxtS c ap n S p r k pay2)).testBit q = (((qop S).testBit q && (clS c ap S q).1) && !decide (q = p)) := by
    show ((fcGo (clS c ap S) c (qop S) 16).2 - 2 ^ p).testBit q = _
    rw [clr_bit (by rw [fc_lo 16 p hp, hop, ht]; rfl), fc_lo 16 q hq]
  have h1 := h q hq
  rw [hbit, hC q hq]
  constructor
  · intro z
    have z1 := Bool.and_eq_true_iff.mp z
    have z2 := Bool.and_eq_true_iff.mp z1.1
    have z3 := h1.1 z2.1
    have z4 : decide (q = p) = false := by
      cases hz : decide (q = p) with
      | false => rfl
      | true => rw [hz] at z1; cases z1.2
    rw [z3.2, z4]
    exact ⟨z3.1, rfl⟩
  · intro hc hm ho
    have hm2 : mch M q = false ∧ decide (q = p) = false := by
      cases hz : mch M q with
      | true => rw [hz] at hm; cases hm
      | false =>
        rw [hz] at hm
        exact ⟨rfl, hm⟩
    rw [hm2.2] at ho
    have hlt : sg (suM (sqp vs ap q) (mx M)) 48 < mD M * c q := by
      by_cases e : (qop S).testBit q = true
      · rw [e] at ho
        have hf : (clS c ap S q).1 = false := by
          cases hz : (clS c ap S q).1 with
          | false => rfl
          | true => rw [hz] at ho; cases ho
        have hN : 0 < qB S * c q := Nat.mul_pos hA.2.1 hc
        have h3 := shr_aff (ap := ap) (p := q) hA.2.2.2.1 hA.2.2.2.2 hN
        rw [hA.sum ap q, hA.1]
        refine Nat.not_le.mp (fun z => ?_)
        rw [h3.mpr z] at hf
        cases hf
      · exact h1.2 hc hm2.1 (bool_f e)
    have h2 := sg_less (q := q) hX
    have h3 : sg (suM (sqp vs ap q) (mx M)) 48 * k < mD M * c q * k := Nat.mul_lt_mul_of_pos_right hlt hk
    rw [hD, Nat.mul_right_comm]
    omega
theorem CoT.next {c : Nat → Nat} {vs : Nat} {ap : Nat → Nat} {n T : Nat} {S : PSt} {M M2 : MPt} {p r k : Nat} {pay2 : Nat → Nat} (hA : CoA vs S M) (h : CoT T S M) (hs : IsSh (sqp vs ap p) (mx M) (mD M * c p) r k) (hX : ∀ v, v < 48 → mx M2 v = mx M v * k - shM (sqp vs ap p) (mx M) r k v) : CoT T (nxtS c ap n S p r k pay2) M2 := by
  have h1 := hs.sum
  have h2 : sg (mx M2) 48 + sg (shM (sqp vs ap p) (mx M) r k) 48 = sg (mx M) 48 * k := by
    rw [← sg_add, ← sg_mul]
    refine sg_congr 48 (fun v hv => ?_)
    rw [hX v hv]
    have : shM (sqp vs ap p) (mx M) r k v ≤ mx M v * k := by
      unfold shM
      split
      · exact Nat.min_le_left _ _
      · exact Nat.zero_le _
    omega
  have h3 : (sg (mx M) 48 + qB S * qco S) * k ≤ qB S * T * k := Nat.mul_le_mul_right k h
  unfold CoT
  show sg (mx M2) 48 + qB S * k * (qco S + c p) ≤ qB S * k * T
  rw [h1, hA.1] at h2
  rw [Nat.add_mul] at h3
  have e1 : qB S * k * (qco S + c p) = qB S * qco S * k + qB S * c p * k := by rw [Nat.mul_add, Nat.mul_right_comm, Nat.mul_right_comm (qB S) k (c p)]
  have e2 : qB S * k * T = qB S * T * k := Nat.mul_right_comm ..
  omega
theorem CoC.next {c : Nat → Nat} {vs : Nat} {ap : Nat → Nat} {n : Nat} {S : PSt} {M M2 : MPt} {p r k : Nat} {pay2 : Nat → Nat} (hA : CoA vs S M) (h : CoC vs ap n S M) (hn : n < 16) (hk : 0 < k)
    (hM : ∀ i v, i < 16 → v < 48 → vs.testBit v = true → mpm M2 i v = if i = n then shM (sqp vs ap p) (mx M) r k v else mpm M i v) : CoC vs ap (n + 1) (nxtS c ap n S p r k pay2) M2 := fun v hv hb => by
  have hE := hA.2.2.2.1
  have h1 := h v hv hb
  have hx : mx M v = qpur S v := by rw [hA.2.2.1 v hv, if_pos hb]
  have hpu : qpur (nxtS c ap n S p r k pay2) v = nPur ap p k r v (qpur S v) := payP_v hE hv hb
  have hpy : ∀ i, i < n + 1 → qpik (nxtS c ap n S p r k pay2) i = if i = n then p else qpik S i := fun i hi => by
    show va_up (qpik S) n p i = _
    by_cases e : i = n
    · rw [e, va_up_self, if_pos rfl]
    · rw [va_up_ne _ _ e, if_neg e]
  have hra : ∀ i, i < n + 1 → qrat (nxtS c ap n S p r k pay2) i = if i = n then r else qrat S i := fun i hi => by
    show va_up (qrat S) n r i = _
    by_cases e : i = n
    · rw [e, va_up_self, if_pos rfl]
    · rw [va_up_ne _ _ e, if_neg e]
  rcases h1.1 with ⟨he, hp0⟩ | ⟨he, hp0, hl0⟩
  · obtain ⟨j, hj, q⟩ := hE.2.2 v hv hb hp0
    have hem : qemp (nxtS c ap n S p r k pay2) v = if (ap v).testBit p = true ∧ qpur S v * k ≤ r then n else 16 := by
      have := payE_at (pur := qpur S) (emp := qemp S) (ap := ap) (p := p) (k := k) (r := r) (rd := n) hE.2.1 (qpc S) (Nat.le_refl _) j hj
      rw [q, he] at this
      exact this
    have hla : qlas (nxtS c ap n S p r k pay2) v = if (ap v).testBit p = true ∧ qpur S v * k ≤ r then qpur S v * k else qlas S v := by
      have := payL_at (pur := qpur S) (las := qlas S) (ap := ap) (p := p) (k := k) (r := r) hE.2.1 (qpc S) (Nat.le_refl _) j hj
      rw [q] at this
      exact this
    by_cases hc : (ap v).testBit p = true ∧ qpur S v * k ≤ r
    · rw [if_pos hc] at hem hla
      refine ⟨Or.inr ⟨by rw [hem]; omega, by rw [hpu]; unfold nPur; rw [if_pos hc.1]; omega, by rw [hla]; exact Nat.mul_pos hp0 hk⟩, fun i hi => ?_⟩
      rw [hM i v (by omega) hv hb]
      unfold pyN
      rw [hem, hla, hpy i hi, hra i hi]
      by_cases e : i = n
      · subst e
        rw [if_pos rfl, if_pos rfl, if_neg (by rw [hc.1]; simp), if_pos rfl]
        unfold shM
        rw [if_pos (sqp_t.mpr ⟨hb, hc.1⟩), hx]
        omega
      · rw [if_neg e, if_neg e, if_neg e, if_neg e, h1.2 i (by omega)]
        unfold pyN
        rw [he]
        have a1 : ¬ n < i := by omega
        have a2 : ¬ 16 < i := by omega
        have a3 : ¬ i = 16 := by omega
        simp only [a1, a2, a3, false_or, if_false]
    · rw [if_neg hc] at hem
      refine ⟨Or.inl ⟨hem, ?_⟩, fun i hi => ?_⟩
      · rw [hpu]
        unfold nPur
        split
        · rename_i z
          have : ¬ qpur S v * k ≤ r := fun y => hc ⟨z, y⟩
          omega
        · exact Nat.mul_pos hp0 hk
      · rw [hM i v (by omega) hv hb]
        unfold pyN
        rw [hem, hpy i hi, hra i hi]
        have a2 : ¬ 16 < i := by omega
        have a3 : ¬ i = 16 := by omega
        by_cases e : i = n
        · subst e
          rw [if_pos rfl, if_pos rfl, if_pos rfl]
          simp only [a2, a3, false_or, if_false]
          unfold shM
          by_cases z : (ap v).testBit p = true
          · have : ¬ qpur S v * k ≤ r := fun y => hc ⟨z, y⟩
            rw [if_pos (sqp_t.mpr ⟨hb, z⟩), hx, if_neg (by rw [z]; decide)]
            omega
          · rw [if_neg (fun y => z (sqp_t.mp y).2), if_pos (bool_f z)]
        · rw [if_neg e, if_neg e, if_neg e, h1.2 i (by omega)]
          unfold pyN
          rw [he]
          simp only [a2, a3, false_or, if_false]
  · have hne : ∀ i, i < qpc S → qpay S i ≠ v := fun i hi q => by
      have := (hE.1 i hi).2.2
      rw [q] at this
      omega
    have hem : qemp (nxtS c ap n S p r k pay2) v = qemp S v := payE_ne (qpc S) hne
    have hla : qlas (nxtS c ap n S p r k pay2) v = qlas S v := payL_ne (qpc S) hne
    refine ⟨Or.inr ⟨by rw [hem]; omega, by rw [hpu, hp0]; unfold nPur; rw [Nat.zero_mul, Nat.zero_sub]; split <;> rfl, by rw [hla]; exact hl0⟩, fun i hi => ?_⟩
    rw [hM i v (by omega) hv hb]
    unfold pyN
    rw [hem, hla, hpy i hi, hra i hi]
    by_cases e : i = n
    · subst e
      rw [if_pos rfl, if_pos (Or.inl he)]
      unfold shM
      rw [hx, hp0, Nat.zero_mul]
      split
      · omega
      · rfl
    · rw [if_neg e, if_neg e, if_neg e, h1.2 i (by omega)]
      rfl
