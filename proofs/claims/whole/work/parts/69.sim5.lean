def Cor (c : Nat → Nat) (vs : Nat) (ap : Nat → Nat) (T n : Nat) (S : PSt) (M : MPt) : Prop := CoA vs S M ∧ CoB c n S M ∧ CoO c vs ap S M ∧ CoC vs ap n S M ∧ CoT T S M
theorem Cor.next {c : Nat → Nat} {vs : Nat} {ap : Nat → Nat} {T n : Nat} {S S2 : PSt} {M M2 : MPt} (h : Cor c vs ap T n S M) (hn : n < 16) (hS : rndR c ap n S S2) (hM : mrn c vs ap n M M2) : Cor c vs ap T (n + 1) S2 M2 := by
  obtain ⟨hA, hB, hO, hC, hT⟩ := h
  obtain ⟨p, r, k, pay2, a1, a2, a3, rfl⟩ := rndR_is hS
  obtain ⟨p9, r9, k9, S9, b1, b2, b3, b4, b5, b6, b7⟩ := hM
  have e := co_same hA hO b1
  rw [a1, b2] at e
  cases e
  have m1 := mxGo_some 16 _ b2
  have m2 := b1 p m1.1 m1.2.1
  have m3 : (r, k) = S9 p := m1.2.2
  rw [← m3] at m2
  have m4 := co_aff hA hO p m1.1
  have m5 : affB c vs ap (mD M) (mx M) (mch M) p = true := m1.2.1
  rw [m4] at m5
  have m6 := Bool.and_eq_true_iff.mp m5
  have m7 := (hO p m1.1).1 m6.1
  have hk : 0 < k := m2.1
  have hr : 0 < r := m2.pos (by rw [hA.1]; exact Nat.mul_pos hA.2.1 m7.1)
  exact ⟨hA.next hk a2 a3 b3 b4, hB.next hn m1.1 m7.2 hr (Nat.mul_pos hA.2.1 hk) hA.1 b5 b6, CoO.next hA hO hk m1.1 m6.2 m6.1 b3 b4 b5, hC.next hA hn hk b7, hT.next hA m2 b4⟩
theorem Cor.run {c : Nat → Nat} {vs : Nat} {ap : Nat → Nat} {T : Nat} {S0 : PSt} {M0 : MPt} (h : Cor c vs ap T 0 S0 M0) : ∀ n, n ≤ 16 → ∀ (S : PSt) (M : MPt), Rch c ap n S0 S → MRch c vs ap n M0 M → Cor c vs ap T n S M
  | 0, _, S, M, hS, hM => by
    cases hS
    cases hM
    exact h
  | n + 1, hn, S, M, hS, hM => by
    obtain ⟨S1, s1, s2⟩ := hS
    obtain ⟨M1, m1, m2⟩ := hM
    exact (h.run n (by omega) S1 M1 s1 m1).next (by omega) s2 m2
theorem Rch.upto {c ap : Nat → Nat} {S0 : PSt} : ∀ (n : Nat) (S : PSt), Rch c ap n S0 S → ∀ m, m < n → ∃ S1 S2, Rch c ap m S0 S1 ∧ rndR c ap m S1 S2
  | 0, _, _, m, h => absurd h (Nat.not_lt_zero m)
  | n + 1, S, ⟨S1, s1, s2⟩, m, h => by
    by_cases e : m = n
    · subst e
      exact ⟨S1, S, s1, s2⟩
    · exact Rch.upto n S1 s1 m (by omega)
theorem MRch.upto {c : Nat → Nat} {vs : Nat} {ap : Nat → Nat} {M0 : MPt} : ∀ (n : Nat) (M : MPt), n ≤ 16 → MRch c vs ap n M0 M → ∀ m, m < n → ∃ M1 M2, MRch c vs ap m M0 M1 ∧ mrn c vs ap m M1 M2 ∧ ∀ i, i < m → mor M i = mor M1 i
  | 0, _, _, _, m, h => absurd h (Nat.not_lt_zero m)
  | n + 1, M, hn, ⟨M1, s1, s2⟩, m, h => by
    have ho : ∀ i, i < n → mor M i = mor M1 i := fun i hi => by
      obtain ⟨p, r, k, S9, b1, b2, b3, b4, b5, b6, b7⟩ := s2
      rw [(b6 i (by omega)).1, va_up_ne _ _ (by omega)]
    by_cases e : m = n
    · subst e
      exact ⟨M1, M, s1, s2, ho⟩
    · obtain ⟨M3, M4, x1, x2, x3⟩ := MRch.upto n M1 (by omega) s1 m (by omega)
      exact ⟨M3, M4, x1, x2, fun i hi => by rw [ho i (by omega), x3 i hi]⟩
/-- all sixteen are chosen -/
theorem CoB.full {c : Nat → Nat} {S : PSt} {M : MPt} (h : CoB c 16 S M) (q : Nat) (hq : q < 16) : mch M q = true := by
  refine bool_t (fun hf => ?_)
  have h1 := sg_inj (pay := qpik S) (N := 16) 16 (fun v => if mch M v = true then 1 else 0) (fun i hi => (h.2.1 i hi).2.2.2.1) (fun i j hi hj => h.2.2.2.1 i j hi hj) (fun v hv hn => by
    show (if mch M v = true then 1 else 0) = 0
    rw [if_neg]
    intro z
    obtain ⟨i, hi, e⟩ := (h.2.2.1 v hv).mp z
    exact hn i hi e)
  have h2 : sg (fun i => (fun v => if mch M v = true then 1 else 0) (qpik S i)) 16 = sg (fun _ => 1) 16 := sg_congr 16 (fun i hi => by
    show (if mch M (qpik S i) = true then 1 else 0) = 1
    rw [if_pos ((h.2.2.1 _ (h.2.1 i hi).2.2.2.1).mpr ⟨i, hi, rfl⟩)])
  have h3 : sg (fun v => if mch M v = true then 1 else 0) 16 < sg (fun _ => 1) 16 := sg_lt 16 q (fun i _ => by
    show (if mch M i = true then 1 else 0) ≤ 1
    split <;> omega) hq (by
    show (if mch M q = true then 1 else 0) < 1
    rw [hf]
    decide)
  rw [h2] at h1
  rw [h1] at h3
  exact Nat.lt_irrefl _ h3
theorem affB_ch {c : Nat → Nat} {vs : Nat} {ap : Nat → Nat} {D : Nat} {x : Nat → Nat} {ch : Nat → Bool} {q : Nat} (h : affB c vs ap D x ch q = true) : 0 < c q ∧ ch q = false ∧ D * c q ≤ sg (suM (sqp vs ap q) x) 48 := by
  unfold affB at h
  have h1 := Bool.and_eq_true_iff.mp h
  have h2 := Bool.and_eq_true_iff.mp h1.2
  refine ⟨of_decide_eq_true h1.1, ?_, of_decide_eq_true h2.2⟩
  cases hz : ch q with
  | false => rfl
  | true => rw [hz] at h2; cases h2.1
def MIni (vs bu rz : Nat) (M : MPt) : Prop := mD M = (if cnt vs 48 = 0 then 1 else cnt vs 48) ∧ (∀ v, v < 48 → mx M v = if vs.testBit v = true then bu + cnt vs 48 * rz else 0) ∧ ∀ q, q < 16 → mch M q = false
def MRes (c : Nat → Nat) (vs : Nat) (ap : Nat → Nat) (bu rz n : Nat) (M : MPt) : Prop := n ≤ 16 ∧ ∃ M0, MIni vs bu rz M0 ∧ MRch c vs ap n M0 M ∧ ∀ q, q < 16 → affB c vs ap (mD M) (mx M) (mch M) q = false
theorem setOf_bit {c : Nat → Nat} : ∀ n q, q < n → (setOf c n).testBit q = decide (0 < c q)
  | 0, q, h => absurd h (Nat.not_lt_zero q)
  | n + 1, q, h => by
    rw [setOf]
    have hl := setOf_lt c n
    by_cases e : q = n
    · subst e
      by_cases z : 0 < c q
      · rw [if_pos z, decide_eq_true z]
        have := Nat.testBit_two_pow_mul_add (i := q) 1 hl q
        rw [Nat.mul_one, Nat.add_comm] at this
        rw [this]
        simp
      · rw [if_neg z, Nat.add_zero, decide_eq_false z]
        exact Nat.testBit_lt_two_pow hl
    · rw [← setOf_bit (c := c) n q (by omega)]
      by_cases z : 0 < c n
      · rw [if_pos z]
        have := Nat.testBit_two_pow_mul_add (i := n) 1 hl q
        rw [Nat.mul_one, Nat.add_comm] at this
        rw [this, if_pos (by omega)]
      · rw [if_neg z, Nat.add_zero]
theorem vlG_all {pay : Nat → Nat} {vs : Nat} : ∀ n v, v < n → vs.testBit v = true → ∃ i, i < (vlG pay vs n).2 ∧ (vlG pay vs n).1 i = v
  | 0, v, h, _ => absurd h (Nat.not_lt_zero v)
  | n + 1, v, h, hb => by
    have ih := vlG_all (pay := pay) (vs := vs) n v
    rw [vlG]
    by_cases e : vs.testBit n = true
    · rw [if_pos e]
      dsimp only
      by_cases e2 : v = n
      · exact ⟨_, Nat.lt_succ_self _, by rw [va_up_self, e2]⟩
      · obtain ⟨i, hi, q⟩ := ih (by omega) hb
        exact ⟨i, by omega, by rw [va_up_ne _ _ (by omega)]; exact q⟩
    · rw [if_neg e]
      by_cases e2 : v = n
      · rw [e2] at hb
        exact absurd hb e
      · exact ih (by omega) hb
theorem emG_at {emp : Nat → Nat} : ∀ n v, v < n → emG emp n v = 16
  | 0, v, h => absurd h (Nat.not_lt_zero v)
  | n + 1, v, h => by
    rw [emG]
    by_cases e : v = n
    · rw [e, va_up_self]
    · rw [va_up_ne _ _ e]
      exact emG_at n v (by omega)
theorem cnt_sg (x : Nat) : ∀ n, cnt x n = sg (fun v => if x.testBit v = true then 1 else 0) n
  | 0 => rfl
  | n + 1 => by
    rw [cnt, sg, cnt_sg x n, Nat.testBit_eq_decide_div_mod_eq]
    have : x / 2 ^ n % 2 < 2 := Nat.mod_lt _ (by decide)
    by_cases e : x / 2 ^ n % 2 = 1
    · rw [decide_eq_true e, e]
      rfl
    · rw [decide_eq_false e, if_neg (by decide)]
      omega
theorem Cor.init {c : Nat → Nat} {vs : Nat} {ap : Nat → Nat} {bu rz : Nat} (hbu : 1 ≤ bu) {pur las emp pay pik rat bas : Nat → Nat} {M : MPt} (hM : MIni vs bu rz M) :
    Cor c vs ap (bu + cnt vs 48 * rz) 0 ((vlG pay vs 48).2, 0, 0, setOf c 16, (if cnt vs 48 = 0 then 1 else cnt vs 48), puG pur vs (bu + cnt vs 48 * rz) 48, las, emG emp 48, (vlG pay vs 48).1, pik, rat, bas) M := by
  obtain ⟨h1, h2, h3⟩ := hM
  refine ⟨⟨h1, ?_, fun v hv => ?_, ⟨fun i hi => ?_, fun i j hi hj e => vlG_inj 48 i j hi hj e, fun v hv hb _ => vlG_all 48 v hv hb⟩, fun x y hxy hy _ => ?_⟩, ⟨fun q hq => ?_, fun i hi => absurd hi (Nat.not_lt_zero i), fun q hq => ?_, fun i j hi _ _ => absurd hi (Nat.not_lt_zero i), rfl, (by show 0 < 2 ^ 16; decide)⟩, fun q hq => ⟨fun hb => ?_, fun hc _ ho => ?_⟩, fun v hv hb => ⟨Or.inl ⟨emG_at 48 v hv, ?_⟩, fun i hi => absurd hi (Nat.not_lt_zero i)⟩, ?_⟩
  · show 0 < if cnt vs 48 = 0 then 1 else cnt vs 48
    split <;> omega
  · rw [h2 v hv]
    show _ = if vs.testBit v = true then puG pur vs (bu + cnt vs 48 * rz) 48 v else 0
    by_cases e : vs.testBit v = true
    · rw [if_pos e, if_pos e, puG_at 48 v hv e]
    · rw [if_neg e, if_neg e]
  · have q := vlG_in (pay := pay) (vs := vs) 48 i hi
    refine ⟨q.1, q.2, ?_⟩
    show 0 < puG pur vs (bu + cnt vs 48 * rz) 48 ((vlG pay vs 48).1 i)
    rw [puG_at 48 _ q.1 q.2]
    omega
  · have hy9 : y < (vlG pay vs 48).2 := hy
    have q1 := vlG_in (pay := pay) (vs := vs) 48 x (by omega)
    have q2 := vlG_in (pay := pay) (vs := vs) 48 y hy9
    show puG pur vs (bu + cnt vs 48 * rz) 48 ((vlG pay vs 48).1 x) ≤ puG pur vs (bu + cnt vs 48 * rz) 48 ((vlG pay vs 48).1 y)
    rw [puG_at 48 _ q1.1 q1.2, puG_at 48 _ q2.1 q2.2]
    exact Nat.le_refl _
  · rw [h3 q hq]
    exact (Nat.zero_testBit q).symm
  · rw [h3 q hq]
    constructor
    · intro z
      cases z
    · intro z
      obtain ⟨i, hi, _⟩ := z
      exact absurd hi (Nat.not_lt_zero i)
  · have hb9 : (setOf c 16).testBit q = true := hb
    rw [setOf_bit 16 q hq] at hb9
    exact ⟨of_decide_eq_true hb9, h3 q hq⟩
  · have ho9 : (setOf c 16).testBit q = false := ho
    rw [setOf_bit 16 q hq] at ho9
    exact absurd hc (of_decide_eq_false ho9)
  · show 0 < puG pur vs (bu + cnt vs 48 * rz) 48 v
    rw [puG_at 48 v hv hb]
    omega
  · unfold CoT
    show sg (mx M) 48 + (if cnt vs 48 = 0 then 1 else cnt vs 48) * 0 ≤ (if cnt vs 48 = 0 then 1 else cnt vs 48) * (bu + cnt vs 48 * rz)
    have e1 : sg (mx M) 48 = cnt vs 48 * (bu + cnt vs 48 * rz) := by
      rw [cnt_sg vs 48, ← sg_mul]
      refine sg_congr 48 (fun v hv => ?_)
      rw [h2 v hv, ← cnt_sg]
      split
      · rw [Nat.one_mul]
      · rw [Nat.zero_mul]
    rw [e1, Nat.mul_zero, Nat.add_zero]
    refine Nat.mul_le_mul_right _ ?_
    split <;> omega
theorem sg_pre {f : Nat → Nat} {n : Nat} : ∀ m, n ≤ m → sg f n ≤ sg f m
  | 0, h => by rw [show n = 0 by omega]; exact Nat.le_refl _
  | m + 1, h => by
    by_cases e : n = m + 1
    · rw [e]
      exact Nat.le_refl _
    · have := sg_pre (f := f) (n := n) m (by omega)
      rw [sg]
      omega
/-- the class's phase and the reference's -/
theorem res_same {c : Nat → Nat} {vs : Nat} {ap : Nat → Nat} {bu rz n m : Nat} {S : PSt} {M : MPt} (hbu : 1 ≤ bu) (hS : Res c vs ap bu rz n S) (hM : MRes c vs ap bu rz m M) : (n = m ∧ Cor c vs ap (bu + cnt vs 48 * rz) n S M) ∨ (bu < qco S ∧ qco S ≤ sg (fun i => c (mor M i)) m) := by
  obtain ⟨pur, las, emp, pay, pik, rat, bas, hn, hR, hend, hP⟩ := hS
  obtain ⟨hm, M0, hI, hMR, hno⟩ := hM
  have h0 := Cor.init (c := c) (ap := ap) (pur := pur) (las := las) (emp := emp) (pay := pay) (pik := pik) (rat := rat) (bas := bas) hbu hI
  rcases Nat.lt_trichotomy n m with e | e | e
  · right
    obtain ⟨M1, M2, x1, x2, x3⟩ := MRch.upto m M hm hMR n e
    have hC := h0.run n hn S M1 hR x1
    obtain ⟨p, r, k, S9, b1, b2, b3⟩ := x2
    rcases hend with q | q | q
    · omega
    · refine ⟨q, ?_⟩
      rw [hC.2.1.2.2.2.2.1, sg_congr (f := fun i => c (qpik S i)) (g := fun i => c (mor M i)) n (fun i hi => by rw [x3 i hi, (hC.2.1.2.1 i hi).1])]
      exact sg_pre m (by omega)
    · have q2 := co_same hC.1 hC.2.2.1 b1
      rw [b2] at q2
      have q3 : (fcGo (clS c ap S) c (qop S) 16).1 = none := q
      rw [q3] at q2
      cases q2
  · subst e
    exact Or.inl ⟨rfl, h0.run n hn S M hR hMR⟩
  · obtain ⟨S1, S2, x1, x2⟩ := Rch.upto n S hR m e
    have hC := h0.run m hm S1 M x1 hMR
    obtain ⟨p, r, k, pay2, a1, a2, a3, a4⟩ := rndR_is x2
    have q := fcGo_true 16 _ a1
    have q2 := fcGo_in 16 _ a1
    have q3 := fc_lo (S := clS c ap S1) (c := c) (op := qop S1) 16 p q2.1
    rw [q.2] at q3
    have q4 := co_aff hC.1 hC.2.2.1 p q2.1
    rw [← q3, hno p q2.1] at q4
    cases q4
