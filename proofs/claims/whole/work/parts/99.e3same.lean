/-! the answers are the same -/
theorem rndF_congr {p1 p2 : Nat → Nat} {i0 : Int32} : ∀ k i, (∀ j, i ≤ j → j < i + k → p1 j = p2 j) → rndF p1 i0 k i = rndF p2 i0 k i
  | 0, _, _ => rfl
  | k + 1, i, h => by
    rw [rndF, rndF, h i (Nat.le_refl i) (by omega), rndF_congr k (i + 1) (fun j a b => h j (by omega) (by omega))]
section XANS
variable {c : Nat → Nat} {vs : Nat} {ap : Nat → Nat} {cn n : Nat} {S : PSt} {Rw ord : Nat → Nat} {ch : Nat → Bool}
theorem Ans.rdE (h : Ans c vs ap cn n S Rw ord ch) (p : Int32) : rnd (qpik S) n p = rnd ord n p := rndF_congr n 0 (fun j _ hj => (h.2.2.2.1 j (by omega)).1.symm)
theorem Ans.ch_ (h : Ans c vs ap cn n S Rw ord ch) (i : Int32) : aCh n S i = mCh n ord i := by
  unfold aCh mCh
  by_cases e : inR i n = true
  · have hn := h.1.1
    obtain ⟨j, hj, rfl⟩ := inR_of e (by omega)
    rw [if_pos e, if_pos e, ix_nI (by omega), (h.2.2.2.1 j hj).1]
  · rw [if_neg e, if_neg e]
theorem Ans.sp (h : Ans c vs ap cn n S Rw ord ch) : nI (qco S) = nI (sg (fun i => c (ord i)) n) := by
  rw [h.2.2.2.2.2.2.1]
  congr 1
  exact sg_congr n (fun i hi => by rw [(h.2.2.2.1 i hi).1])
theorem Ans.pu (h : Ans c vs ap cn n S Rw ord ch) (v part word : Int32) : aPu vs S v part word = mPu vs Rw v part word := by
  unfold aPu mPu
  by_cases e : isV vs v = true
  · obtain ⟨j, hj, rfl, hb, h0⟩ := isV_of e
    rw [if_pos e, if_pos e, ix_nI (by omega), (h.2.2.2.2.2.2.2.2.1 j hj hb).1, h.2.2.2.2.2.2.2.1 (Or.inl h0)]
  · rw [if_neg e, if_neg e]
theorem Ans.pd (h : Ans c vs ap cn n S Rw ord ch) (v p part word : Int32) : aPd vs ap n S v p part word = mPd vs n Rw ord v p part word := by
  unfold aPd mPd
  by_cases e : isV vs v = true
  · obtain ⟨j, hj, rfl, hb, h0⟩ := isV_of e
    have hn := h.1.1
    rw [if_pos e, if_pos e, h.rdE p]
    rcases rnd_cases (pik := ord) (n := n) (i0 := p) with ⟨hre, -⟩ | ⟨r, hrn, hre, -, -⟩
    · rw [if_pos hre, if_pos hre]
    · rw [hre, if_neg (nI_m1 (by omega)), if_neg (nI_m1 (by omega)), ix_nI (show r < 2 ^ 31 by omega), ix_nI (show j < 2 ^ 31 by omega), ((h.2.2.2.2.2.2.2.2.1 j hj hb).2 r hrn).1, (h.2.2.2.1 r hrn).2.1]
  · rw [if_neg e, if_neg e]
theorem Ans.ra (h : Ans c vs ap cn n S Rw ord ch) (p part word : Int32) : aRa n S p part word = mRa n Rw ord p part word := by
  unfold aRa mRa
  have hn := h.1.1
  rw [h.rdE p]
  rcases rnd_cases (pik := ord) (n := n) (i0 := p) with ⟨hre, -⟩ | ⟨r, hrn, hre, -, -⟩
  · rw [if_pos hre, if_pos hre]
  · rw [hre, if_neg (nI_m1 (by omega)), if_neg (nI_m1 (by omega)), ix_nI (show r < 2 ^ 31 by omega), (h.2.2.2.1 r hrn).2.1, (h.2.2.2.1 r hrn).2.2]
theorem Ans.mi (h : Ans c vs ap cn n S Rw ord ch) (p part word : Int32) : aMi c ap n S p part word = mMi c vs ap Rw ch p part word := by
  unfold aMi mMi
  have hn := h.1.1
  by_cases e : oDr c p = true
  · have e1 := e
    unfold oDr at e1
    have e2 := Bool.and_eq_true_iff.mp e1
    obtain ⟨j, hj, rfl⟩ := inR_of e2.1 (by decide)
    have hix : ix (nI j) = j := ix_nI (by omega)
    have hc : 0 < c j := by have := of_decide_eq_true e2.2; rw [hix] at this; exact this
    have hiff : rnd (qpik S) n (nI j) = -1 ↔ ch j = false := by
      rcases rnd_cases (pik := qpik S) (n := n) (i0 := nI j) with ⟨hre, hq⟩ | ⟨r, hrn, hre, hq, -⟩
      · refine ⟨fun _ => bool_f (fun z => ?_), fun _ => hre⟩
        obtain ⟨i, hi, q⟩ := (h.2.2.2.2.2.1 j hj).mp z
        exact hq i hi (by rw [q])
      · rw [hre]
        refine ⟨fun z => absurd z (nI_m1 (by omega)), fun z => ?_⟩
        have hp := h.1.2.1 r hrn
        have q2 : qpik S r = j := (nI_inj (by omega) (by omega)).mp hq
        have := (h.2.2.2.2.2.1 j hj).mpr ⟨r, hrn, q2⟩
        rw [z] at this
        cases this
    rw [hix]
    by_cases q : ch j = false
    · rw [if_pos ⟨e, hiff.mpr q⟩, if_pos ⟨e, q⟩, h.2.2.2.2.2.2.2.2.2 j hj, h.2.2.2.2.2.2.2.1 (Or.inr ⟨j, hj, hc⟩)]
    · rw [if_neg (fun z => q (hiff.mp z.2)), if_neg (fun z => q z.2)]
  · rw [if_neg (fun z => e z.1), if_neg (fun z => e z.1)]
theorem svd_is (h : Ans c vs ap cn n S Rw ord ch) {v : Nat} (hav : ap v < 2 ^ 16) : cnt (ap v &&& qps S) 32 = sg (svd ch ap v) 16 := by
  rw [cnt_sg]
  have h1 : ∀ i, 16 ≤ i → (if (ap v &&& qps S).testBit i = true then 1 else 0) = 0 := fun i hi => by
    rw [if_neg]
    rw [Nat.testBit_and, Nat.testBit_lt_two_pow (Nat.lt_of_lt_of_le hav (Nat.pow_le_pow_right (by decide) hi))]
    simp
  rw [sg_comp h1 32 (by decide)]
  refine sg_congr 16 (fun i hi => ?_)
  unfold svd
  rw [h.2.2.2.2.1 i hi, Nat.testBit_and]
  cases (ap v).testBit i <;> cases (qps S).testBit i <;> rfl
theorem Ans.se (h : Ans c vs ap cn n S Rw ord ch) (hap : ∀ v, v < 48 → ap v < 2 ^ 16) (v : Int32) : aSe vs ap S v = mSe vs ap ch v := by
  unfold aSe mSe
  by_cases e : isV vs v = true
  · obtain ⟨j, hj, rfl, hb, h0⟩ := isV_of e
    rw [if_pos e, if_pos e, ix_nI (by omega), svd_is h (hap j hj)]
  · rw [if_neg e, if_neg e]
theorem tx_is (h : Ans c vs ap cn n S Rw ord ch) {v : Nat} (hv : v < 48) (hb : vs.testBit v = true) : ∀ r, r ≤ n → sTx S ap v r = mTx Rw ord v r
  | 0, _ => rfl
  | r + 1, hr => by
    have h1 := (h.2.2.2.2.2.2.2.2.1 v hv hb).2 r (by omega)
    have h2 := h.2.2.2.1 r (by omega)
    rw [sTx, mTx, tx_is h hv hb r (by omega)]
    congr 1
    unfold enT mEn
    by_cases e : qemp S v < r ∨ (ap v).testBit (qpik S r) = false
    · rw [if_pos e, if_pos (by rw [h1.1]; exact h1.2.mpr e)]
    · rw [if_neg e, if_neg (by rw [h1.1]; exact fun q => e (h1.2.mp q)), h1.1, h2.1, h2.2.1]
theorem Ans.re (h : Ans c vs ap cn n S Rw ord ch) (v k : Int32) : aRe vs ap n S v k = mRe vs n Rw ord v k := by
  unfold aRe mRe
  by_cases e : isV vs v = true
  · obtain ⟨j, hj, rfl, hb, h0⟩ := isV_of e
    have e1 : rcT S ap n j = mrT Rw ord n j := by
      unfold rcT mrT
      rw [tx_is h hj hb n (Nat.le_refl n), (h.2.2.2.2.2.2.2.2.1 j hj hb).1, h.2.2.2.2.2.2.2.1 (Or.inl h0)]
    rw [if_pos e, if_pos e, ix_nI (by omega), e1]
  · rw [if_neg e, if_neg e]
theorem grp_is (h : Ans c vs ap cn n S Rw ord ch) (hap : ∀ v, v < 48 → ap v < 2 ^ 16) {st m : Nat} : ∀ v, v ≤ 48 → grp vs ap (qps S) st m v = grpM vs ap ch st m v
  | 0, _ => rfl
  | v + 1, hv => by
    rw [grp, grpM, grp_is h hap v (by omega), svd_is h (hap v (by omega))]
theorem thB_is {st : Nat} (hst : st < 65536) : thB c st 16 = true ↔ st &&& setOf c 16 = st := by
  have key : ∀ p, p ≤ 16 → (thB c st p = true ↔ ∀ q, q < p → st.testBit q = true → 0 < c q) := by
    intro p
    induction p with
    | zero => intro _; exact ⟨fun _ q hq => absurd hq (Nat.not_lt_zero q), fun _ => rfl⟩
    | succ p ih =>
      intro hp
      rw [thB, Bool.and_eq_true_iff, ih (by omega)]
      constructor
      · intro z q hq hb
        by_cases e : q = p
        · subst e
          have z2 := z.2
          rw [hb, Bool.not_true, Bool.false_or] at z2
          exact of_decide_eq_true z2
        · exact z.1 q (by omega) hb
      · intro z
        refine ⟨fun q hq hb => z q (by omega) hb, ?_⟩
        by_cases hb : st.testBit p = true
        · rw [decide_eq_true (z p (by omega) hb), Bool.or_true]
        · rw [bool_f hb]
          rfl
  rw [key 16 (Nat.le_refl _)]
  constructor
  · intro z
    apply Nat.eq_of_testBit_eq
    intro i
    rw [Nat.testBit_and]
    by_cases hi : i < 16
    · by_cases hb : st.testBit i = true
      · rw [hb, setOf_bit 16 i hi, decide_eq_true (z i hi hb)]
        rfl
      · rw [bool_f hb]
        rfl
    · rw [Nat.testBit_lt_two_pow (Nat.lt_of_lt_of_le hst (show 2 ^ 16 ≤ 2 ^ i from Nat.pow_le_pow_right (by decide) (by omega)))]
      rfl
  · intro z q hq hb
    have h1 := congrArg (fun w => w.testBit q) z
    have h2 : (st &&& setOf c 16).testBit q = st.testBit q := h1
    rw [Nat.testBit_and, hb, setOf_bit 16 q hq, Bool.true_and] at h2
    exact of_decide_eq_true h2
theorem Ans.po (h : Ans c vs ap cn n S Rw ord ch) (hap : ∀ v, v < 48 → ap v < 2 ^ 16) {bu m : Nat} {r r2 : Int32} (hm : 1 ≤ m) (hm4 : m ≤ 4) (h1 : FstC (PoC c vs ap bu (qps S) m) m r) (h2 : Lst (PoM c vs ap bu cn ch m) r2) : r = r2 := by
  refine (fst_lst (Q := PoM c vs ap bu cn ch m) hm hm4 h1 (fun t _ ht => ?_)).uniq h2 (fun t _ _ => Iff.rfl)
  unfold PoM PoC aDm
  rw [thB_is ht, h.2.2.1, grp_is h hap 48 (Nat.le_refl _)]
  constructor
  · intro z
    exact ⟨z.1, z.2.1, decide_eq_true z.2.2⟩
  · intro z
    exact ⟨z.1, z.2.1, of_decide_eq_true z.2.2⟩
end XANS
/-! raises -/
section XRAI
variable {c : Nat → Nat} {vs : Nat} {ap : Nat → Nat} {bu : Nat}
theorem cor_co {T n : Nat} {S : PSt} {M : MPt} (h : Cor c vs ap T n S M) : qco S = sg (fun i => c (mor M i)) n := by
  rw [h.2.1.2.2.2.2.1]
  exact sg_congr n (fun i hi => by rw [(h.2.1.2.1 i hi).1])
theorem ok_no {rz : Nat} (hbu : 1 ≤ bu) (h1 : OKm c vs ap bu rz) (h2 : NOc c vs ap bu rz) : False := by
  obtain ⟨m, M, a1, a2⟩ := h1
  obtain ⟨n, S, b1, b2⟩ := h2
  rcases res_same hbu b1 a1 with ⟨rfl, hC⟩ | ⟨_, q⟩
  · rw [cor_co hC] at b2
    omega
  · omega
theorem no_ok {rz : Nat} (hbu : 1 ≤ bu) (h1 : NOm c vs ap bu rz) (h2 : OKc c vs ap bu rz) : False := by
  obtain ⟨m, M, a1, a2⟩ := h1
  obtain ⟨n, S, b1, b2⟩ := h2
  rcases res_same hbu b1 a1 with ⟨rfl, hC⟩ | ⟨q, _⟩
  · rw [cor_co hC] at b2
    omega
  · omega
theorem mrch_all {M0 : MPt} (h0 : ∀ q, q < 16 → mch M0 q = false) : ∀ n (M : MPt), n ≤ 16 → MRch c vs ap n M0 M → sg (fun i => c (mor M i)) n ≤ sg (fun q => if mch M q = true then c q else 0) 16
  | 0, M, _, _ => Nat.zero_le _
  | n + 1, M, hn, ⟨z, h1, h2⟩ => by
    have ih := mrch_all h0 n z (by omega) h1
    obtain ⟨p, r, k, S9, b1, b2, b3, b4, b5, b6, b7⟩ := h2
    obtain ⟨m1, m2, m3⟩ := mxGo_some 16 _ b2
    have m1 : p < 16 := m1
    have hc : mch z p = false := (affB_ch m2).2.1
    rw [sg, (b6 n (by omega)).1, va_up_self]
    have e1 : sg (fun i => c (mor M i)) n = sg (fun i => c (mor z i)) n := sg_congr n (fun i hi => by rw [(b6 i (by omega)).1, va_up_ne _ _ (by omega)])
    have e2 := sg_up (f := fun q => if mch z q = true then c q else 0) (y := c p) 16 p m1
    have e3 : (if mch z p = true then c p else 0) = 0 := by rw [hc]; rfl
    have e4 : sg (fun q => if mch M q = true then c q else 0) 16 = sg (va_up (fun q => if mch z q = true then c q else 0) p (c p)) 16 := sg_congr 16 (fun q hq => by
      rw [b5 q hq]
      by_cases e : q = p
      · subst e
        rw [va_up_self, decide_eq_true rfl, Bool.or_true]
        rfl
      · rw [va_up_ne _ _ e, decide_eq_false e, Bool.or_false])
    have e5 : sg (va_up (fun q => if mch z q = true then c q else 0) p (c p)) 16 = sg (fun q => if mch z q = true then c q else 0) 16 + c p := by
      rw [e3] at e2
      omega
    rw [e1, e4, e5]
    omega
theorem cost_all : ∀ k, k ≤ 16 → costOf c (setOf c 16) k = sg c k
  | 0, _ => rfl
  | k + 1, hk => by
    rw [costOf, sg, cost_all k (by omega), setOf_bit 16 k (by omega)]
    by_cases e : 0 < c k
    · rw [decide_eq_true e]
      rfl
    · rw [decide_eq_false e]
      have : c k = 0 := by omega
      rw [this]
      rfl
theorem no_all {rz : Nat} (h : costOf c (setOf c 16) 16 ≤ bu) (h1 : NOm c vs ap bu rz) : False := by
  obtain ⟨n, M, ⟨hn, M0, hI, hR, -⟩, a2⟩ := h1
  have h2 := mrch_all hI.2.2 n M hn hR
  have h3 : sg (fun q => if mch M q = true then c q else 0) 16 ≤ sg c 16 := sg_le 16 (fun q _ => by split <;> omega)
  rw [cost_all 16 (Nat.le_refl _)] at h
  omega
theorem rai_j {s9 m9 j j2 : Nat} (hbu : 1 ≤ bu) (hj : j ≤ m9) (hj2 : j2 ≤ m9) (hc : costOf c (setOf c 16) 16 ≤ bu ∧ j = m9 ∨ (∀ i, 1 ≤ i → i ≤ j → OKc c vs ap bu (i * s9)) ∧ (j = m9 ∨ NOc c vs ap bu ((j + 1) * s9))) (hm : (∀ i, i ≤ j2 → OKm c vs ap bu (i * s9)) ∧ (j2 = m9 ∨ NOm c vs ap bu ((j2 + 1) * s9))) : j = j2 := by
  rcases hc with ⟨a1, a2⟩ | ⟨a1, a2⟩
  · rcases hm.2 with b | b
    · omega
    · exact (no_all a1 b).elim
  · rcases Nat.lt_trichotomy j j2 with e | e | e
    · rcases a2 with b | b
      · omega
      · exact (ok_no hbu (hm.1 (j + 1) (by omega)) b).elim
    · exact e
    · rcases hm.2 with b | b
      · omega
      · exact (no_ok hbu b (a1 (j2 + 1) (by omega) (by omega))).elim
/-- the result of both, where the reference doesn't overspend -/
theorem res_ok {rz n m : Nat} {S : PSt} {M : MPt} (hbu : 1 ≤ bu) (hS : Res c vs ap bu rz n S) (hM : MRes c vs ap bu rz m M) (hok : OKm c vs ap bu rz) : n = m ∧ Cor c vs ap (bu + cnt vs 48 * rz) n S M := by
  obtain ⟨m2, M2, a1, a2⟩ := hok
  have h1 : ¬ bu < qco S := by
    rcases res_same hbu hS a1 with ⟨rfl, hC⟩ | ⟨_, q⟩
    · rw [cor_co hC]
      omega
    · omega
  rcases res_same hbu hS hM with h | ⟨q, _⟩
  · exact h
  · exact absurd q h1
end XRAI
