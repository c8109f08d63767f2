/-! what both sides hold after a phase -/
theorem smooth1 : Smooth 1 := fun d h1 h2 => by
  have := Nat.le_of_dvd (by decide) h2
  omega
theorem smooth_k {k : Nat} (h0 : 0 < k) (hk : k ≤ 48) : Smooth k := by
  have := sm_mul smooth1 h0 hk
  rw [Nat.one_mul] at this
  exact this
def RInv (n : Nat) (S : PSt) : Prop := qpc S ≤ 48 ∧ (∀ v, v < 48 → qemp S v ≤ 16) ∧ 0 < qB S ∧ Smooth (qB S) ∧ ∀ r, r < n → 0 < qbas S r ∧ Smooth (qbas S r)
theorem payE_le {pur emp pay ap : Nat → Nat} {p k r rd v : Nat} (h : emp v ≤ 16) (hrd : rd ≤ 16) : ∀ n, payE pur emp pay ap p k r rd n v ≤ 16
  | 0 => h
  | n + 1 => by
    rw [payE]
    split
    · by_cases e : v = pay n
      · rw [e, va_up_self]
        exact hrd
      · rw [va_up_ne _ _ e]
        exact payE_le h hrd n
    · exact payE_le h hrd n
theorem RInv.next {c ap : Nat → Nat} {n : Nat} {S S2 : PSt} (hn : n < 16) (h : RInv n S) (hR : rndR c ap n S S2) : RInv (n + 1) S2 := by
  obtain ⟨p, r, k, pay2, a1, a2, a3, rfl⟩ := rndR_is hR
  obtain ⟨h1, h2, h3, h4, h5⟩ := h
  have q1 := fcGo_in 16 _ a1
  have q2 := fcGo_true 16 _ a1
  have q3 : (r, k) = (clS c ap S p).2 := q1.2
  have hk : k = (clS c ap S p).2.2 := by rw [← q3]
  have hk0 : 0 < k := by rw [hk]; exact shr_pos _ _ q2.1
  have hk48 : k ≤ 48 := by
    rw [hk]
    exact Nat.le_trans (shr_le _ _).2 (Nat.le_trans (supL_len _ _) h1)
  have hB := sm_mul h4 hk0 hk48
  refine ⟨Nat.le_trans (payC_le (qpc S)) h1, fun v hv => payE_le (h2 v hv) (by omega) (qpc S), Nat.mul_pos h3 hk0, hB, fun i hi => ?_⟩
  show 0 < va_up (qbas S) n (qB S * k) i ∧ Smooth (va_up (qbas S) n (qB S * k) i)
  by_cases e : i = n
  · rw [e, va_up_self]
    exact ⟨Nat.mul_pos h3 hk0, hB⟩
  · rw [va_up_ne _ _ e]
    exact h5 i (by omega)
theorem RInv.run {c ap : Nat → Nat} {S0 : PSt} (h : RInv 0 S0) : ∀ n (S : PSt), n ≤ 16 → Rch c ap n S0 S → RInv n S
  | 0, S, _, hS => by
    cases hS
    exact h
  | n + 1, S, hn, hS => by
    obtain ⟨S1, s1, s2⟩ := hS
    exact (h.run n S1 (by omega) s1).next (by omega) s2
theorem res_inv {c : Nat → Nat} {vs : Nat} {ap : Nat → Nat} {bu rz n : Nat} {S : PSt} (h : Res c vs ap bu rz n S) : RInv n S := by
  obtain ⟨pur, las, emp, pay, pik, rat, bas, hn, hR, -, -⟩ := h
  have hc := cnt_le vs 48
  refine RInv.run ?_ n S hn hR
  refine ⟨vlG_le 48, fun v hv => ?_, ?_, ?_, fun r hr => absurd hr (Nat.not_lt_zero r)⟩
  · show emG emp 48 v ≤ 16
    rw [emG_at 48 v hv]
    exact Nat.le_refl 16
  · show 0 < if cnt vs 48 = 0 then 1 else cnt vs 48
    split <;> omega
  · show Smooth (if cnt vs 48 = 0 then 1 else cnt vs 48)
    split
    · exact smooth1
    · exact smooth_k (by omega) hc
def Ans (c : Nat → Nat) (vs : Nat) (ap : Nat → Nat) (cn n : Nat) (S : PSt) (Rw ord : Nat → Nat) (ch : Nat → Bool) : Prop :=
  PhQ c vs ap n S ∧ MqOK c vs ap n Rw ord ch ∧ cn = cnt vs 48 ∧ (∀ i, i < n → ord i = qpik S i ∧ Rw (816 + i) = qbas S i ∧ Rw (832 + i) = qrat S i) ∧ (∀ q, q < 16 → ch q = (qps S).testBit q) ∧ (∀ q, q < 16 → (ch q = true ↔ ∃ i, i < n ∧ qpik S i = q)) ∧ qco S = sg (fun i => c (qpik S i)) n ∧ ((vs ≠ 0 ∨ ∃ p, p < 16 ∧ 0 < c p) → Rw 848 = qB S) ∧ (∀ v, v < 48 → vs.testBit v = true → Rw v = qpur S v ∧ ∀ i, i < n → Rw (48 + 48 * i + v) = pyN S ap v i ∧ (pyN S ap v i = 0 ↔ qemp S v < i ∨ (ap v).testBit (qpik S i) = false)) ∧ ∀ p, p < 16 → (supL (qpur S) (qpay S) ap p (qpc S) 0).sum = sg (suM (sqp vs ap p) Rw) 48
theorem Ans.ext {c : Nat → Nat} {vs : Nat} {ap : Nat → Nat} {cn n : Nat} {S : PSt} {Rw R1 ord : Nat → Nat} {ch : Nat → Bool} (h : Ans c vs ap cn n S Rw ord ch) (he : ∀ j, j < 849 → R1 j = Rw j) : Ans c vs ap cn n S R1 ord ch := by
  obtain ⟨h1, h2, h3, h4, h5, h6, h7, h8, h9, h10⟩ := h
  have hn := h2.1
  refine ⟨h1, h2.ext he, h3, fun i hi => by rw [he (816 + i) (by omega), he (832 + i) (by omega)]; exact h4 i hi, h5, h6, h7, fun q => by rw [he 848 (by decide)]; exact h8 q, fun v hv hb => ⟨by rw [he v (by omega)]; exact (h9 v hv hb).1, fun i hi => by rw [he _ (by omega)]; exact (h9 v hv hb).2 i hi⟩, fun p hp => ?_⟩
  rw [h10 p hp]
  exact (sg_su (fun v hv => he v (by omega))).symm
theorem ans_of {c : Nat → Nat} {vs : Nat} {ap : Nat → Nat} {bu rz n T : Nat} {S : PSt} {Rw ord : Nat → Nat} {ch : Nat → Bool} (hR : Res c vs ap bu rz n S) (hM : MRes c vs ap bu rz n (mkM Rw ord ch)) (hW : MWk c vs ap bu rz n Rw ord ch) (hC : Cor c vs ap T n S (mkM Rw ord ch))
    (hb1 : ∀ v, v < 48 → qpur S v < 2 ^ 128 ∧ qlas S v < 2 ^ 128) (hb2 : ∀ r, r < 16 → qrat S r < 2 ^ 128 ∧ qbas S r < 2 ^ 128) : Ans c vs ap (cnt vs 48) n S Rw ord ch := by
  obtain ⟨r1, r2, r3, r4, r5⟩ := res_inv hR
  obtain ⟨pur, las, emp, pay, pik, rat, bas, hn, -, -, hP⟩ := hR
  obtain ⟨hA, hB, hO, hCc, hT⟩ := hC
  obtain ⟨hm, M0, hI, hMR, hno⟩ := hM
  obtain ⟨p1, p2, p3, p4, p5, p6, p7, p8⟩ := hP
  have hsum : ∀ p, (supL (qpur S) (qpay S) ap p (qpc S) 0).sum = sg (suM (sqp vs ap p) Rw) 48 := fun p => by
    have h1 := supL_all (ap := ap) (p := p) hA.2.2.2.1 (fun y => y) rfl
    rw [List.map_id'] at h1
    rw [h1]
    exact (hA.sum ap p).symm
  have hunc : ∀ p, p < 16 → 0 < c p → ch p = false → sg (suM (sqp vs ap p) Rw) 48 ≤ Rw 848 * c p := fun p hp h0 hq => by
    have h1 := hno p hp
    unfold affB at h1
    have e1 : mch (mkM Rw ord ch) p = false := hq
    rw [decide_eq_true h0, e1, Bool.true_and, Bool.not_false, Bool.true_and] at h1
    have h2 : ¬ Rw 848 * c p ≤ sg (suM (sqp vs ap p) Rw) 48 := of_decide_eq_false h1
    omega
  have hD : Rw 848 = qB S := hA.1
  have hx : ∀ v, v < 48 → vs.testBit v = true → Rw v = qpur S v := fun v hv hb => by
    have := hA.2.2.1 v hv
    rw [if_pos hb] at this
    exact this
  have hB17 : qB S ≤ 48 ^ 17 := Nat.le_trans p5 (Nat.pow_le_pow_right (by decide) (by omega))
  have hpm : ∀ v, v < 48 → vs.testBit v = true → ∀ i, i < n → Rw (48 + 48 * i + v) = pyN S ap v i ∧ (pyN S ap v i = 0 ↔ qemp S v < i ∨ (ap v).testBit (qpik S i) = false) := fun v hv hb i hi => by
    have h1 := hCc v hv hb
    refine ⟨h1.2 i hi, ?_⟩
    unfold pyN
    by_cases e : qemp S v < i ∨ (ap v).testBit (qpik S i) = false
    · rw [if_pos e]
      exact ⟨fun _ => e, fun _ => rfl⟩
    · rw [if_neg e]
      refine ⟨fun q => ?_, fun q => absurd q e⟩
      by_cases e2 : i = qemp S v
      · rw [if_pos e2] at q
        rcases h1.1 with z | z
        · omega
        · omega
      · rw [if_neg e2] at q
        have := (hB.2.1 i hi).2.2.2.2.1
        omega
  have hpy : ∀ v, v < 48 → vs.testBit v = true → ∀ i, i < n → pyN S ap v i < 2 ^ 128 := fun v hv hb i hi => by
    unfold pyN
    split
    · exact Nat.two_pow_pos 128
    · split
      · exact (hb1 v hv).2
      · exact (hb2 i (by omega)).1
  refine ⟨⟨hn, fun i hi => (hB.2.1 i hi).2.2.2.1, r2, hB.2.2.2.2.2, r1, fun i hi => (hA.2.2.2.1.1 i hi).1, ?_, fun _ => ⟨r3, r4⟩, r5, ?_, fun p hp h0 hr => ?_⟩, ⟨hn, fun i hi => ?_, hW.bd.1, ?_, fun i hi => ?_, fun i v hi hv hb => ?_, fun _ => by rw [hD]; exact r3, hunc⟩, rfl, fun i hi => ?_, fun q hq => hB.1 q hq, fun q hq => hB.2.2.1 q hq, hB.2.2.2.2.1, fun _ => hD, fun v hv hb => ⟨hx v hv hb, hpm v hv hb⟩, fun p _ => hsum p⟩
  · omega
  · exact Nat.lt_of_le_of_lt (Nat.mul_le_mul_right _ hB17) (by decide)
  · rw [hsum p, ← hD]
    refine hunc p hp h0 (bool_f (fun q => ?_))
    obtain ⟨i, hi, e⟩ := (hB.2.2.1 p hp).mp q
    rcases rnd_cases (pik := qpik S) (n := n) (i0 := nI p) with ⟨-, z⟩ | ⟨r, hr9, z, -⟩
    · exact z i hi (by rw [e])
    · rw [hr] at z
      have hr16 : r < 2 ^ 31 := by omega
      exact nI_m1 hr16 z.symm
  · have := hB.2.1 i hi
    have e : ord i = qpik S i := this.1
    rw [e]
    exact this.2.2.2.1
  · rw [hD]
    exact Nat.le_trans hB17 (by decide)
  · have := hB.2.1 i hi
    have e1 : Rw (816 + i) = qbas S i := this.2.1
    have e2 : Rw (832 + i) = qrat S i := this.2.2.1
    rw [e1, e2]
    exact ⟨this.2.2.2.2.2, (hb2 i (by omega)).2, (hb2 i (by omega)).1⟩
  · rw [(hpm v hv hb i hi).1]
    exact hpy v hv hb i hi
  · have := hB.2.1 i hi
    exact ⟨this.1, this.2.1, this.2.2.1⟩
theorem desk_bd {g : WG} {H : Heap} {a : Nat} {c0 : Nat → Nat} {vs0 : Nat} {ap0 : Nat → Nat} {bu0 : Nat} {c : Nat → Nat} {vs : Nat} {ap : Nat → Nat} {bu n : Nat} {S : PSt} {ow : Int32} {tx : List Nat} (h : DeskAt g H a c0 vs0 ap0 bu0 c vs ap bu n S ow tx) : (∀ v, v < 48 → qpur S v < 2 ^ 128 ∧ qlas S v < 2 ^ 128) ∧ (∀ r, r < 16 → qrat S r < 2 ^ 128 ∧ qbas S r < 2 ^ 128) ∧ 1 ≤ bu0 ∧ bu0 ≤ 10000000 ∧ 1 ≤ bu ∧ bu ≤ 10000000 := by
  obtain ⟨rs, tr, t, u, y, n2, S2, h0, h1, h2, h3, h4, h5, h6, h7, -⟩ := h
  obtain ⟨op, bs, tq, rb, kb, rq, kq, g1, g2, g3, g4, g5, g6, g7, g8, g9, g10, -⟩ := h7
  exact ⟨fun v hv => ⟨(g4.2 v hv).2.2, (g5.2 v hv).2.2⟩, fun r hr => ⟨(g9.2 r hr).2.2, (g10.2 r hr).2.2⟩, h2.2.2.2.2.2.2.1, h2.2.2.2.2.2.2.2, h3.2.2.2.2.2.2.1, h3.2.2.2.2.2.2.2⟩
