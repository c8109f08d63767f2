/-! the reference's phase, from its rows -/
def mkM (Rw : Nat → Nat) (ord : Nat → Nat) (ch : Nat → Bool) : MPt := (Rw 848, Rw, ch, ord, fun i => Rw (816 + i), fun i => Rw (832 + i), fun i v => Rw (48 + 48 * i + v))
def MWk (c : Nat → Nat) (vs : Nat) (ap : Nat → Nat) (bu rz n : Nat) (Rw : Nat → Nat) (ord : Nat → Nat) (ch : Nat → Bool) : Prop :=
  n ≤ 16 ∧ (∃ M0, MIni vs bu rz M0 ∧ MRch c vs ap n M0 (mkM Rw ord ch)) ∧ 0 < Rw 848 ∧ Rw 848 ≤ 48 ^ (n + 1) ∧ (∀ v, v < 48 → Rw v ≤ 490000000 * 48 ^ n) ∧ sg (fun q => if ch q = true then 1 else 0) 16 = n ∧ (∀ i, i < n → ord i < 16) ∧ ∀ v, v < 48 → vs.testBit v = false → Rw v = 0
theorem MWk.ext {c : Nat → Nat} {vs : Nat} {ap : Nat → Nat} {bu rz n : Nat} {Rw R1 : Nat → Nat} {ord : Nat → Nat} {ch : Nat → Bool} (h : MWk c vs ap bu rz n Rw ord ch) (he : ∀ j, j < 849 → R1 j = Rw j) : MWk c vs ap bu rz n R1 ord ch := by
  obtain ⟨h1, ⟨M0, h2, h3⟩, h4, h5, h6, h7, h8, h9⟩ := h
  have e8 := he 848 (by decide)
  refine ⟨h1, ?_, by omega, by omega, fun v hv => by rw [he v (by omega)]; exact h6 v hv, h7, h8, fun v hv hb => by rw [he v (by omega)]; exact h9 v hv hb⟩
  cases n with
  | zero =>
    cases h3
    obtain ⟨i1, i2, i3⟩ := h2
    exact ⟨mkM R1 ord ch, ⟨e8.trans i1, fun v hv => (he v (by omega)).trans (i2 v hv), i3⟩, rfl⟩
  | succ n =>
    obtain ⟨z, a1, p, r, k, S, b1, b2, b3, b4, b5, b6, b7⟩ := h3
    exact ⟨M0, h2, z, a1, p, r, k, S, b1, b2, e8.trans b3, fun v hv => (he v (by omega)).trans (b4 v hv), b5, fun i hi => ⟨(b6 i hi).1, (he (816 + i) (by omega)).trans (b6 i hi).2.1, (he (832 + i) (by omega)).trans (b6 i hi).2.2⟩, fun i v hi hv hb => (he (48 + 48 * i + v) (by omega)).trans (b7 i v hi hv hb)⟩
theorem MWk.bd {c : Nat → Nat} {vs : Nat} {ap : Nat → Nat} {bu rz n : Nat} {Rw : Nat → Nat} {ord : Nat → Nat} {ch : Nat → Bool} (h : MWk c vs ap bu rz n Rw ord ch) : BdR Rw := by
  obtain ⟨h1, -, -, h5, h6, -⟩ := h
  refine ⟨fun v hv => Nat.le_trans (h6 v hv) ?_, Nat.le_trans h5 ?_⟩
  · refine Nat.le_trans (Nat.mul_le_mul_left _ (Nat.pow_le_pow_right (by decide) h1)) (by decide)
  · refine Nat.le_trans (Nat.pow_le_pow_right (by decide) (show n + 1 ≤ 17 by omega)) (by decide)
theorem MWk.lt {c : Nat → Nat} {vs : Nat} {ap : Nat → Nat} {bu rz n : Nat} {Rw : Nat → Nat} {ord : Nat → Nat} {ch : Nat → Bool} (h : MWk c vs ap bu rz n Rw ord ch) {p : Nat} (hp : p < 16) (hc : ch p = false) : n < 16 := by
  obtain ⟨-, -, -, -, -, h7, -⟩ := h
  rw [← h7]
  have h3 : sg (fun q => if ch q = true then 1 else 0) 16 < sg (fun _ => 1) 16 := sg_lt 16 p (fun i _ => by
    show (if ch i = true then 1 else 0) ≤ 1
    split <;> omega) hp (by
    show (if ch p = true then 1 else 0) < 1
    rw [hc]
    decide)
  rw [sg_const] at h3
  exact h3
theorem shM_le {u : Nat → Bool} {x : Nat → Nat} {r k v : Nat} : shM u x r k v ≤ x v * k := by
  unfold shM
  split
  · exact Nat.min_le_left _ _
  · exact Nat.zero_le _
theorem MWk.next {c : Nat → Nat} {vs : Nat} {ap : Nat → Nat} {bu rz n : Nat} {Rw R1 : Nat → Nat} {ord : Nat → Nat} {ch : Nat → Bool} (h : MWk c vs ap bu rz n Rw ord ch) {S : Nat → Nat × Nat} {w : Nat × Nat × Nat} {r k : Nat}
    (hS : ∀ q, q < 16 → affB c vs ap (Rw 848) Rw ch q = true → IsSh (sqp vs ap q) Rw (Rw 848 * c q) (S q).1 (S q).2) (hm : mxGo S (affB c vs ap (Rw 848) Rw ch) c 16 = some w) (hs : IsSh (sqp vs ap w.1) Rw (Rw 848 * c w.1) r k)
    (e1 : R1 848 = Rw 848 * k) (e2 : ∀ v, v < 48 → R1 v = if vs.testBit v = true then Rw v * k - shM (sqp vs ap w.1) Rw r k v else Rw v) (e3 : ∀ v, v < 48 → vs.testBit v = true → R1 (48 + 48 * n + v) = shM (sqp vs ap w.1) Rw r k v) (e4 : R1 (816 + n) = Rw 848 * k) (e5 : R1 (832 + n) = r)
    (e6 : ∀ j, 48 ≤ j → j < 848 → ¬ (48 + 48 * n ≤ j ∧ j < 96 + 48 * n) → j ≠ 816 + n → j ≠ 832 + n → R1 j = Rw j) : MWk c vs ap bu rz (n + 1) R1 (va_up ord n w.1) (va_up ch w.1 true) := by
  obtain ⟨m1, m2, m3⟩ := mxGo_some 16 w hm
  have hun := hs.uniq (by have := hS w.1 m1 m2; rw [← m3] at this; exact this)
  have ha := affB_ch m2
  have hlt := h.lt m1 ha.2.1
  obtain ⟨h1, ⟨M0, h2, h3⟩, h4, h5, h6, h7, h8, h9⟩ := h
  have hk48 := hs.kle.1
  have hx : ∀ v, v < 48 → R1 v = Rw v * k - shM (sqp vs ap w.1) Rw r k v := fun v hv => by
    rw [e2 v hv]
    by_cases q : vs.testBit v = true
    · rw [if_pos q]
    · rw [if_neg q, h9 v hv (bool_f q), Nat.zero_mul, Nat.zero_sub]
  refine ⟨by omega, ⟨M0, h2, mkM Rw ord ch, h3, w.1, r, k, S, hS, ?_, e1, hx, fun q hq => ?_, fun i hi => ⟨rfl, ?_, ?_⟩, fun i v hi hv hb => ?_⟩, by rw [e1]; exact Nat.mul_pos h4 hs.1, ?_, fun v hv => ?_, ?_, fun i hi => ?_, fun v hv hb => ?_⟩
  · show mxGo S (affB c vs ap (Rw 848) Rw ch) c 16 = some (w.1, r, k)
    rw [hm, hun.1, hun.2]
  · show va_up ch w.1 true q = (ch q || decide (q = w.1))
    by_cases e : q = w.1
    · rw [e, va_up_self, decide_eq_true rfl, Bool.or_true]
    · rw [va_up_ne _ _ e, decide_eq_false e, Bool.or_false]
  · show R1 (816 + i) = va_up (fun i => Rw (816 + i)) n (Rw 848 * k) i
    by_cases e : i = n
    · rw [e, va_up_self, e4]
    · rw [va_up_ne _ _ e, e6 _ (by omega) (by omega) (by omega) (by omega) (by omega)]
  · show R1 (832 + i) = va_up (fun i => Rw (832 + i)) n r i
    by_cases e : i = n
    · rw [e, va_up_self, e5]
    · rw [va_up_ne _ _ e, e6 _ (by omega) (by omega) (by omega) (by omega) (by omega)]
  · show R1 (48 + 48 * i + v) = if i = n then shM (sqp vs ap w.1) Rw r k v else Rw (48 + 48 * i + v)
    by_cases e : i = n
    · rw [if_pos e, e, e3 v hv hb]
    · rw [if_neg e, e6 _ (by omega) (by omega) (by omega) (by omega) (by omega)]
  · rw [e1, Nat.pow_succ]
    exact Nat.mul_le_mul h5 hk48
  · rw [hx v hv, Nat.pow_succ, ← Nat.mul_assoc]
    exact Nat.le_trans (Nat.sub_le _ _) (Nat.mul_le_mul (h6 v hv) hk48)
  · have b1 := sg_up (f := fun q => if ch q = true then 1 else 0) (y := 1) 16 w.1 m1
    have b2 : sg (fun q => if va_up ch w.1 true q = true then 1 else 0) 16 = sg (va_up (fun q => if ch q = true then 1 else 0) w.1 1) 16 := sg_congr 16 (fun q _ => by
      by_cases e : q = w.1
      · rw [e, va_up_self, va_up_self]
        rfl
      · rw [va_up_ne _ _ e, va_up_ne _ _ e])
    rw [b2]
    simp only [ha.2.1] at b1
    have b3 : (if false = true then 1 else 0) = 0 := rfl
    rw [b3] at b1
    omega
  · by_cases e : i = n
    · rw [e, va_up_self]
      exact m1
    · rw [va_up_ne _ _ e]
      exact h8 i (by omega)
  · rw [e2 v hv, if_neg (by rw [hb]; decide), h9 v hv hb]
theorem MWk.init {c : Nat → Nat} {vs : Nat} {ap : Nat → Nat} {bu rz : Nat} {Rw : Nat → Nat} {ord : Nat → Nat} {ch : Nat → Bool} (hb : bu ≤ 10000000) (hz : rz ≤ 10000000) (e1 : Rw 848 = if cnt vs 48 = 0 then 1 else cnt vs 48) (e2 : ∀ v, v < 48 → Rw v = if vs.testBit v = true then bu + cnt vs 48 * rz else 0) (e3 : ∀ q, q < 16 → ch q = false) : MWk c vs ap bu rz 0 Rw ord ch := by
  have hc := cnt_le vs 48
  have h1 : cnt vs 48 * rz ≤ 48 * 10000000 := Nat.mul_le_mul hc hz
  refine ⟨by omega, ⟨mkM Rw ord ch, ⟨e1, e2, e3⟩, rfl⟩, by rw [e1]; split <;> omega, by rw [e1]; split <;> omega, fun v hv => ?_, sg_zero 16 (fun q hq => by rw [e3 q hq]; rfl), fun i hi => absurd hi (Nat.not_lt_zero i), fun v hv q => by rw [e2 v hv, if_neg (by rw [q]; decide)]⟩
  rw [e2 v hv, Nat.pow_zero, Nat.mul_one]
  split <;> omega
theorem MWk.res {c : Nat → Nat} {vs : Nat} {ap : Nat → Nat} {bu rz n : Nat} {Rw : Nat → Nat} {ord : Nat → Nat} {ch : Nat → Bool} (h : MWk c vs ap bu rz n Rw ord ch) {S : Nat → Nat × Nat} (hm : mxGo S (affB c vs ap (Rw 848) Rw ch) c 16 = none) : MRes c vs ap bu rz n (mkM Rw ord ch) := by
  obtain ⟨h1, ⟨M0, h2, h3⟩, -⟩ := h
  exact ⟨h1, M0, h2, h3, (mxGo_none 16).mp hm⟩
theorem nx_ext {c : Nat → Nat} {vs : Nat} {ap : Nat → Nat} {Rw R1 : Nat → Nat} {ch : Nat → Bool} {S : Nat → Nat × Nat} (he : ∀ j, j < 849 → R1 j = Rw j) (hS : ∀ q, q < 16 → affB c vs ap (Rw 848) Rw ch q = true → IsSh (sqp vs ap q) Rw (Rw 848 * c q) (S q).1 (S q).2) : affB c vs ap (Rw 848) Rw ch = affB c vs ap (R1 848) R1 ch ∧ ∀ q, q < 16 → affB c vs ap (R1 848) R1 ch q = true → IsSh (sqp vs ap q) R1 (R1 848 * c q) (S q).1 (S q).2 := by
  have e : affB c vs ap (Rw 848) Rw ch = affB c vs ap (R1 848) R1 ch := by
    funext q
    exact affB_congr (he 848 (by decide)).symm (fun v hv => (he v (by omega)).symm)
  refine ⟨e, fun q hq ha => ?_⟩
  rw [← e] at ha
  rw [he 848 (by decide)]
  exact (hS q hq ha).ext (fun v hv => (he v (by omega)).symm)
theorem cnt_y {x v : Nat} (h : x.testBit v = true) : cnt x (v + 1) = cnt x v + 1 := by
  rw [cnt, cnt_sg x v]
  rw [Nat.testBit_eq_decide_div_mod_eq] at h
  rw [of_decide_eq_true h]
theorem cnt_n {x v : Nat} (h : x.testBit v = false) : cnt x (v + 1) = cnt x v := by
  rw [cnt]
  rw [Nat.testBit_eq_decide_div_mod_eq] at h
  have h1 := of_decide_eq_false h
  have h2 : x / 2 ^ v % 2 < 2 := Nat.mod_lt _ (by decide)
  omega
