/-! what the reference answers -/
def MqOK (c : Nat → Nat) (vs : Nat) (ap : Nat → Nat) (n : Nat) (Rw ord : Nat → Nat) (ch : Nat → Bool) : Prop :=
  n ≤ 16 ∧ (∀ i, i < n → ord i < 16) ∧ (∀ v, v < 48 → Rw v ≤ 2 ^ 125) ∧ Rw 848 ≤ 2 ^ 100 ∧ (∀ i, i < n → 0 < Rw (816 + i) ∧ Rw (816 + i) < 2 ^ 128 ∧ Rw (832 + i) < 2 ^ 128) ∧ (∀ i v, i < n → v < 48 → vs.testBit v = true → Rw (48 + 48 * i + v) < 2 ^ 128) ∧ ((vs ≠ 0 ∨ ∃ p, p < 16 ∧ 0 < c p) → 0 < Rw 848) ∧ ∀ p, p < 16 → 0 < c p → ch p = false → sg (suM (sqp vs ap p) Rw) 48 ≤ Rw 848 * c p
theorem MqOK.ext {c : Nat → Nat} {vs : Nat} {ap : Nat → Nat} {n : Nat} {Rw R1 ord : Nat → Nat} {ch : Nat → Bool} (h : MqOK c vs ap n Rw ord ch) (he : ∀ j, j < 849 → R1 j = Rw j) : MqOK c vs ap n R1 ord ch := by
  obtain ⟨h1, h2, h3, h4, h5, h6, h7, h8⟩ := h
  have e8 := he 848 (by decide)
  refine ⟨h1, h2, fun v hv => by rw [he v (by omega)]; exact h3 v hv, by rw [e8]; exact h4, fun i hi => by rw [he (816 + i) (by omega), he (832 + i) (by omega)]; exact h5 i hi, fun i v hi hv hb => by rw [he _ (by omega)]; exact h6 i v hi hv hb, fun q => by rw [e8]; exact h7 q, fun p hp hc hq => ?_⟩
  rw [e8, sg_su (x2 := Rw) (fun v hv => he v (by omega))]
  exact h8 p hp hc hq
abbrev isP (part word : Int32) : Bool := wi part 0 1 && decide (0 ≤ word)
theorem isP_t {part word : Int32} (h : isP part word = true) : (part = 0 ∨ part = 1) ∧ ∃ j, j < 2 ^ 31 ∧ word = nI j := by
  have h1 := Bool.and_eq_true_iff.mp h
  have h2 : inR part 2 = true := by rw [← wi_in (v := part) (hi := 1) (n := 2) rfl]; exact h1.1
  obtain ⟨i, hi, rfl⟩ := inR_of h2 (by decide)
  refine ⟨?_, nI_of (fun q => i_nle q (of_decide_eq_true h1.2))⟩
  rcases (show i = 0 ∨ i = 1 by omega) with rfl | rfl
  · exact Or.inl rfl
  · exact Or.inr rfl
theorem rwd_np {t u : Nat} {part word : Int32} (h : isP part word = false) : rwd t u part word = 0 := by
  unfold rwd
  by_cases hw : 0 ≤ word.toInt
  · have hw2 : (0 : Int32) ≤ word := Int32.le_iff_toInt_le.mpr hw
    have h2 : wi part 0 1 = false := by
      unfold isP at h
      rw [decide_eq_true hw2, Bool.and_true] at h
      exact h
    have h3 : ¬ part = 0 := fun q => by rw [q] at h2; exact absurd h2 (by decide)
    have h4 : ¬ part = 1 := fun q => by rw [q] at h2; exact absurd h2 (by decide)
    rw [if_neg h3, if_neg h4]
  · have hc : ¬ (0 ≤ word.toInt ∧ word.toInt < 4) := fun q => hw q.1
    simp only [hc, if_false]
    split
    · rfl
    · split <;> rfl
theorem wd_hi {x j : Nat} (h : x < 2 ^ 128) (hj : 4 ≤ j) : wd x j = 0 := by
  unfold wd
  rw [Nat.div_eq_of_lt (Nat.lt_of_lt_of_le h (Nat.pow_le_pow_right (by decide) (by omega)))]
  rfl
theorem rwd_j {t u j : Nat} {part : Int32} (ht : t < 2 ^ 128) (hu : u < 2 ^ 128) (hj : j < 2 ^ 31) (hp : part = 0 ∨ part = 1) : rwd t u part (nI j) = wd (if part = 0 then t else u) j := by
  unfold rwd
  rw [nI_toInt hj]
  have e1 : ¬ (1 : Int32) = 0 := by decide
  by_cases h4 : j < 4
  · have hc : 0 ≤ (j : Int) ∧ (j : Int) < 4 := by omega
    rcases hp with rfl | rfl
    · rw [if_pos rfl, if_pos hc, if_pos rfl]
      rfl
    · rw [if_neg e1, if_pos rfl, if_pos hc, if_neg e1]
      rfl
  · have hc : ¬ (0 ≤ (j : Int) ∧ (j : Int) < 4) := by omega
    rcases hp with rfl | rfl
    · rw [if_pos rfl, if_neg hc, if_pos rfl]
      exact (wd_hi ht (by omega)).symm
    · rw [if_neg e1, if_pos rfl, if_neg hc, if_neg e1]
      exact (wd_hi hu (by omega)).symm
theorem wd_lb {x j : Nat} : nI (lb x (2 * j) + lb x (2 * j + 1) * 65536) = wd x j := by
  unfold wd lb
  congr 1
  have e1 : 16 * (2 * j) = 32 * j := by omega
  have e2 : 2 ^ (16 * (2 * j + 1)) = 2 ^ (32 * j) * 65536 := by rw [show 16 * (2 * j + 1) = 32 * j + 16 by omega, Nat.pow_add]
  rw [e1, e2, ← Nat.div_div_eq_div_mul]
  generalize x / 2 ^ (32 * j) = y
  omega
theorem rwd01 {part word : Int32} (hp : part = 0 ∨ part = 1) {j : Nat} (hj : j < 2 ^ 31) (hw : word = nI j) : rwd 0 1 part word = if part = 1 ∧ word = 0 then 1 else 0 := by
  subst hw
  rw [rwd_j (by decide) (by decide) hj hp]
  rcases hp with rfl | rfl
  · rw [if_pos rfl, if_neg (fun q => absurd q.1 (by decide)), wd_zero]
  · rw [if_neg (by decide)]
    by_cases e : j = 0
    · subst e
      rfl
    · rw [if_neg (fun q => e ((nI_inj (b := 0) (by omega) (by decide)).mp q.2))]
      unfold wd
      rw [Nat.div_eq_of_lt (Nat.one_lt_two_pow (by omega))]
      rfl
theorem n_pred : ∀ n, n ≤ 16 → (nI n - 1).toInt + 1 = (n : Int) := by decide +kernel
def svd (ch : Nat → Bool) (ap : Nat → Nat) (v p : Nat) : Nat := if ch p = true ∧ (ap v).testBit p = true then 1 else 0
def mCh (n : Nat) (ord : Nat → Nat) (i : Int32) : Int32 := if inR i n = true then nI (ord (ix i)) else -1
def mPu (vs : Nat) (Rw : Nat → Nat) (v part word : Int32) : Int32 := if isV vs v = true then wQ (Rw (ix v)) (Rw 848) part word else 0
def mPd (vs n : Nat) (Rw ord : Nat → Nat) (v p part word : Int32) : Int32 := if isV vs v = true then (if rnd ord n p = -1 then rwd 0 1 part word else wQ (Rw (48 + 48 * ix (rnd ord n p) + ix v)) (Rw (816 + ix (rnd ord n p))) part word) else 0
def mRa (n : Nat) (Rw ord : Nat → Nat) (p part word : Int32) : Int32 := if rnd ord n p = -1 then 0 else wQ (Rw (832 + ix (rnd ord n p))) (Rw (816 + ix (rnd ord n p))) part word
def mMi (c : Nat → Nat) (vs : Nat) (ap : Nat → Nat) (Rw : Nat → Nat) (ch : Nat → Bool) (p part word : Int32) : Int32 := if oDr c p = true ∧ ch (ix p) = false then wQ (Rw 848 * c (ix p) - sg (suM (sqp vs ap (ix p)) Rw) 48) (Rw 848) part word else 0
def mSe (vs : Nat) (ap : Nat → Nat) (ch : Nat → Bool) (v : Int32) : Int32 := if isV vs v = true then nI (sg (svd ch ap (ix v)) 16) else 0
