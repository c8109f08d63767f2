/-! the reference as a whole -/
def ModAt (g : WG) (H : Heap) (b : Nat) (th : Int32) (c0 : Nat → Nat) (vs0 : Nat) (ap0 : Nat → Nat) (bu0 : Nat) (c : Nat → Nat) (vs : Nat) (ap : Nat → Nat) (bu cn n : Nat) (Rw ord : Nat → Nat) (ch : Nat → Bool) : Prop :=
  ∃ (py ln : Int32) (pf : Nat → Bool) (tx : Nat → Nat), obj g H b 7 (moF b th (nI bu0) (nI bu) (nI cn) (nI n) py ln) ∧ RwsAt g H b Rw ∧ NewAt g H b c0 vs0 ap0 ∧ OldAt g H b c vs ap ∧ xr_ia H (b + 8) (gI g) 16 (fun z9 => nI (ord z9)) ∧ xr_ia H (b + 9) (gZ g) 16 (fun z9 => b2i (ch z9)) ∧ xr_ia H (b + 10) (gZ g) 48 (fun z9 => b2i (pf z9)) ∧ xr_ia H (b + 11) (gI g) 2400 (fun z9 => nI (tx z9)) ∧ 1 ≤ bu0 ∧ bu0 ≤ 10000000
theorem ModAt.kept {g : WG} {H H1 : Heap} {b : Nat} {th : Int32} {c0 : Nat → Nat} {vs0 : Nat} {ap0 : Nat → Nat} {bu0 : Nat} {c : Nat → Nat} {vs : Nat} {ap : Nat → Nat} {bu cn n : Nat} {Rw ord : Nat → Nat} {ch : Nat → Bool} (h : ModAt g H b th c0 vs0 ap0 bu0 c vs ap bu cn n Rw ord ch) (hk : ∀ q, q < H.size → b ≤ q → q < b + 12 → H1[q]? = H[q]?) : ModAt g H1 b th c0 vs0 ap0 bu0 c vs ap bu cn n Rw ord ch := by
  obtain ⟨py, ln, pf, tx, h1, h2, h3, h4, h5, h6, h7, h8, h9⟩ := h
  exact ⟨py, ln, pf, tx, h1.kept (hk _ h1.lt (Nat.le_refl b) (by show b < _; omega)), h2.kept (hk _ h2.lt (by omega) (by omega)), h3.kept (fun q q1 q2 q3 => hk q q1 (by omega) (by omega)), h4.kept (fun q q1 q2 q3 => hk q q1 (by omega) (by omega)), h5.kept (hk _ h5.lt (by omega) (by omega)), h6.kept (hk _ h6.lt (by omega) (by omega)), h7.kept (hk _ h7.lt (by omega) (by omega)), h8.kept (hk _ h8.lt (by omega) (by omega)), h9⟩
theorem wi_in {v hi : Int32} {n : Nat} (h : hi.toInt + 1 = (n : Int)) : wi v 0 hi = inR v n := by
  unfold wi inR
  have e0 : (0 : Int32).toInt = 0 := rfl
  by_cases h1 : 0 ≤ v
  · have h2 := Int32.le_iff_toInt_le.mp h1
    rw [decide_eq_true h1, Bool.true_and]
    by_cases h3 : v ≤ hi
    · have h4 := Int32.le_iff_toInt_le.mp h3
      rw [decide_eq_true h3]
      exact (decide_eq_true (by omega)).symm
    · have h4 : ¬ v.toInt ≤ hi.toInt := fun q => h3 (Int32.le_iff_toInt_le.mpr q)
      rw [decide_eq_false h3]
      exact (decide_eq_false (by omega)).symm
  · have h2 : ¬ (0 : Int32).toInt ≤ v.toInt := fun q => h1 (Int32.le_iff_toInt_le.mpr q)
    rw [decide_eq_false h1, Bool.false_and]
    exact (decide_eq_false (by omega)).symm
theorem wi_rg {v hi : Int32} {M : Nat} (h : hi.toInt = (M : Int)) : wi v 1 hi = rg v M := by
  unfold wi rg
  have e0 : (1 : Int32).toInt = 1 := rfl
  by_cases h1 : 1 ≤ v
  · have h2 := Int32.le_iff_toInt_le.mp h1
    rw [decide_eq_true h1, Bool.true_and]
    by_cases h3 : v ≤ hi
    · have h4 := Int32.le_iff_toInt_le.mp h3
      rw [decide_eq_true h3]
      exact (decide_eq_true (by omega)).symm
    · have h4 : ¬ v.toInt ≤ hi.toInt := fun q => h3 (Int32.le_iff_toInt_le.mpr q)
      rw [decide_eq_false h3]
      exact (decide_eq_false (by omega)).symm
  · have h2 : ¬ (1 : Int32).toInt ≤ v.toInt := fun q => h1 (Int32.le_iff_toInt_le.mpr q)
    rw [decide_eq_false h1, Bool.false_and]
    exact (decide_eq_false (by omega)).symm
theorem rg_of {k : Int32} {M : Nat} (h : rg k M = true) : ∃ j, 1 ≤ j ∧ j ≤ M ∧ j < 2 ^ 31 ∧ k = nI j := by
  have h1 := of_decide_eq_true h
  obtain ⟨j, hj, rfl⟩ := nI_of (x := k) (fun q => by have h7 : k.toInt < 0 := Int32.lt_iff_toInt_lt.mp q; omega)
  rw [nI_toInt hj] at h1
  exact ⟨j, by omega, by omega, hj, rfl⟩
theorem bits_or {vs j : Nat} (z : Nat) : va_up (fun z9 => vs.testBit z9) j true z = (vs ||| 2 ^ j).testBit z := by
  rw [Nat.testBit_or, Nat.testBit_two_pow]
  by_cases e : z = j
  · subst e
    rw [va_up_self]
    simp
  · rw [va_up_ne _ _ e]
    have : ¬ j = z := fun q => e q.symm
    simp [this]
theorem bits_clr {vs j : Nat} (h : vs.testBit j = true) (z : Nat) : va_up (fun z9 => vs.testBit z9) j false z = (vs - 2 ^ j).testBit z := by
  rw [clr_bit h]
  by_cases e : z = j
  · subst e
    rw [va_up_self]
    simp
  · rw [va_up_ne _ _ e]
    simp [e]
