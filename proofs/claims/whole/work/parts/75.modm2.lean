/-! the reference's small things -/
def wi (v lo hi : Int32) : Bool := decide (lo ≤ v) && decide (v ≤ hi)
theorem i_nle {a b : Int32} (h : a < b) (q : b ≤ a) : False := by
  have h1 := Int32.lt_iff_toInt_lt.mp h
  have h2 := Int32.le_iff_toInt_le.mp q
  omega
theorem i_le {a b : Int32} (h : ¬ a < b) : b ≤ a := by
  refine Int32.le_iff_toInt_le.mpr ?_
  have h1 : ¬ a.toInt < b.toInt := fun q => h (Int32.lt_iff_toInt_lt.mpr q)
  omega
theorem i_or16 {a h : Nat} (ha : a < 65536) : nI a ||| nI (h * 65536) = nI (a + h * 65536) := by
  rw [nI_or]
  congr 1
  have := Nat.two_pow_add_eq_or_of_lt (i := 16) ha h
  rw [Nat.or_comm, Nat.mul_comm h, ← this, Nat.add_comm]
theorem q_s {la lc : Nat} (h : lc ≤ la + 1) : nI la - nI lc + 1 = nI (la + 1 - lc) := by
  have h1 : nI (la + 1 - lc) + nI lc = nI la + nI 1 := by rw [nI_add, nI_add]; congr 1; omega
  have e : nI 1 = (1 : Int32) := rfl
  rw [e] at h1
  generalize nI (la + 1 - lc) = X at *
  generalize nI la = A at *
  generalize nI lc = B at *
  grind
theorem q_sl {la lc : Nat} (ha : la ≤ 192) (hc : lc ≤ 192) (h : ¬ 0 ≤ nI la - nI lc + 1) : la + 1 < lc := by
  refine Nat.lt_of_not_le (fun q => h ?_)
  rw [q_s q]
  exact nI_pos' (by omega)
theorem q_sn {la lc : Nat} (ha : la ≤ 192) (hc : lc ≤ 192) (h : 0 ≤ nI la - nI lc + 1) : lc ≤ la + 1 := by
  refine Nat.le_of_not_lt (fun q => ?_)
  have e : nI la - nI lc + 1 = nI (la + 1) - nI lc := by
    have h1 : nI (la + 1) = nI la + 1 := nI_succ la
    rw [h1]
    generalize nI la = A at *
    generalize nI lc = B at *
    grind
  rw [e] at h
  exact i_nle (pk_sneg (by omega) q) h
