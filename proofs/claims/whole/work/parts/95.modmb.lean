/-! the reference's text -/
def TxOK (tx : Nat → Nat) (tl : List Nat) : Prop := ∀ j, j < tl.length → tx j = tl.getD j 0
theorem getD_l {tl t2 : List Nat} {j : Nat} (h : j < tl.length) : (tl ++ t2).getD j 0 = tl.getD j 0 := by
  simp [List.getD, List.getElem?_append_left h]
theorem getD_r {tl t2 : List Nat} {j : Nat} : (tl ++ t2).getD (tl.length + j) 0 = t2.getD j 0 := by
  simp [List.getD, List.getElem?_append_right]
theorem TxOK.app {tx : Nat → Nat} {tl : List Nat} {c : Nat} (h : TxOK tx tl) : TxOK (va_up tx tl.length c) (tl ++ [c]) := fun j hj => by
  by_cases e : j = tl.length
  · subst e
    rw [va_up_self]
    simp [List.getD]
  · have h1 : j < tl.length := by
      rw [List.length_append] at hj
      simp at hj
      omega
    rw [va_up_ne _ _ e, getD_l h1]
    exact h j h1
theorem dg_at {n : Nat} : ∀ k i, i < k → (dg n k).getD i 0 = 48 + n / 10 ^ (k - 1 - i) % 10
  | 0, i, h => absurd h (Nat.not_lt_zero i)
  | k + 1, 0, _ => by
    show 48 + n / 10 ^ k % 10 = _
    rw [Nat.add_sub_cancel, Nat.sub_zero]
  | k + 1, i + 1, h => by
    have ih := dg_at (n := n) k i (by omega)
    show (dg n k).getD i 0 = _
    rw [ih]
    congr 4
    omega
theorem tx_dg {f : Nat → Nat} {tl : List Nat} {n k : Nat} (h1 : ∀ p, p < tl.length → f p = tl.getD p 0) (h2 : ∀ i, i < k → f (tl.length + i) = 48 + n / 10 ^ (k - 1 - i) % 10) : TxOK f (tl ++ dg n k) := fun j hj => by
  rw [List.length_append, dg_len] at hj
  by_cases e : j < tl.length
  · rw [getD_l e]
    exact h1 j e
  · obtain ⟨i, rfl⟩ : ∃ i, j = tl.length + i := ⟨j - tl.length, by omega⟩
    rw [getD_r, dg_at k i (by omega)]
    exact h2 i (by omega)
def mEn (Rw ord : Nat → Nat) (v r : Nat) : List Nat := if Rw (48 + 48 * r + v) = 0 then [] else [48 + ord r / 10, 48 + ord r % 10, 32] ++ (fTx (Rw (48 + 48 * r + v)) (Rw (816 + r)) ++ [59])
def mTx (Rw ord : Nat → Nat) (v : Nat) : Nat → List Nat
  | 0 => []
  | r + 1 => mTx Rw ord v r ++ mEn Rw ord v r
def mrT (Rw ord : Nat → Nat) (n v : Nat) : List Nat := mTx Rw ord v n ++ (61 :: (fTx (Rw v) (Rw 848) ++ [46]))
theorem mTx_len (Rw ord : Nat → Nat) (v : Nat) : ∀ r, (mTx Rw ord v r).length ≤ 83 * r
  | 0 => Nat.le_refl 0
  | r + 1 => by
    have h1 := mTx_len Rw ord v r
    have h2 := fTx_len (Rw (48 + 48 * r + v)) (Rw (816 + r))
    show (mTx Rw ord v r ++ mEn Rw ord v r).length ≤ _
    rw [List.length_append]
    unfold mEn
    split
    · simp
      omega
    · simp
      omega
def mRe (vs n : Nat) (Rw ord : Nat → Nat) (v k : Int32) : Int32 := if isV vs v = true then (if 0 ≤ k.toInt ∧ k.toInt < ((mrT Rw ord n (ix v)).length : Int) then nI ((mrT Rw ord n (ix v)).getD k.toInt.toNat 0) else -1) else -1
theorem rv_ge {F k : Nat} (h : F + k < 2 ^ 30) (h1 : 1 ≤ k) : nI (F + 1) - nI (1 + 1) ≤ nI (F + 1) := by
  refine i_le (fun q => ?_)
  have h2 := Int32.lt_iff_toInt_lt.mp q
  rw [pk_sub_toInt (by omega) (by decide), nI_toInt (by omega)] at h2
  omega
theorem rv_le {F k t : Nat} (h : F + k < 2 ^ 30) (h1 : 2 * t ≤ k + 1) (ht : t ≤ k) (hc : nI (F + k) - nI (t + 1) ≤ nI (F + t)) : k ≤ 2 * t + 1 := by
  have h2 := Int32.le_iff_toInt_le.mp hc
  rw [pk_sub_toInt (by omega) (by omega), nI_toInt (by omega)] at h2
  omega
theorem rv_lt {F k t : Nat} (h : F + k < 2 ^ 30) (h1 : 2 * t ≤ k + 1) (ht : t ≤ k) (hc : ¬ nI (F + k) - nI (t + 1) ≤ nI (F + t)) : 2 * t + 1 < k := by
  refine Nat.lt_of_not_le (fun q => hc (Int32.le_iff_toInt_le.mpr ?_))
  rw [pk_sub_toInt (by omega) (by omega), nI_toInt (by omega)]
  omega
