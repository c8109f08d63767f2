/-! the text of a receipt -/
def SlipAt (g : WG) (H : Heap) (a : Nat) (ow : Int32) (tx : List Nat) : Prop :=
  obj g H a 4 [.int ow, .ref (a + 1), .int (nI tx.length), .ref (a + 2), .ref (a + 3)] ∧ (∃ f, xr_ia H (a + 1) (gC g) 1411 f ∧ ∀ j, j < tx.length → f j = nI (tx.getD j 0)) ∧ tx.length ≤ 1411 ∧ (∃ f, xr_ia H (a + 2) (gC g) 39 f) ∧ ∃ y, NatAt g H (a + 3) y
theorem SlipAt.kept {g : WG} {H H1 : Heap} {a : Nat} {ow : Int32} {tx : List Nat} (h : SlipAt g H a ow tx) (hk : ∀ q, q < H.size → a ≤ q → q < a + 5 → H1[q]? = H[q]?) : SlipAt g H1 a ow tx := by
  obtain ⟨h1, ⟨f, h2, h3⟩, h4, ⟨f2, h5⟩, ⟨y, h6⟩⟩ := h
  exact ⟨h1.kept (hk _ h1.lt (by omega) (by omega)), ⟨f, h2.kept (hk _ h2.lt (by omega) (by omega)), h3⟩, h4, ⟨f2, h5.kept (hk _ h5.lt (by omega) (by omega))⟩, y, h6.kept (hk _ h6.1.lt (by omega) (by omega)) (hk _ h6.2.1.lt (by omega) (by omega))⟩
theorem c_i2c {c : Nat} (h : c < 65536) : ((nI c).toUInt32 % 65536).toInt32 = nI c := by
  rw [pk_char, pk_tn (by omega), Nat.mod_eq_of_lt h]
theorem c_nar {c : Nat} (h : c < 65536) : vp_nar .char (nI c) = nI c := by
  unfold vp_nar
  rw [(pk_charN h).1]
/-- the last k decimal digits -/
def dg (n : Nat) : Nat → List Nat
  | 0 => []
  | k + 1 => (48 + n / 10 ^ k % 10) :: dg n k
theorem dg_len (n : Nat) : ∀ k, (dg n k).length = k
  | 0 => rfl
  | k + 1 => by show (dg n k).length + 1 = _; rw [dg_len n k]
/-- how many decimal digits -/
def nd : Nat → Nat → Nat
  | 0, _ => 1
  | f + 1, n => if n / 10 = 0 then 1 else nd f (n / 10) + 1
theorem nd_is : ∀ (f n k : Nat), 1 ≤ k → k ≤ f + 1 → n / 10 ^ k = 0 → (k = 1 ∨ n / 10 ^ (k - 1) ≠ 0) → nd f n = k
  | 0, n, k, h1, h2, h3, h4 => by show 1 = k; omega
  | f + 1, n, k, h1, h2, h3, h4 => by
    show (if n / 10 = 0 then 1 else nd f (n / 10) + 1) = k
    by_cases e : k = 1
    · subst e
      rw [if_pos (by simpa using h3)]
    · obtain ⟨j, rfl⟩ : ∃ j, k = j + 2 := ⟨k - 2, by omega⟩
      have h4 : n / 10 ^ (j + 1) ≠ 0 := h4.resolve_left e
      have e10 : ∀ i, n / 10 / 10 ^ i = n / 10 ^ (i + 1) := fun i => by rw [Nat.div_div_eq_div_mul, Nat.pow_succ, Nat.mul_comm]
      have hn : ¬ n / 10 = 0 := fun q => h4 (by rw [← e10, q, Nat.zero_div])
      rw [if_neg hn, nd_is f (n / 10) (j + 1) (by omega) (by omega) (by rw [e10]; exact h3) (Or.inr (by
        show n / 10 / 10 ^ j ≠ 0
        rw [e10]
        exact h4))]
/-- a number's decimal text -/
def dtx (n : Nat) : List Nat := dg n (nd 38 n)
theorem dtx_is {n k : Nat} (h1 : 1 ≤ k) (h2 : k ≤ 39) (h3 : n / 10 ^ k = 0) (h4 : k = 1 ∨ n / 10 ^ (k - 1) ≠ 0) : dtx n = dg n k := by unfold dtx; rw [nd_is 38 n k h1 h2 h3 h4]
theorem nd_le : ∀ f n, nd f n ≤ f + 1
  | 0, _ => Nat.le_refl 1
  | f + 1, n => by
    show (if n / 10 = 0 then 1 else nd f (n / 10) + 1) ≤ _
    have := nd_le f (n / 10)
    split <;> omega
theorem dtx_len (n : Nat) : (dtx n).length ≤ 39 := by unfold dtx; rw [dg_len]; exact nd_le 38 n
def rtx (t b : Nat) : List Nat := dtx t ++ (if b = 1 then [] else 47 :: dtx b)
theorem rtx_len (t b : Nat) : (rtx t b).length ≤ 79 := by
  have := dtx_len t
  have := dtx_len b
  unfold rtx
  split <;> simp <;> omega
theorem d10_39 {n : Nat} (h : n < 2 ^ 128) : n / 10 ^ 39 = 0 := Nat.div_eq_of_lt (Nat.lt_trans h (by decide))
theorem d10_s (n k : Nat) : n / 10 ^ k / 10 = n / 10 ^ (k + 1) := by rw [Nat.div_div_eq_div_mul, Nat.pow_succ]
theorem gd_app {tx : List Nat} {c j : Nat} {f : Nat → Int32} (h : ∀ j, j < tx.length → f j = nI (tx.getD j 0)) (hj : j < (tx ++ [c]).length) : upd f tx.length (nI c) j = nI ((tx ++ [c]).getD j 0) := by
  by_cases e : j = tx.length
  · subst e
    rw [upd_at]
    simp [List.getD]
  · have hl : j < tx.length := by simp at hj; omega
    rw [upd_ne e, h j hl]
    simp [List.getD, List.getElem?_append_left hl]
