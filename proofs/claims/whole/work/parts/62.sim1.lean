/-! the reference's phase: D, x, ch, ord, lin, rat, pmt -/
abbrev MPt : Type := Nat × (Nat → Nat) × (Nat → Bool) × (Nat → Nat) × (Nat → Nat) × (Nat → Nat) × (Nat → Nat → Nat)
abbrev mD (M : MPt) : Nat := M.1
abbrev mx (M : MPt) : Nat → Nat := M.2.1
abbrev mch (M : MPt) : Nat → Bool := M.2.2.1
abbrev mor (M : MPt) : Nat → Nat := M.2.2.2.1
abbrev mli (M : MPt) : Nat → Nat := M.2.2.2.2.1
abbrev mra (M : MPt) : Nat → Nat := M.2.2.2.2.2.1
abbrev mpm (M : MPt) : Nat → Nat → Nat := M.2.2.2.2.2.2
def mxSt (S : Nat → Nat × Nat) (c : Nat → Nat) (n : Nat) : Option (Nat × Nat × Nat) → Option (Nat × Nat × Nat)
  | none => some (n, S n)
  | some w => if bet c n w.1 (S n).1 (S n).2 w.2.1 w.2.2 = true then some (n, S n) else some w
def mxGo (S : Nat → Nat × Nat) (A : Nat → Bool) (c : Nat → Nat) : Nat → Option (Nat × Nat × Nat)
  | 0 => none
  | n + 1 => if A n = false then mxGo S A c n else mxSt S c n (mxGo S A c n)
def affB (c : Nat → Nat) (vs : Nat) (ap : Nat → Nat) (D : Nat) (x : Nat → Nat) (ch : Nat → Bool) (p : Nat) : Bool := decide (0 < c p) && (!ch p && decide (D * c p ≤ sg (suM (sqp vs ap p) x) 48))
theorem bool_f {b : Bool} (h : ¬ b = true) : b = false := by cases b with | false => rfl | true => exact absurd rfl h
theorem bool_t {b : Bool} (h : ¬ b = false) : b = true := by cases b with | true => rfl | false => exact absurd rfl h
theorem mxSt_some (S : Nat → Nat × Nat) (c : Nat → Nat) (n : Nat) (z : Option (Nat × Nat × Nat)) : mxSt S c n z = some (n, S n) ∨ mxSt S c n z = z ∧ z ≠ none := by
  cases z with
  | none => exact Or.inl rfl
  | some w =>
    unfold mxSt
    dsimp only
    split
    · exact Or.inl rfl
    · exact Or.inr ⟨rfl, fun h => by cases h⟩
theorem mxGo_some {S : Nat → Nat × Nat} {A : Nat → Bool} {c : Nat → Nat} : ∀ n w, mxGo S A c n = some w → w.1 < n ∧ A w.1 = true ∧ w.2 = S w.1
  | 0, w, h => by cases h
  | n + 1, w, h => by
    have ih := mxGo_some (S := S) (A := A) (c := c) n
    rw [mxGo] at h
    by_cases e : A n = false
    · rw [if_pos e] at h
      have := ih w h
      exact ⟨by omega, this.2⟩
    · rw [if_neg e] at h
      rcases mxSt_some S c n (mxGo S A c n) with q | q
      · rw [q] at h
        cases h
        exact ⟨Nat.lt_succ_self n, bool_t e, rfl⟩
      · rw [q.1] at h
        have := ih w h
        exact ⟨by omega, this.2⟩
theorem mxGo_none {S : Nat → Nat × Nat} {A : Nat → Bool} {c : Nat → Nat} : ∀ n, mxGo S A c n = none ↔ ∀ q, q < n → A q = false
  | 0 => ⟨fun _ q h => absurd h (Nat.not_lt_zero q), fun _ => rfl⟩
  | n + 1 => by
    have ih := mxGo_none (S := S) (A := A) (c := c) n
    rw [mxGo]
    by_cases e : A n = false
    · rw [if_pos e, ih]
      refine ⟨fun h q hq => ?_, fun h q hq => h q (by omega)⟩
      by_cases e2 : q = n
      · rw [e2]
        exact e
      · exact h q (by omega)
    · rw [if_neg e]
      constructor
      · intro h
        rcases mxSt_some S c n (mxGo S A c n) with q | q
        · rw [q] at h
          cases h
        · rw [q.1] at h
          exact absurd h q.2
      · intro h
        exact absurd (h n (Nat.lt_succ_self n)) e
theorem mxGo_congr {S S2 : Nat → Nat × Nat} {A : Nat → Bool} {c : Nat → Nat} : ∀ n, (∀ q, q < n → A q = true → S q = S2 q) → mxGo S A c n = mxGo S2 A c n
  | 0, _ => rfl
  | n + 1, h => by
    have ih := mxGo_congr (S := S) (S2 := S2) (A := A) (c := c) n (fun q hq => h q (by omega))
    rw [mxGo, mxGo, ih]
    by_cases e : A n = false
    · rw [if_pos e, if_pos e]
    · rw [if_neg e, if_neg e]
      have := h n (Nat.lt_succ_self n) (bool_t e)
      unfold mxSt
      rw [this]
theorem fc_hi {S : Nat → Bool × Nat × Nat} {c : Nat → Nat} {op : Nat} : ∀ n j, n ≤ j → (fcGo S c op n).2.testBit j = op.testBit j
  | 0, _, _ => rfl
  | n + 1, j, h => by
    have ih := fc_hi (S := S) (c := c) (op := op) n
    rw [fcGo]
    generalize fcGo S c op n = z at *
    unfold fcStep
    by_cases hb : z.2.testBit n = false
    · rw [if_pos hb]
      exact ih j (by omega)
    · rw [if_neg hb]
      by_cases hs : (S n).1 = false
      · rw [if_pos hs]
        show (z.2 - 2 ^ n).testBit j = _
        rw [clr_bit (bool_t hb), ih j (by omega), decide_eq_false (by omega)]
        simp
      · rw [if_neg hs]
        split
        · exact ih j (by omega)
        · split
          · exact ih j (by omega)
          · exact ih j (by omega)
theorem fc_lo {S : Nat → Bool × Nat × Nat} {c : Nat → Nat} {op : Nat} : ∀ n j, j < n → (fcGo S c op n).2.testBit j = (op.testBit j && (S j).1)
  | 0, j, h => absurd h (Nat.not_lt_zero j)
  | n + 1, j, h => by
    have ih := fc_lo (S := S) (c := c) (op := op) n j
    have hh := fc_hi (S := S) (c := c) (op := op) n n (Nat.le_refl n)
    rw [fcGo]
    generalize fcGo S c op n = z at *
    unfold fcStep
    by_cases hb : z.2.testBit n = false
    · rw [if_pos hb]
      by_cases e : j = n
      · rw [e, hb]
        rw [hb] at hh
        rw [← hh]
        rfl
      · exact ih (by omega)
    · rw [if_neg hb]
      have hb2 := bool_t hb
      by_cases hs : (S n).1 = false
      · rw [if_pos hs]
        show (z.2 - 2 ^ n).testBit j = _
        rw [clr_bit hb2]
        by_cases e : j = n
        · rw [e, hs, decide_eq_true rfl]
          simp
        · rw [ih (by omega), decide_eq_false e]
          simp
      · rw [if_neg hs]
        have hs2 := bool_t hs
        have e1 : z.2.testBit j = (op.testBit j && (S j).1) := by
          by_cases e : j = n
          · rw [e, hs2, hh]
            simp
          · exact ih (by omega)
        split
        · exact e1
        · split
          · exact e1
          · exact e1
theorem fc_mx {S : Nat → Bool × Nat × Nat} {c : Nat → Nat} {op : Nat} {A : Nat → Bool} (hA : ∀ q, q < 16 → A q = (op.testBit q && (S q).1)) : ∀ n, n ≤ 16 → (fcGo S c op n).1 = mxGo (fun q => (S q).2) A c n
  | 0, _ => rfl
  | n + 1, h => by
    have ih := fc_mx (S := S) (c := c) (op := op) hA n (by omega)
    have hh := fc_hi (S := S) (c := c) (op := op) n n (Nat.le_refl n)
    have h1 := hA n (by omega)
    rw [fcGo, mxGo]
    generalize fcGo S c op n = z at *
    unfold fcStep
    rw [← ih]
    by_cases hb : z.2.testBit n = false
    · rw [if_pos hb, if_pos]
      rw [h1, ← hh, hb]
      rfl
    · rw [if_neg hb]
      by_cases hs : (S n).1 = false
      · rw [if_pos hs, if_pos]
        rw [h1, hs]
        simp
      · rw [if_neg hs, if_neg]
        · cases hz : z.1 with
          | none => rfl
          | some w =>
            unfold mxSt
            dsimp only
            split
            · rfl
            · exact hz
        · rw [h1, ← hh, bool_t hb, bool_t hs]
          decide
theorem sg_suM {u : Nat → Bool} {x x2 : Nat → Nat} (h : ∀ v, v < 48 → u v = true → x v = x2 v) : sg (suM u x) 48 = sg (suM u x2) 48 := sg_congr 48 (fun v hv => by
  unfold suM
  split
  · rename_i hu
    exact h v hv hu
  · rfl)
