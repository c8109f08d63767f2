/-! groups that were passed over, as the reference finds them -/
def thB (c : Nat → Nat) (st : Nat) : Nat → Bool
  | 0 => true
  | p + 1 => thB c st p && (!st.testBit p || decide (0 < c p))
def grpM (vs : Nat) (ap : Nat → Nat) (ch : Nat → Bool) (st m : Nat) : Nat → Nat
  | 0 => 0
  | v + 1 => grpM vs ap ch st m v + if vs.testBit v = true ∧ ap v &&& st = st ∧ sg (svd ch ap v) 16 < m then 1 else 0
theorem grpM_le (vs : Nat) (ap : Nat → Nat) (ch : Nat → Bool) (st m : Nat) : ∀ v, grpM vs ap ch st m v ≤ v
  | 0 => Nat.le_refl 0
  | v + 1 => by
    have := grpM_le vs ap ch st m v
    rw [grpM]
    split <;> omega
def PoM (c : Nat → Nat) (vs : Nat) (ap : Nat → Nat) (bu cn : Nat) (ch : Nat → Bool) (m st : Nat) : Prop := cnt st 16 = m ∧ thB c st 16 = true ∧ cn * costOf c st 16 ≤ grpM vs ap ch st m 48 * bu
theorem svd_le (ch : Nat → Bool) (ap : Nat → Nat) (v : Nat) : sg (svd ch ap v) 16 ≤ 16 := by
  have := sg_le (f := svd ch ap v) (g := fun _ => 1) 16 (fun p _ => by unfold svd; split <;> omega)
  rw [sg_const] at this
  omega
/-- the least of those that answer, or 0 -/
def Lst (P : Nat → Prop) (r : Int32) : Prop := (∃ st, 1 ≤ st ∧ st < 65536 ∧ P st ∧ (∀ t, 1 ≤ t → t < st → ¬ P t) ∧ r = nI st) ∨ ((∀ t, 1 ≤ t → t < 65536 → ¬ P t) ∧ r = 0)
theorem Lst.uniq {P Q : Nat → Prop} {r r2 : Int32} (h : Lst P r) (h2 : Lst Q r2) (hPQ : ∀ t, 1 ≤ t → t < 65536 → (P t ↔ Q t)) : r = r2 := by
  rcases h with ⟨s, a1, a2, a3, a4, rfl⟩ | ⟨a1, rfl⟩
  · rcases h2 with ⟨t, b1, b2, b3, b4, rfl⟩ | ⟨b1, rfl⟩
    · rcases Nat.lt_trichotomy s t with e | e | e
      · exact absurd ((hPQ s a1 a2).mp a3) (b4 s a1 e)
      · rw [e]
      · exact absurd ((hPQ t b1 b2).mpr b3) (a4 t b1 e)
    · exact absurd ((hPQ s a1 a2).mp a3) (b1 s a1 a2)
  · rcases h2 with ⟨t, b1, b2, b3, b4, rfl⟩ | ⟨b1, rfl⟩
    · exact absurd ((hPQ t b1 b2).mpr b3) (a1 t b1 b2)
    · rfl
