theorem cmpI_ge {x y : Nat} (h : y ≤ x) (hc : cmpI x y < 0) : False := by
  unfold cmpI at hc
  rw [if_neg (by omega)] at hc
  split at hc <;> exact absurd hc (by decide)
theorem cmpI_l {x y : Nat} (h : x < y) : cmpI x y < 0 := by
  unfold cmpI
  rw [if_pos h]
  decide
theorem cmpI_0 {x y : Nat} : cmpI x y = 0 ↔ x = y := by
  unfold cmpI
  by_cases h1 : x < y
  · rw [if_pos h1]
    exact ⟨fun h => absurd h (by decide), fun h => by omega⟩
  · rw [if_neg h1]
    by_cases h2 : x = y
    · rw [if_pos h2]
      exact ⟨fun _ => h2, fun _ => rfl⟩
    · rw [if_neg h2]
      exact ⟨fun h => absurd h (by decide), fun h => absurd h h2⟩
def ShareAt (g : WG) (H : Heap) (a r k : Nat) : Prop := obj g H a 3 [.ref (a + 1), .int (nI k), .ref (a + 3), .ref (a + 5)] ∧ NatAt g H (a + 1) r ∧ (∃ u, NatAt g H (a + 3) u) ∧ ∃ v, NatAt g H (a + 5) v
theorem NatAt.reg {g : WG} {H H1 : Heap} {a x : Nat} (h : NatAt g H a x) (hk : ∀ q, q < H.size → a ≤ q → q < a + 2 → H1[q]? = H[q]?) : NatAt g H1 a x := h.kept (hk _ h.1.lt (Nat.le_refl _) (by show a < _; omega)) (hk _ h.2.1.lt (by omega) (by omega))
theorem ShareAt.kept {g : WG} {H H1 : Heap} {a r k : Nat} (h : ShareAt g H a r k) (hk : ∀ q, q < H.size → a ≤ q → q < a + 7 → H1[q]? = H[q]?) : ShareAt g H1 a r k := by
  obtain ⟨h1, h2, ⟨u, h3⟩, ⟨v, h4⟩⟩ := h
  exact ⟨h1.kept (hk _ h1.lt (Nat.le_refl _) (by show a < _; omega)), h2.reg (fun q a1 a2 a3 => hk q a1 (by omega) (by omega)), ⟨u, h3.reg (fun q a1 a2 a3 => hk q a1 (by omega) (by omega))⟩, ⟨v, h4.reg (fun q a1 a2 a3 => hk q a1 (by omega) (by omega))⟩⟩
