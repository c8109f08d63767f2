/-! what is entered, as the reference keeps it -/
def NewAt (g : WG) (H : Heap) (b : Nat) (c : Nat → Nat) (vs : Nat) (ap : Nat → Nat) : Prop := xr_ia H (b + 2) (gI g) 16 (fun z9 => nI (c z9)) ∧ xr_ia H (b + 3) (gZ g) 48 (fun z9 => b2i (vs.testBit z9)) ∧ xr_ia H (b + 4) (gI g) 48 (fun z9 => nI (ap z9)) ∧ (∀ p, p < 16 → c p ≤ 1000000) ∧ ∀ v, v < 48 → ap v < 2 ^ 16
theorem NewAt.kept {g : WG} {H H1 : Heap} {b : Nat} {c : Nat → Nat} {vs : Nat} {ap : Nat → Nat} (h : NewAt g H b c vs ap) (hk : ∀ q, q < H.size → b + 2 ≤ q → q < b + 5 → H1[q]? = H[q]?) : NewAt g H1 b c vs ap :=
  ⟨h.1.kept (hk _ h.1.lt (by omega) (by omega)), h.2.1.kept (hk _ h.2.1.lt (by omega) (by omega)), h.2.2.1.kept (hk _ h.2.2.1.lt (by omega) (by omega)), h.2.2.2⟩
theorem up_upto {α : Type} {f g : Nat → α} {n : Nat} (h : ∀ j, j < n → f j = g j) : ∀ j, j < n + 1 → va_up f n (g n) j = g j := fun j hj => by
  by_cases e : j = n
  · rw [e, va_up_self]
  · rw [va_up_ne _ _ e]
    exact h j (by omega)
