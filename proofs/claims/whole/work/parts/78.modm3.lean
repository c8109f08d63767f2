/-! what the reference keeps of the town -/
def OldAt (g : WG) (H : Heap) (b : Nat) (c : Nat → Nat) (vs : Nat) (ap : Nat → Nat) : Prop := xr_ia H (b + 5) (gI g) 16 (fun z9 => nI (c z9)) ∧ xr_ia H (b + 6) (gZ g) 48 (fun z9 => b2i (vs.testBit z9)) ∧ xr_ia H (b + 7) (gI g) 48 (fun z9 => nI (ap z9)) ∧ (∀ p, p < 16 → c p ≤ 1000000) ∧ ∀ v, v < 48 → ap v < 2 ^ 16
theorem OldAt.kept {g : WG} {H H1 : Heap} {b : Nat} {c : Nat → Nat} {vs : Nat} {ap : Nat → Nat} (h : OldAt g H b c vs ap) (hk : ∀ q, q < H.size → b + 5 ≤ q → q < b + 8 → H1[q]? = H[q]?) : OldAt g H1 b c vs ap :=
  ⟨h.1.kept (hk _ h.1.lt (by omega) (by omega)), h.2.1.kept (hk _ h.2.1.lt (by omega) (by omega)), h.2.2.1.kept (hk _ h.2.2.1.lt (by omega) (by omega)), h.2.2.2⟩
