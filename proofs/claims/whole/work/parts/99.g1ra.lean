/-! what the class's raise leaves -/
def RaQ (g : WG) (H : Heap) (a : Nat) (c0 : Nat → Nat) (vs0 : Nat) (ap0 : Nat → Nat) (bu0 : Nat) (st mo r : Int32) : Prop := ∃ (n1 : Nat) (S1 : PSt) (s9 m9 j : Nat), st = nI s9 ∧ mo = nI m9 ∧ 1 ≤ s9 ∧ s9 ≤ 100000 ∧ m9 ≤ 100 ∧ j ≤ m9 ∧ r = nI j ∧ Res c0 vs0 ap0 bu0 (j * s9) n1 S1 ∧ (costOf c0 (setOf c0 16) 16 ≤ bu0 ∧ j = m9 ∨ (∀ i, 1 ≤ i → i ≤ j → OKc c0 vs0 ap0 bu0 (i * s9)) ∧ (j = m9 ∨ NOc c0 vs0 ap0 bu0 ((j + 1) * s9))) ∧ DeskAt g H a c0 vs0 ap0 bu0 c0 vs0 ap0 bu0 n1 S1 (-1) ([])
theorem RaQ.kept {g : WG} {H H1 : Heap} {a : Nat} {c0 : Nat → Nat} {vs0 : Nat} {ap0 : Nat → Nat} {bu0 : Nat} {st mo r : Int32} (h : RaQ g H a c0 vs0 ap0 bu0 st mo r) (hk : ∀ q, q < H.size → q < a + 579 → H1[q]? = H[q]?) : RaQ g H1 a c0 vs0 ap0 bu0 st mo r := by
  obtain ⟨n1, S1, s9, m9, j, h1, h2, h3, h4, h5, h6, h7, h8, h9, h10⟩ := h
  exact ⟨n1, S1, s9, m9, j, h1, h2, h3, h4, h5, h6, h7, h8, h9, h10.kept hk⟩
theorem xr_la.to1 {H : Heap} {a : Nat} {cA : ClassId} {f : Nat → Int64} {x : Int64} {i : Int32} (h : xr_la H a cA 1 (vp_updL f i.toNatClampNeg x)) (hi : i.toNatClampNeg = 0 := by decide) : xr_la H a cA 1 (fun _ => x) := by
  unfold xr_la at h ⊢
  rw [h, vp_cell_l, vp_cell_l]
  refine congrArg some (xr_arrV_to fun j hj => ?_)
  have e : j = 0 := by omega
  rw [e, hi]
  simp [vp_updL]
