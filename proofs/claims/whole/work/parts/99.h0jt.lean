/-! both sides in one heap -/
def JT (g : WG) (H : Heap) (a : Nat) : Prop := ∃ (c0 : Nat → Nat) (vs0 : Nat) (ap0 : Nat → Nat) (bu0 : Nat) (c : Nat → Nat) (vs : Nat) (ap : Nat → Nat) (bu n : Nat) (S : PSt) (ow : Int32) (tx : List Nat) (th : Int32) (cn : Nat) (Rw ord : Nat → Nat) (ch : Nat → Bool) (f : Nat → Int64), DeskAt g H a c0 vs0 ap0 bu0 c vs ap bu n S ow tx ∧ ModAt g H (a + 579) th c0 vs0 ap0 bu0 c vs ap bu cn n Rw ord ch ∧ Ans c vs ap cn n S Rw ord ch ∧ SlOK ap n S ow tx ∧ xr_la H (a + 591) (gL g) 1 f
theorem mod_ap {g : WG} {H : Heap} {b : Nat} {th : Int32} {c0 : Nat → Nat} {vs0 : Nat} {ap0 : Nat → Nat} {bu0 : Nat} {c : Nat → Nat} {vs : Nat} {ap : Nat → Nat} {bu cn n : Nat} {Rw ord : Nat → Nat} {ch : Nat → Bool} (h : ModAt g H b th c0 vs0 ap0 bu0 c vs ap bu cn n Rw ord ch) : ∀ v, v < 48 → ap v < 2 ^ 16 := by
  obtain ⟨py, ln, pf, tx, h1, h2, h3, h4, -⟩ := h
  exact h4.2.2.2.2
