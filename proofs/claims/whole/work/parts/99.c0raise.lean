/-- at a raise of rz the class's phase ends without overspending, or with it -/
def OKc (c : Nat → Nat) (vs : Nat) (ap : Nat → Nat) (bu rz : Nat) : Prop := ∃ n S, Res c vs ap bu rz n S ∧ ¬ bu < qco S
def NOc (c : Nat → Nat) (vs : Nat) (ap : Nat → Nat) (bu rz : Nat) : Prop := ∃ n S, Res c vs ap bu rz n S ∧ bu < qco S
