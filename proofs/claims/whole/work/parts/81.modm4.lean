/-! the reference's choice -/
def nxB : Option (Nat × Nat × Nat) → Int32
  | none => -1
  | some w => nI w.1
def nxK : Option (Nat × Nat × Nat) → Int32
  | none => 1
  | some w => nI w.2.2
theorem sg_su {u : Nat → Bool} {x x2 : Nat → Nat} (h : ∀ v, v < 48 → x v = x2 v) : sg (suM u x) 48 = sg (suM u x2) 48 := sg_suM (fun v hv _ => h v hv)
theorem affB_congr {c : Nat → Nat} {vs : Nat} {ap : Nat → Nat} {D D2 : Nat} {x x2 : Nat → Nat} {ch : Nat → Bool} {q : Nat} (hD : D = D2) (h : ∀ v, v < 48 → x v = x2 v) : affB c vs ap D x ch q = affB c vs ap D2 x2 ch q := by
  unfold affB
  rw [hD, sg_su h]
theorem IsSh.ext {u : Nat → Bool} {x x2 : Nat → Nat} {N r k : Nat} (hs : IsSh u x N r k) (h : ∀ v, v < 48 → x v = x2 v) : IsSh u x2 N r k := by
  obtain ⟨h1, h2, h3⟩ := hs
  refine ⟨h1, ?_, ?_⟩
  · rw [← sg_congr (f := shK u x r k) 48 (fun v hv => by unfold shK; rw [h v hv])]
    exact h2
  · rw [← sg_congr (f := shP u x r k) 48 (fun v hv => by unfold shP; rw [h v hv])]
    exact h3
theorem IsSh.kle {u : Nat → Bool} {x : Nat → Nat} {N r k : Nat} (hs : IsSh u x N r k) : k ≤ 48 ∧ r ≤ N := by
  have h1 := sg_le (f := shK u x r k) (g := fun _ => 1) 48 (fun v _ => by unfold shK; split <;> omega)
  rw [sg_const] at h1
  have := hs.2.1
  have := hs.2.2
  omega
theorem BdR.ext {Rw R1 : Nat → Nat} (h : BdR Rw) (he : ∀ j, j < 849 → R1 j = Rw j) : BdR R1 := ⟨fun v hv => by rw [he v (by omega)]; exact h.1 v hv, by rw [he 848 (by decide)]; exact h.2⟩
theorem bet_l {c : Nat → Nat} {p q r k r2 k2 : Nat} (h : r * k2 < r2 * k) : bet c p q r k r2 k2 = true := by
  unfold bet
  rw [decide_eq_true h]
  rfl
theorem bet_e {c : Nat → Nat} {p q r k r2 k2 : Nat} (h : r * k2 = r2 * k) (hc : c p < c q) : bet c p q r k r2 k2 = true := by
  unfold bet
  rw [decide_eq_true h, decide_eq_true hc, Bool.and_self, Bool.or_true]
theorem bet_n {c : Nat → Nat} {p q r k r2 k2 : Nat} (h : ¬ r * k2 < r2 * k) (h2 : r * k2 = r2 * k → ¬ c p < c q) : ¬ bet c p q r k r2 k2 = true := by
  unfold bet
  rw [decide_eq_false h, Bool.false_or]
  intro z
  have z2 := Bool.and_eq_true_iff.mp z
  exact h2 (of_decide_eq_true z2.1) (of_decide_eq_true z2.2)
