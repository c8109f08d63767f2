/-! how the reference finds a share -/
def poP (u : Nat → Bool) (x : Nat → Nat) (pf : Nat → Bool) (v : Nat) : Nat := if u v = true ∧ pf v = true then x v else 0
def poK (u pf : Nat → Bool) (v : Nat) : Nat := if u v = true ∧ pf v = false then 1 else 0
def SInv (u : Nat → Bool) (x : Nat → Nat) (N r k : Nat) (pf : Nat → Bool) : Prop := r + sg (poP u x pf) 48 = N ∧ k = sg (poK u pf) 48 ∧ 0 < k ∧ ∀ v, v < 48 → pf v = true → u v = true ∧ x v * k < r
theorem SInv.init {u : Nat → Bool} {x : Nat → Nat} {N : Nat} {pf : Nat → Bool} (hN : 0 < N) (ha : N ≤ sg (suM u x) 48) (h : ∀ v, v < 48 → pf v = false) : SInv u x N N (sg (fun v => if u v = true then 1 else 0) 48) pf := by
  refine ⟨?_, ?_, ?_, fun v hv q => ?_⟩
  · rw [sg_zero 48 (fun v hv => by unfold poP; rw [if_neg (fun q => by rw [h v hv] at q; cases q.2)]), Nat.add_zero]
  · refine sg_congr 48 (fun v hv => ?_)
    unfold poK
    rw [h v hv]
    simp
  · obtain ⟨v, hv, hp⟩ := sg_pos 48 (Nat.lt_of_lt_of_le hN ha)
    unfold suM at hp
    have hu : u v = true := by
      refine bool_t (fun q => ?_)
      rw [q] at hp
      exact absurd hp (by simp)
    have := sg_ge (f := fun v => if u v = true then 1 else 0) 48 v hv
    rw [if_pos hu] at this
    omega
  · rw [h v hv] at q
    cases q
theorem po_all {u pf : Nat → Bool} {x : Nat → Nat} : sg (suM u x) 48 = sg (poP u x pf) 48 + sg (fun v => if u v = true ∧ pf v = false then x v else 0) 48 := by
  rw [← sg_add]
  refine sg_congr 48 (fun v _ => ?_)
  unfold suM poP
  cases u v <;> cases pf v <;> simp
theorem sh_arith {X Y k r : Nat} (h1 : X * k < r) (h2 : Y * k < r) (hk : 2 ≤ k) : X * (k - 1) < r - Y := by
  obtain ⟨j, rfl⟩ : ∃ j, k = j + 1 := ⟨k - 1, by omega⟩
  rw [Nat.add_sub_cancel]
  rw [Nat.mul_add, Nat.mul_one] at h1 h2
  by_cases h : X ≤ Y
  · have := Nat.mul_le_mul_right j h
    omega
  · omega
theorem SInv.mark {u : Nat → Bool} {x : Nat → Nat} {N r k r0 k0 v : Nat} {pf : Nat → Bool} (h : SInv u x N r k pf) (ha : N ≤ sg (suM u x) 48) (hk0 : 0 < k0) (hr : r0 * k ≤ r * k0) (hv : v < 48) (hu : u v = true) (hp : pf v = false) (hx : x v * k0 < r0) : x v ≤ r ∧ 1 < k ∧ SInv u x N (r - x v) (k - 1) (va_up pf v true) ∧ r0 * (k - 1) ≤ (r - x v) * k0 := by
  obtain ⟨h1, h2, h3, h4⟩ := h
  have e1 : x v * k < r := by
    have a1 : x v * k0 * k < r0 * k := Nat.mul_lt_mul_of_pos_right hx h3
    have a2 : x v * k * k0 < r * k0 := by rw [Nat.mul_right_comm]; omega
    exact Nat.lt_of_mul_lt_mul_right a2
  have e2 : x v ≤ x v * k := Nat.le_mul_of_pos_right _ h3
  have e3 : 1 < k := by
    refine Nat.lt_of_not_le (fun q => ?_)
    have hk1 : k = 1 := by omega
    subst hk1
    have b1 := sg_up (f := poK u pf) (y := 0) 48 v hv
    have b2 : poK u pf v = 1 := by unfold poK; rw [if_pos ⟨hu, hp⟩]
    have b3 : sg (va_up (poK u pf) v 0) 48 = 0 := by omega
    have b4 := sg_up (f := fun w => if u w = true ∧ pf w = false then x w else 0) (y := 0) 48 v hv
    have b5 : sg (va_up (fun w => if u w = true ∧ pf w = false then x w else 0) v 0) 48 = 0 := sg_zero 48 (fun w hw => by
      by_cases e : w = v
      · rw [e, va_up_self]
      · have c1 := sg_ge (f := va_up (poK u pf) v 0) 48 w hw
        rw [va_up_ne _ _ e] at c1
        rw [va_up_ne _ _ e]
        split
        · rename_i c2
          have c3 : poK u pf w = 1 := by unfold poK; rw [if_pos c2]
          omega
        · rfl)
    have b6 := po_all (u := u) (pf := pf) (x := x)
    rw [b5] at b4
    simp only [hu, hp, and_self, if_true] at b4
    rw [Nat.mul_one] at hr e1
    have b7 : r ≤ x v := by omega
    have b8 : r * k0 ≤ x v * k0 := Nat.mul_le_mul_right _ b7
    omega
  refine ⟨by omega, e3, ⟨?_, ?_, by omega, fun w hw q => ?_⟩, ?_⟩
  · have b1 := sg_up (f := poP u x pf) (y := x v) 48 v hv
    have b2 : poP u x pf v = 0 := by unfold poP; rw [if_neg (fun q => by rw [hp] at q; cases q.2)]
    have b3 : sg (poP u x (va_up pf v true)) 48 = sg (va_up (poP u x pf) v (x v)) 48 := sg_congr 48 (fun w _ => by
      by_cases e : w = v
      · rw [e, va_up_self]
        unfold poP
        rw [va_up_self, if_pos ⟨hu, rfl⟩]
      · rw [va_up_ne _ _ e]
        unfold poP
        rw [va_up_ne _ _ e])
    omega
  · have b1 := sg_up (f := poK u pf) (y := 0) 48 v hv
    have b2 : poK u pf v = 1 := by unfold poK; rw [if_pos ⟨hu, hp⟩]
    have b3 : sg (poK u (va_up pf v true)) 48 = sg (va_up (poK u pf) v 0) 48 := sg_congr 48 (fun w _ => by
      by_cases e : w = v
      · rw [e, va_up_self]
        unfold poK
        rw [va_up_self, if_neg (fun q => by cases q.2)]
      · rw [va_up_ne _ _ e]
        unfold poK
        rw [va_up_ne _ _ e])
    omega
  · by_cases e : w = v
    · rw [e]
      exact ⟨hu, sh_arith e1 e1 (by omega)⟩
    · rw [va_up_ne _ _ e] at q
      have := h4 w hw q
      exact ⟨this.1, sh_arith this.2 e1 (by omega)⟩
  · rw [Nat.mul_sub, Nat.mul_one, Nat.sub_mul]
    omega
theorem SInv.done {u : Nat → Bool} {x : Nat → Nat} {N r k : Nat} {pf : Nat → Bool} (h : SInv u x N r k pf) (hd : ∀ v, v < 48 → u v = true → pf v = false → r ≤ x v * k) : IsSh u x N r k ∧ ∀ v, v < 48 → u v = true → (pf v = true ↔ x v * k < r) := by
  obtain ⟨h1, h2, h3, h4⟩ := h
  have hp : ∀ v, v < 48 → u v = true → (pf v = true ↔ x v * k < r) := fun v hv hu => by
    constructor
    · intro q
      exact (h4 v hv q).2
    · intro q
      refine bool_t (fun z => ?_)
      have := hd v hv hu z
      omega
  refine ⟨⟨h3, ?_, ?_⟩, hp⟩
  · rw [sg_congr (f := shK u x r k) (g := poK u pf) 48 (fun v hv => ?_)]
    · exact h2
    · unfold shK poK
      by_cases hu : u v = true
      · have := hp v hv hu
        by_cases q : pf v = true
        · rw [if_neg (fun z => by have := this.mp q; omega), if_neg (fun z => by rw [q] at z; cases z.2)]
        · rw [if_pos ⟨hu, hd v hv hu (bool_f q)⟩, if_pos ⟨hu, bool_f q⟩]
      · rw [if_neg (fun z => hu z.1), if_neg (fun z => hu z.1)]
  · rw [sg_congr (f := shP u x r k) (g := poP u x pf) 48 (fun v hv => ?_)]
    · exact h1
    · unfold shP poP
      by_cases hu : u v = true
      · have := hp v hv hu
        by_cases q : pf v = true
        · rw [if_pos ⟨hu, by have := this.mp q; omega⟩, if_pos ⟨hu, q⟩]
        · have := hd v hv hu (bool_f q)
          rw [if_neg (fun z => z.2 this), if_neg (fun z => q z.2)]
      · rw [if_neg (fun z => hu z.1), if_neg (fun z => hu z.1)]
theorem SInv.kle {u : Nat → Bool} {x : Nat → Nat} {N r k : Nat} {pf : Nat → Bool} (h : SInv u x N r k pf) : k ≤ 48 ∧ r ≤ N := by
  have h1 := sg_le (f := poK u pf) (g := fun _ => 1) 48 (fun v _ => by unfold poK; split <;> omega)
  rw [sg_const] at h1
  have := h.1
  have := h.2.1
  omega
def BdR (Rw : Nat → Nat) : Prop := (∀ v, v < 48 → Rw v ≤ 2 ^ 125) ∧ Rw 848 ≤ 2 ^ 125
theorem sg_bd {f : Nat → Nat} {B : Nat} : ∀ n, (∀ i, i < n → f i ≤ B) → sg f n ≤ n * B := fun n h => by
  rw [← sg_const]
  exact sg_le n h
theorem suM_le {u : Nat → Bool} {x : Nat → Nat} {v : Nat} : suM u x v ≤ x v := by
  unfold suM
  split <;> omega
