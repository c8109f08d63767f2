/-! sums over the first n numbers -/
def sg (f : Nat → Nat) : Nat → Nat
  | 0 => 0
  | n + 1 => sg f n + f n
theorem sg_congr {f g : Nat → Nat} : ∀ n, (∀ i, i < n → f i = g i) → sg f n = sg g n
  | 0, _ => rfl
  | n + 1, h => by rw [sg, sg, sg_congr n (fun i hi => h i (by omega)), h n (by omega)]
theorem sg_le {f g : Nat → Nat} : ∀ n, (∀ i, i < n → f i ≤ g i) → sg f n ≤ sg g n
  | 0, _ => Nat.le_refl 0
  | n + 1, h => by
    have h1 := sg_le n (fun i hi => h i (by omega))
    have h2 := h n (by omega)
    rw [sg, sg]
    omega
theorem sg_lt {f g : Nat → Nat} : ∀ n j, (∀ i, i < n → f i ≤ g i) → j < n → f j < g j → sg f n < sg g n
  | 0, j, _, h, _ => absurd h (Nat.not_lt_zero j)
  | n + 1, j, h, hj, hl => by
    rw [sg, sg]
    by_cases e : j = n
    · have h1 := sg_le n (fun i hi => h i (by omega))
      subst e
      omega
    · have h1 := sg_lt n j (fun i hi => h i (by omega)) (by omega) hl
      have h2 := h n (by omega)
      omega
theorem sg_add (f g : Nat → Nat) : ∀ n, sg (fun i => f i + g i) n = sg f n + sg g n
  | 0 => rfl
  | n + 1 => by
    rw [sg, sg, sg, sg_add f g n]
    omega
theorem sg_mul (f : Nat → Nat) (k : Nat) : ∀ n, sg (fun i => f i * k) n = sg f n * k
  | 0 => (Nat.zero_mul k).symm
  | n + 1 => by rw [sg, sg, sg_mul f k n, Nat.add_mul]
theorem sg_zero {f : Nat → Nat} : ∀ n, (∀ i, i < n → f i = 0) → sg f n = 0
  | 0, _ => rfl
  | n + 1, h => by rw [sg, sg_zero n (fun i hi => h i (by omega)), h n (by omega)]
theorem sg_ge {f : Nat → Nat} : ∀ n j, j < n → f j ≤ sg f n
  | 0, j, h => absurd h (Nat.not_lt_zero j)
  | n + 1, j, h => by
    rw [sg]
    by_cases e : j = n
    · subst e
      omega
    · have := sg_ge (f := f) n j (by omega)
      omega
theorem sg_pos {f : Nat → Nat} : ∀ n, 0 < sg f n → ∃ j, j < n ∧ 0 < f j
  | 0, h => absurd h (Nat.lt_irrefl 0)
  | n + 1, h => by
    rw [sg] at h
    by_cases e : 0 < f n
    · exact ⟨n, by omega, e⟩
    · obtain ⟨j, hj, h2⟩ := sg_pos (f := f) n (by omega)
      exact ⟨j, by omega, h2⟩
theorem sg_up {f : Nat → Nat} {y : Nat} : ∀ n j, j < n → sg (va_up f j y) n + f j = sg f n + y
  | 0, j, h => absurd h (Nat.not_lt_zero j)
  | n + 1, j, h => by
    rw [sg, sg]
    by_cases e : j = n
    · subst e
      rw [va_up_self, sg_congr (f := va_up f j y) (g := f) j (fun i hi => va_up_ne f y (by omega))]
      omega
    · have := sg_up (f := f) (y := y) n j (by omega)
      rw [va_up_ne f y (fun q => e q.symm)]
      omega
theorem sg_inj {pay : Nat → Nat} {N : Nat} : ∀ (n : Nat) (g : Nat → Nat), (∀ i, i < n → pay i < N) → (∀ i j, i < n → j < n → pay i = pay j → i = j) → (∀ v, v < N → (∀ i, i < n → pay i ≠ v) → g v = 0) → sg (fun i => g (pay i)) n = sg g N
  | 0, g, _, _, h0 => (sg_zero N (fun v hv => h0 v hv (fun i hi => absurd hi (Nat.not_lt_zero i)))).symm
  | n + 1, g, h1, h2, h0 => by
    have ih := sg_inj n (va_up g (pay n) 0) (fun i hi => h1 i (by omega)) (fun i j hi hj => h2 i j (by omega) (by omega)) (fun v hv hn => by
      by_cases e : v = pay n
      · rw [e, va_up_self]
      · rw [va_up_ne _ _ e]
        exact h0 v hv (fun i hi q => by
          by_cases e2 : i = n
          · exact e (by rw [← q, e2])
          · exact hn i (by omega) q))
    have h3 := sg_up (f := g) (y := 0) N (pay n) (h1 n (by omega))
    have h4 : sg (fun i => va_up g (pay n) 0 (pay i)) n = sg (fun i => g (pay i)) n := sg_congr n (fun i hi => va_up_ne g 0 (fun q => by have := h2 i n (by omega) (by omega) q; omega))
    rw [sg]
    show sg (fun i => g (pay i)) n + g (pay n) = _
    omega
theorem sg_const (k : Nat) : ∀ n, sg (fun _ => k) n = n * k
  | 0 => (Nat.zero_mul k).symm
  | n + 1 => by rw [sg, sg_const k n, Nat.succ_mul]
theorem sg_comp {f : Nat → Nat} {m : Nat} (h : ∀ i, m ≤ i → f i = 0) : ∀ n, m ≤ n → sg f n = sg f m
  | 0, hn => by rw [show m = 0 by omega]
  | n + 1, hn => by
    by_cases e : m = n + 1
    · rw [e]
    · rw [sg, h n (by omega), sg_comp h n (by omega), Nat.add_zero]
/-! a fair share: k pay r / k each, the others all they have -/
def shK (u : Nat → Bool) (x : Nat → Nat) (r k v : Nat) : Nat := if u v = true ∧ r ≤ x v * k then 1 else 0
def shP (u : Nat → Bool) (x : Nat → Nat) (r k v : Nat) : Nat := if u v = true ∧ ¬ r ≤ x v * k then x v else 0
def IsSh (u : Nat → Bool) (x : Nat → Nat) (N r k : Nat) : Prop := 0 < k ∧ k = sg (shK u x r k) 48 ∧ r + sg (shP u x r k) 48 = N
/-- what is paid, k times -/
def shM (u : Nat → Bool) (x : Nat → Nat) (r k v : Nat) : Nat := if u v = true then min (x v * k) r else 0
theorem shM_is (u : Nat → Bool) (x : Nat → Nat) (r k v : Nat) : shM u x r k v = shP u x r k v * k + shK u x r k v * r := by
  unfold shM shP shK
  cases hu : u v with
  | false => simp
  | true =>
    by_cases h : r ≤ x v * k
    · simp [h, Nat.min_eq_right h]
    · have h2 : x v * k ≤ r := by omega
      simp [h, Nat.min_eq_left h2]
theorem IsSh.sum {u : Nat → Bool} {x : Nat → Nat} {N r k : Nat} (h : IsSh u x N r k) : sg (shM u x r k) 48 = N * k := by
  rw [sg_congr (g := fun v => shP u x r k v * k + shK u x r k v * r) 48 (fun v _ => shM_is u x r k v), sg_add, sg_mul, sg_mul, ← h.2.1, ← h.2.2, Nat.add_mul, Nat.mul_comm k r, Nat.add_comm]
theorem IsSh.rich {u : Nat → Bool} {x : Nat → Nat} {N r k : Nat} (h : IsSh u x N r k) : ∃ v, v < 48 ∧ u v = true ∧ r ≤ x v * k := by
  obtain ⟨v, hv, h2⟩ := sg_pos (f := shK u x r k) 48 (by have := h.1; have := h.2.1; omega)
  unfold shK at h2
  split at h2
  · rename_i h3
    exact ⟨v, hv, h3⟩
  · omega
theorem sg_min (a b k : Nat) : min a b * k = min (a * k) (b * k) := by
  by_cases h : a ≤ b
  · rw [Nat.min_eq_left h, Nat.min_eq_left (Nat.mul_le_mul_right k h)]
  · have h2 : b ≤ a := by omega
    rw [Nat.min_eq_right h2, Nat.min_eq_right (Nat.mul_le_mul_right k h2)]
theorem IsSh.lt {u : Nat → Bool} {x : Nat → Nat} {N r k r2 k2 : Nat} (h : IsSh u x N r k) (h2 : IsSh u x N r2 k2) (hl : r * k2 < r2 * k) : False := by
  have e1 := h.sum
  have e2 := h2.sum
  have e3 : sg (fun v => shM u x r k v * k2) 48 < sg (fun v => shM u x r2 k2 v * k) 48 := by
    obtain ⟨v, hv, hu, hx⟩ := h2.rich
    have hx2 : r2 * k ≤ x v * k2 * k := Nat.mul_le_mul_right k hx
    refine sg_lt 48 v (fun i _ => ?_) hv ?_
    · show shM u x r k i * k2 ≤ shM u x r2 k2 i * k
      unfold shM
      split
      · rw [sg_min, sg_min, Nat.mul_right_comm (x i) k2 k]
        omega
      · omega
    · show shM u x r k v * k2 < shM u x r2 k2 v * k
      unfold shM
      rw [if_pos hu, if_pos hu, sg_min, sg_min, Nat.mul_right_comm (x v) k k2]
      omega
  rw [sg_mul, sg_mul, e1, e2, Nat.mul_right_comm N k k2] at e3
  exact Nat.lt_irrefl _ e3
theorem IsSh.uniq {u : Nat → Bool} {x : Nat → Nat} {N r k r2 k2 : Nat} (h : IsSh u x N r k) (h2 : IsSh u x N r2 k2) : r = r2 ∧ k = k2 := by
  have e : r * k2 = r2 * k := Nat.le_antisymm (Nat.not_lt.mp fun q => h2.lt h q) (Nat.not_lt.mp fun q => h.lt h2 q)
  have hk : ∀ v, r ≤ x v * k ↔ r2 ≤ x v * k2 := fun v => by
    have a1 : r * k2 ≤ x v * k * k2 ↔ r ≤ x v * k := Nat.mul_le_mul_right_iff h2.1
    have a2 : r2 * k ≤ x v * k2 * k ↔ r2 ≤ x v * k2 := Nat.mul_le_mul_right_iff h.1
    rw [← a1, ← a2, e, Nat.mul_right_comm (x v) k k2]
  have h3 : k = k2 := by
    rw [h.2.1, h2.2.1]
    refine sg_congr 48 (fun v _ => ?_)
    unfold shK
    simp only [hk v]
  refine ⟨?_, h3⟩
  have := h.1
  rw [h3] at e this
  exact Nat.eq_of_mul_eq_mul_right this e
theorem IsSh.pos {u : Nat → Bool} {x : Nat → Nat} {N r k : Nat} (h : IsSh u x N r k) (hN : 0 < N) : 0 < r := by
  apply Nat.pos_of_ne_zero
  intro e
  have h2 := h.2.2
  rw [e, sg_zero 48 (fun v _ => by unfold shP; rw [if_neg (by omega)])] at h2
  omega
theorem IsSh.congr {u u2 : Nat → Bool} {x x2 : Nat → Nat} {N r k : Nat} (h : IsSh u x N r k) (hN : 0 < N) (hc : ∀ v, v < 48 → (u v = true → 0 < x v → u2 v = true ∧ x2 v = x v) ∧ (u2 v = true → 0 < x2 v → u v = true ∧ x2 v = x v)) : IsSh u2 x2 N r k := by
  have hr := h.pos hN
  refine ⟨h.1, ?_, ?_⟩
  · rw [sg_congr (g := shK u x r k) 48 (fun v hv => ?_)]
    · exact h.2.1
    · unfold shK
      have h1 := hc v hv
      by_cases e : u v = true ∧ r ≤ x v * k
      · have e2 := h1.1 e.1 (Nat.pos_of_ne_zero fun q => by rw [q] at e; omega)
        rw [if_pos e, if_pos ⟨e2.1, by rw [e2.2]; exact e.2⟩]
      · rw [if_neg e, if_neg]
        intro e2
        have e3 := h1.2 e2.1 (Nat.pos_of_ne_zero fun q => by rw [q] at e2; omega)
        exact e ⟨e3.1, by rw [← e3.2]; exact e2.2⟩
  · rw [sg_congr (g := shP u x r k) 48 (fun v hv => ?_)]
    · exact h.2.2
    · unfold shP
      have h1 := hc v hv
      by_cases z : x v = 0
      · by_cases z2 : x2 v = 0
        · rw [z, z2]
          simp
        · by_cases e : u2 v = true
          · have := (h1.2 e (by omega)).2
            omega
          · rw [z]
            simp [e]
      · by_cases e : u v = true
        · have e2 := h1.1 e (by omega)
          rw [e2.1, e2.2, e]
        · by_cases z2 : u2 v = true ∧ ¬ r ≤ x2 v * k
          · by_cases z3 : x2 v = 0
            · rw [z3]
              simp [e]
            · exact absurd (h1.2 z2.1 (by omega)).1 e
          · rw [if_neg z2, if_neg (fun q => e q.1)]
