/-! the share that the class finds is fair -/
theorem sg_front (f : Nat → Nat) : ∀ n, sg f (n + 1) = f 0 + sg (fun j => f (j + 1)) n
  | 0 => by show 0 + f 0 = f 0 + 0; omega
  | n + 1 => by
    rw [sg, sg_front f n]
    show _ = f 0 + (sg (fun j => f (j + 1)) n + f (n + 1))
    omega
theorem supL_sum {pur pay ap : Nat → Nat} {p : Nat} (f : Nat → Nat) : ∀ n i, ((supL pur pay ap p n i).map f).sum = sg (fun j => if (ap (pay (i + j))).testBit p = true then f (pur (pay (i + j))) else 0) n
  | 0, _ => rfl
  | n + 1, i => by
    have ih := supL_sum (pur := pur) (pay := pay) (ap := ap) (p := p) f n (i + 1)
    rw [sg_front]
    have e : sg (fun j => if (ap (pay (i + (j + 1)))).testBit p = true then f (pur (pay (i + (j + 1)))) else 0) n = ((supL pur pay ap p n (i + 1)).map f).sum := by
      rw [ih]
      refine sg_congr n (fun j _ => ?_)
      rw [show i + (j + 1) = i + 1 + j by omega]
    show _ = (if (ap (pay (i + 0))).testBit p = true then f (pur (pay (i + 0))) else 0) + sg (fun j => if (ap (pay (i + (j + 1)))).testBit p = true then f (pur (pay (i + (j + 1)))) else 0) n
    rw [e]
    simp only [Nat.add_zero]
    by_cases h : (ap (pay i)).testBit p = true
    · rw [if_pos h, supL_y h, List.map_cons, List.sum_cons]
    · rw [if_neg h, supL_n (by cases hq : (ap (pay i)).testBit p with | false => rfl | true => exact absurd hq h), Nat.zero_add]
theorem supL_mem {pur pay ap : Nat → Nat} {p y : Nat} : ∀ n i, y ∈ supL pur pay ap p n i → ∃ j, i ≤ j ∧ j < i + n ∧ y = pur (pay j)
  | 0, _, h => by cases h
  | n + 1, i, h => by
    by_cases hb : (ap (pay i)).testBit p = true
    · rw [supL_y hb] at h
      rcases List.mem_cons.mp h with h1 | h1
      · exact ⟨i, Nat.le_refl i, by omega, h1⟩
      · obtain ⟨j, a, b, e⟩ := supL_mem n (i + 1) h1
        exact ⟨j, by omega, by omega, e⟩
    · rw [supL, if_neg hb] at h
      obtain ⟨j, a, b, e⟩ := supL_mem n (i + 1) h
      exact ⟨j, by omega, by omega, e⟩
theorem supL_sort {pur pay ap : Nat → Nat} {p N : Nat} (hs : SortI pur pay N N) : ∀ n i, i + n ≤ N → (supL pur pay ap p n i).Pairwise (· ≤ ·)
  | 0, _, _ => List.Pairwise.nil
  | n + 1, i, h => by
    have ih := supL_sort (ap := ap) (p := p) hs n (i + 1) (by omega)
    by_cases hb : (ap (pay i)).testBit p = true
    · rw [supL_y hb]
      refine List.Pairwise.cons (fun y hy => ?_) ih
      obtain ⟨j, a, b, e⟩ := supL_mem n (i + 1) hy
      rw [e]
      exact hs i j (by omega) (by omega) (by omega)
    · rw [supL, if_neg hb]
      exact ih
theorem sg_ge2 {x : Nat} : ∀ (L : List Nat), (∀ y, y ∈ L → x ≤ y) → x * L.length ≤ L.sum
  | [], _ => Nat.le_refl 0
  | y :: ys, h => by
    have h1 := sg_ge2 ys (fun z hz => h z (List.mem_cons_of_mem y hz))
    have h2 := h y (List.mem_cons_self ..)
    rw [List.length_cons, List.sum_cons, Nat.mul_add, Nat.mul_one]
    omega
theorem shr_true : ∀ (L : List Nat) (r : Nat), L.Pairwise (· ≤ ·) → 0 < r → ((shr L r).1 = true ↔ r ≤ L.sum)
  | [], r, _, hr => by
    constructor
    · intro h
      cases h
    · intro h
      rw [List.sum_nil] at h
      omega
  | x :: xs, r, hp, hr => by
    have hp2 := List.pairwise_cons.mp hp
    have h1 := sg_ge2 xs hp2.1
    rw [shr, List.sum_cons]
    have e : x * (xs.length + 1) = x * xs.length + x := by rw [Nat.mul_add, Nat.mul_one]
    by_cases h : r ≤ x * (xs.length + 1)
    · rw [if_pos h]
      exact ⟨fun _ => by omega, fun _ => rfl⟩
    · rw [if_neg h, shr_true xs (r - x) hp2.2 (by omega)]
      omega
theorem shr_low {z : Nat} : ∀ (L : List Nat) (r : Nat), L.Pairwise (· ≤ ·) → (shr L r).1 = true → (∀ y, y ∈ L → z ≤ y) → z * L.length < r → z * (shr L r).2.2 < (shr L r).2.1
  | [], _, _, h, _, _ => by cases h
  | x :: xs, r, hp, ht, hz, hl => by
    have hp2 := List.pairwise_cons.mp hp
    rw [shr] at ht ⊢
    by_cases h : r ≤ x * (xs.length + 1)
    · rw [if_pos h]
      exact hl
    · rw [if_neg h] at ht ⊢
      have e : x * (xs.length + 1) = x * xs.length + x := by rw [Nat.mul_add, Nat.mul_one]
      have h3 : z * xs.length ≤ x * xs.length := Nat.mul_le_mul_right _ (hz x (List.mem_cons_self ..))
      exact shr_low xs (r - x) hp2.2 ht (fun y hy => hz y (List.mem_cons_of_mem x hy)) (by omega)
theorem sg_m1 : ∀ (L : List Nat) (f : Nat → Nat), (∀ y, y ∈ L → f y = 1) → (L.map f).sum = L.length
  | [], _, _ => rfl
  | y :: ys, f, h => by
    rw [List.map_cons, List.sum_cons, List.length_cons, h y (List.mem_cons_self ..), sg_m1 ys f (fun z hz => h z (List.mem_cons_of_mem y hz))]
    omega
theorem sg_m0 : ∀ (L : List Nat) (f : Nat → Nat), (∀ y, y ∈ L → f y = 0) → (L.map f).sum = 0
  | [], _, _ => rfl
  | y :: ys, f, h => by
    rw [List.map_cons, List.sum_cons, h y (List.mem_cons_self ..), sg_m0 ys f (fun z hz => h z (List.mem_cons_of_mem y hz))]
theorem shr_is : ∀ (L : List Nat) (r : Nat), L.Pairwise (· ≤ ·) → (shr L r).1 = true → 0 < (shr L r).2.2 ∧ (shr L r).2.2 = (L.map (fun y => if (shr L r).2.1 ≤ y * (shr L r).2.2 then 1 else 0)).sum ∧ (shr L r).2.1 + (L.map (fun y => if (shr L r).2.1 ≤ y * (shr L r).2.2 then 0 else y)).sum = r
  | [], _, _, h => by cases h
  | x :: xs, r, hp, ht => by
    have hp2 := List.pairwise_cons.mp hp
    by_cases h : r ≤ x * (xs.length + 1)
    · have e : shr (x :: xs) r = (true, r, xs.length + 1) := by rw [shr, if_pos h]
      rw [e]
      dsimp only
      have hy : ∀ y, y ∈ x :: xs → r ≤ y * (xs.length + 1) := fun y hy => by
        rcases List.mem_cons.mp hy with q | q
        · rw [q]
          exact h
        · exact Nat.le_trans h (Nat.mul_le_mul_right _ (hp2.1 y q))
      refine ⟨Nat.succ_pos _, ?_, ?_⟩
      · rw [sg_m1 _ _ (fun y q => if_pos (hy y q)), List.length_cons]
      · rw [sg_m0 _ _ (fun y q => if_pos (hy y q)), Nat.add_zero]
    · have e : shr (x :: xs) r = shr xs (r - x) := by rw [shr, if_neg h]
      rw [e] at ht ⊢
      have e2 : x * (xs.length + 1) = x * xs.length + x := by rw [Nat.mul_add, Nat.mul_one]
      have h1 := shr_is xs (r - x) hp2.2 ht
      have h2 := shr_low (z := x) xs (r - x) hp2.2 ht hp2.1 (by omega)
      refine ⟨h1.1, ?_, ?_⟩
      · rw [List.map_cons, List.sum_cons, if_neg (by omega), Nat.zero_add]
        exact h1.2.1
      · rw [List.map_cons, List.sum_cons, if_neg (by omega)]
        have := h1.2.2
        omega
/-- pay has those who are there and whose purse isn't empty -/
def Enu (vs : Nat) (pur pay : Nat → Nat) (pc : Nat) : Prop := (∀ i, i < pc → pay i < 48 ∧ vs.testBit (pay i) = true ∧ 0 < pur (pay i)) ∧ (∀ i j, i < pc → j < pc → pay i = pay j → i = j) ∧ ∀ v, v < 48 → vs.testBit v = true → 0 < pur v → ∃ i, i < pc ∧ pay i = v
def sqp (vs : Nat) (ap : Nat → Nat) (p v : Nat) : Bool := vs.testBit v && (ap v).testBit p
def suM (u : Nat → Bool) (x : Nat → Nat) (v : Nat) : Nat := if u v = true then x v else 0
theorem supL_all {vs : Nat} {pur pay ap : Nat → Nat} {pc p : Nat} (hE : Enu vs pur pay pc) (f : Nat → Nat) (h0 : f 0 = 0) : ((supL pur pay ap p pc 0).map f).sum = sg (fun v => if sqp vs ap p v = true then f (pur v) else 0) 48 := by
  rw [supL_sum, sg_congr (g := fun j => if (ap (pay j)).testBit p = true then f (pur (pay j)) else 0) pc (fun j _ => by rw [Nat.zero_add])]
  have h1 := sg_inj (pay := pay) (N := 48) pc (fun v => if sqp vs ap p v = true then f (pur v) else 0) (fun i hi => (hE.1 i hi).1) hE.2.1 (fun v hv hn => by
    show (if sqp vs ap p v = true then f (pur v) else 0) = 0
    split
    · rename_i hs
      unfold sqp at hs
      have hs2 := Bool.and_eq_true_iff.mp hs
      by_cases e : pur v = 0
      · rw [e, h0]
      · obtain ⟨i, hi, q⟩ := hE.2.2 v hv hs2.1 (by omega)
        exact absurd q (hn i hi)
    · rfl)
  rw [← h1]
  refine sg_congr pc (fun i hi => ?_)
  unfold sqp
  rw [(hE.1 i hi).2.1, Bool.true_and]
theorem shr_aff {vs : Nat} {pur pay ap : Nat → Nat} {pc p N : Nat} (hE : Enu vs pur pay pc) (hs : SortI pur pay pc pc) (hN : 0 < N) : (shr (supL pur pay ap p pc 0) N).1 = true ↔ N ≤ sg (suM (sqp vs ap p) pur) 48 := by
  rw [shr_true _ N (supL_sort hs pc 0 (by omega)) hN]
  have h1 := supL_all (ap := ap) (p := p) hE (fun y => y) rfl
  rw [List.map_id'] at h1
  rw [h1]
  exact Iff.rfl
theorem shr_sh {vs : Nat} {pur pay ap : Nat → Nat} {pc p N : Nat} (hE : Enu vs pur pay pc) (hs : SortI pur pay pc pc) (hN : 0 < N) (h : (shr (supL pur pay ap p pc 0) N).1 = true) : IsSh (sqp vs ap p) pur N (shr (supL pur pay ap p pc 0) N).2.1 (shr (supL pur pay ap p pc 0) N).2.2 := by
  have h1 := shr_is _ N (supL_sort (ap := ap) (p := p) hs pc 0 (by omega)) h
  generalize hz : (shr (supL pur pay ap p pc 0) N).2 = z at *
  obtain ⟨r, k⟩ := z
  dsimp only at *
  have hr : 0 < r := by
    apply Nat.pos_of_ne_zero
    intro e
    have h2 := h1.2.2
    rw [e, sg_m0 _ _ (fun y _ => if_pos (Nat.zero_le _))] at h2
    omega
  refine ⟨h1.1, ?_, ?_⟩
  · have h2 := h1.2.1
    rw [supL_all hE (fun y => if r ≤ y * k then 1 else 0) (if_neg (by omega))] at h2
    rw [sg_congr (f := shK (sqp vs ap p) pur r k) (g := fun v => if sqp vs ap p v = true then (if r ≤ pur v * k then 1 else 0) else 0) 48 (fun v _ => by unfold shK; by_cases q : sqp vs ap p v = true <;> simp [q])]
    exact h2
  · have h2 := h1.2.2
    rw [supL_all hE (fun y => if r ≤ y * k then 0 else y) (by show (if r ≤ 0 * k then 0 else 0) = 0; split <;> rfl)] at h2
    rw [sg_congr (f := shP (sqp vs ap p) pur r k) (g := fun v => if sqp vs ap p v = true then (if r ≤ pur v * k then 0 else pur v) else 0) 48 (fun v _ => by unfold shP; by_cases q : sqp vs ap p v = true <;> by_cases q2 : r ≤ pur v * k <;> simp [q, q2])]
    exact h2
