/-! all sets of one size, in their order -/
theorem cnt_ct2 (a b k : Nat) (hb : b < 2 ^ k) : ∀ n, cnt (2 ^ k * a + b) (k + n) = cnt b k + cnt a n
  | 0 => by
    show cnt (2 ^ k * a + b) k = cnt b k + 0
    rw [Nat.add_zero]
    have key : ∀ j, j ≤ k → cnt (2 ^ k * a + b) j = cnt b j := by
      intro j
      induction j with
      | zero => intro _; rfl
      | succ j ih =>
        intro hj
        rw [cnt, cnt, ih (by omega)]
        congr 1
        obtain ⟨d, rfl⟩ : ∃ d, k = j + 1 + d := ⟨k - (j + 1), by omega⟩
        rw [show 2 ^ (j + 1 + d) * a + b = 2 ^ j * (2 * (2 ^ d * a)) + b by rw [Nat.pow_add, Nat.pow_succ]; simp only [Nat.mul_assoc], Nat.mul_add_div (Nat.two_pow_pos j)]
        omega
    exact key k (Nat.le_refl k)
  | n + 1 => by
    have ih := cnt_ct2 a b k hb n
    show cnt (2 ^ k * a + b) (k + n) + (2 ^ k * a + b) / 2 ^ (k + n) % 2 = cnt b k + (cnt a n + a / 2 ^ n % 2)
    rw [ih, Nat.pow_add, ← Nat.div_div_eq_div_mul, Nat.mul_add_div (Nat.two_pow_pos k), Nat.div_eq_of_lt hb, Nat.add_zero]
    omega
theorem cnt_z : ∀ n, cnt 0 n = 0
  | 0 => rfl
  | n + 1 => by rw [cnt, cnt_z n, Nat.zero_div]
theorem cnt_wide {b k n : Nat} (hb : b < 2 ^ k) : cnt b (k + n) = cnt b k := by
  have := cnt_ct2 0 b k hb n
  rw [Nat.mul_zero, Nat.zero_add, cnt_z, Nat.add_zero] at this
  exact this
theorem cnt_le2 (x : Nat) : ∀ n, cnt x n ≤ n
  | 0 => Nat.le_refl 0
  | n + 1 => by
    have := cnt_le2 x n
    have h2 : x / 2 ^ n % 2 < 2 := Nat.mod_lt _ (by decide)
    rw [cnt]
    omega
theorem cnt_top : ∀ k b, b < 2 ^ k → (cnt b k = k → b = 2 ^ k - 1) ∧ (cnt b k = 0 → b = 0)
  | 0, b, h => by
    have : b = 0 := by omega
    exact ⟨fun _ => by rw [this], fun _ => this⟩
  | k + 1, b, h => by
    have hk := Nat.two_pow_pos k
    have e : 2 ^ (k + 1) = 2 ^ k * 2 := Nat.pow_succ ..
    have hq : b / 2 ^ k < 2 := Nat.div_lt_of_lt_mul (by omega)
    have hd := Nat.div_add_mod b (2 ^ k)
    have hm := Nat.mod_lt b hk
    have ih := cnt_top k (b % 2 ^ k) hm
    have hc : cnt b (k + 1) = cnt (b % 2 ^ k) k + b / 2 ^ k := by
      have := cnt_ct2 (b / 2 ^ k) (b % 2 ^ k) k hm 1
      rw [hd] at this
      rw [this]
      congr 1
      show 0 + b / 2 ^ k / 2 ^ 0 % 2 = b / 2 ^ k
      rw [Nat.pow_zero, Nat.div_one]
      generalize b / 2 ^ k = z at *
      omega
    have hl := cnt_le2 (b % 2 ^ k) k
    rw [hc]
    generalize b / 2 ^ k = z at *
    constructor
    · intro h1
      have h2 : z = 1 := by omega
      have h3 := ih.1 (by omega)
      rw [h2, Nat.mul_one] at hd
      omega
    · intro h1
      have h2 : z = 0 := by omega
      have h3 := ih.2 (by omega)
      rw [h2, Nat.mul_zero] at hd
      omega
theorem cnt_ones (k : Nat) : cnt (2 ^ k - 1) k = k := by
  induction k with
  | zero => rfl
  | succ k ih =>
    have hk := Nat.two_pow_pos k
    have e : 2 ^ (k + 1) - 1 = 2 ^ k * 1 + (2 ^ k - 1) := by rw [Nat.pow_succ]; omega
    rw [e, cnt_ct2 1 (2 ^ k - 1) k (by omega) 1, ih]
    rfl
/-- a number, cut at its lowest run of ones -/
theorem nx_cut {x : Nat} (h : 0 < x) : ∃ t j h', 1 ≤ j ∧ x = 2 ^ (t + j + 1) * h' + 2 ^ t * (2 ^ j - 1) := by
  obtain ⟨t, w, hw⟩ := tz_ex x h
  obtain ⟨j, h', hj⟩ := tz_ex (2 * w + 2) (by omega)
  have hj1 : 1 ≤ j := by
    apply Nat.pos_of_ne_zero
    intro q
    rw [q, Nat.pow_zero, Nat.one_mul] at hj
    omega
  refine ⟨t, j, h', hj1, ?_⟩
  have hp := Nat.two_pow_pos j
  have e1 : 2 * w + 1 = 2 ^ (j + 1) * h' + (2 ^ j - 1) := by
    rw [Nat.pow_succ, Nat.mul_assoc]
    rw [Nat.mul_add, Nat.mul_one] at hj
    omega
  rw [hw, e1, Nat.mul_add, ← Nat.mul_assoc, ← Nat.pow_add, show t + (j + 1) = t + j + 1 by omega]
theorem nx_is {t j h x : Nat} (hj : 1 ≤ j) (hx : x = 2 ^ (t + j + 1) * h + 2 ^ t * (2 ^ j - 1)) (ht : t ≤ 16) : nxS x = 2 ^ (t + j + 1) * h + (2 ^ (t + j) + (2 ^ (j - 1) - 1)) := by
  have hp := Nat.two_pow_pos j
  have hpt := Nat.two_pow_pos t
  obtain ⟨i, rfl⟩ : ∃ i, j = i + 1 := ⟨j - 1, by omega⟩
  have hpi := Nat.two_pow_pos i
  have e2 : 2 ^ (i + 1) = 2 * 2 ^ i := by rw [Nat.pow_succ, Nat.mul_comm]
  have ex : x = 2 ^ t * (2 * (2 ^ (i + 1) * h + (2 ^ i - 1)) + 1) := by
    rw [hx, show t + (i + 1) + 1 = t + (1 + (i + 1)) by omega, Nat.pow_add, Nat.mul_assoc, ← Nat.mul_add]
    congr 1
    rw [Nat.pow_add 2 1, Nat.pow_one, Nat.mul_assoc]
    omega
  have hn : ntz 16 x = t := by rw [ex]; exact ntz_is 16 t _ ht
  have es : x + 2 ^ t = 2 ^ (t + (i + 1)) * (2 * h + 1) := by
    rw [hx, Nat.pow_succ 2 (t + (i + 1)), Nat.mul_assoc, Nat.mul_add, Nat.mul_one]
    have : 2 ^ t * (2 ^ (i + 1) - 1) + 2 ^ t = 2 ^ (t + (i + 1)) := by rw [Nat.pow_add 2 t (i + 1), Nat.mul_sub, Nat.mul_one]; have := Nat.le_mul_of_pos_right (2 ^ t) hp; omega
    omega
  have exo : x ^^^ (x + 2 ^ t) = 2 ^ t * (2 ^ (i + 2) - 1) := by
    apply Nat.eq_of_testBit_eq
    intro b
    have a1 : x = 2 ^ t * (2 ^ (i + 2) * h + (2 ^ (i + 1) - 1)) := by
      rw [hx, show t + (i + 1) + 1 = t + (i + 2) by omega, Nat.pow_add, Nat.mul_assoc, ← Nat.mul_add]
    have a2 : x + 2 ^ t = 2 ^ t * (2 ^ (i + 2) * h + 2 ^ (i + 1)) := by
      rw [a1, ← Nat.mul_succ]
      congr 1
      omega
    have l1 : 2 ^ (i + 1) - 1 < 2 ^ (i + 2) := by rw [Nat.pow_succ 2 (i + 1)]; omega
    have l2 : 2 ^ (i + 1) < 2 ^ (i + 2) := Nat.pow_lt_pow_right (by decide) (by omega)
    rw [Nat.testBit_xor, a2, a1]
    have z0 : ∀ y, (2 ^ t * y).testBit b = if b < t then false else y.testBit (b - t) := fun y => by
      have := Nat.testBit_two_pow_mul_add y (b := 0) (i := t) hpt b
      rw [Nat.add_zero] at this
      rw [this]
      by_cases hb : b < t
      · rw [if_pos hb, if_pos hb, Nat.zero_testBit]
      · rw [if_neg hb, if_neg hb]
    rw [z0, z0, z0]
    by_cases hb : b < t
    · rw [if_pos hb, if_pos hb, if_pos hb]
      rfl
    · rw [if_neg hb, if_neg hb, if_neg hb, Nat.testBit_two_pow_mul_add h l1, Nat.testBit_two_pow_mul_add h l2, Nat.testBit_two_pow_sub_one, Nat.testBit_two_pow_sub_one, Nat.testBit_two_pow]
      by_cases c1 : b - t < i + 2
      · rw [if_pos c1, if_pos c1, decide_eq_true c1]
        by_cases c2 : b - t < i + 1
        · rw [decide_eq_true c2, decide_eq_false (show ¬ i + 1 = b - t by omega)]
          rfl
        · rw [decide_eq_false c2, decide_eq_true (show i + 1 = b - t by omega)]
          rfl
      · rw [if_neg c1, if_neg c1, decide_eq_false c1, Bool.xor_self]
  have ed : 2 ^ t * (2 ^ (i + 2) - 1) / 2 ^ (2 + t) = 2 ^ i - 1 := by
    rw [Nat.add_comm 2 t, Nat.pow_add 2 t 2, Nat.mul_div_mul_left _ _ hpt, p2_div (by omega)]
    rw [Nat.add_sub_cancel]
  unfold nxS
  rw [hn, exo, ed, es, show 2 ^ (t + (i + 1)) * (2 * h + 1) = 2 ^ (t + (i + 1) + 1) * h + 2 ^ (t + (i + 1)) by rw [Nat.pow_succ 2 (t + (i + 1)), Nat.mul_add, Nat.mul_one, Nat.mul_assoc], Nat.add_sub_cancel]
  have hlt : 2 ^ i - 1 < 2 ^ (t + (i + 1)) := by
    have := Nat.pow_le_pow_right (show 0 < 2 by decide) (show i ≤ t + (i + 1) by omega)
    omega
  have e9 : 2 ^ (t + (i + 1) + 1) * h + 2 ^ (t + (i + 1)) = 2 ^ (t + (i + 1)) * (2 * h + 1) := by rw [Nat.pow_succ 2 (t + (i + 1)), Nat.mul_add, Nat.mul_one, Nat.mul_assoc]
  rw [e9, ← Nat.two_pow_add_eq_or_of_lt hlt, ← e9]
  omega
/-- the next of the same size, and none between -/
theorem nx_gap {x : Nat} (h0 : 0 < x) (h16 : x < 65536) : x < nxS x ∧ cnt (nxS x) 40 = cnt x 40 ∧ ∀ s, x < s → s < nxS x → cnt s 40 ≠ cnt x 40 := by
  obtain ⟨t, j, h, hj, hx⟩ := nx_cut h0
  have hpt := Nat.two_pow_pos t
  have hpj := Nat.two_pow_pos j
  have hj2 : 2 ^ t ≤ 2 ^ t * (2 ^ j - 1) := Nat.le_mul_of_pos_right _ (by have := Nat.pow_le_pow_right (show 0 < 2 by decide) hj; omega)
  have hjj : 2 ^ (j - 1) ≤ 2 ^ j - 1 := by
    obtain ⟨i, rfl⟩ : ∃ i, j = i + 1 := ⟨j - 1, by omega⟩
    rw [Nat.add_sub_cancel, Nat.pow_succ]
    have := Nat.two_pow_pos i
    omega
  have hjm : 2 ^ (j - 1) ≤ 2 ^ t * (2 ^ j - 1) := Nat.le_trans hjj (Nat.le_mul_of_pos_left _ hpt)
  have hxl : 2 ^ t * (2 ^ j - 1) ≤ x := by rw [hx]; exact Nat.le_add_left _ _
  have ht : t < 16 := by
    refine Nat.lt_of_not_le (fun q => ?_)
    have := Nat.pow_le_pow_right (show 0 < 2 by decide) q
    omega
  have hj16 : j - 1 < 16 := by
    refine Nat.lt_of_not_le (fun q => ?_)
    have := Nat.pow_le_pow_right (show 0 < 2 by decide) q
    omega
  have hn := nx_is hj hx (by omega)
  obtain ⟨W, hW⟩ : ∃ W, 40 = t + j + 1 + W := ⟨40 - (t + j + 1), by omega⟩
  have eX : 2 ^ t * (2 ^ j - 1) = 2 ^ (t + j) - 2 ^ t := by rw [Nat.mul_sub, Nat.mul_one, Nat.pow_add]
  have hpk := Nat.two_pow_pos (t + j)
  have eK : 2 ^ (t + j + 1) = 2 * 2 ^ (t + j) := by rw [Nat.pow_succ, Nat.mul_comm]
  have ltt : 2 ^ t ≤ 2 ^ (t + j) := Nat.pow_le_pow_right (by decide) (by omega)
  have ltj : 2 ^ (j - 1) ≤ 2 ^ (t + j) := Nat.pow_le_pow_right (by decide) (by omega)
  have hpj1 := Nat.two_pow_pos (j - 1)
  have cX : cnt (2 ^ t * (2 ^ j - 1)) (t + j + 1) = j := by
    have h1 := cnt_ct2 (2 ^ j - 1) 0 t hpt j
    rw [Nat.add_zero, cnt_z, cnt_ones, Nat.zero_add] at h1
    rw [cnt_wide (show 2 ^ t * (2 ^ j - 1) < 2 ^ (t + j) by omega), h1]
  have cx : cnt x 40 = j + cnt h W := by
    rw [hx, hW, cnt_ct2 h _ (t + j + 1) (by omega), cX]
  have cl : ∀ l, l < 2 ^ (t + j) → cnt (2 ^ (t + j) + l) (t + j + 1) = cnt l (t + j) + 1 := fun l hl => by
    have := cnt_ct2 1 l (t + j) hl 1
    rw [Nat.mul_one] at this
    rw [this]
    rfl
  have cs : ∀ l, l < 2 ^ (j - 1) → cnt l (t + j) = cnt l (j - 1) := fun l hl => by
    have := cnt_wide (n := t + 1) hl
    rw [show j - 1 + (t + 1) = t + j by omega] at this
    exact this
  refine ⟨?_, ?_, fun s h1 h2 => ?_⟩
  · rw [hn, hx]
    omega
  · rw [hn, cx, hW, cnt_ct2 h _ (t + j + 1) (by omega), cl _ (by omega), cs _ (by omega), cnt_ones]
    omega
  · have hq : s / 2 ^ (t + j + 1) = h := by
      apply Nat.div_eq_of_lt_le
      · rw [Nat.mul_comm]
        rw [hx] at h1
        omega
      · rw [Nat.succ_mul, Nat.mul_comm h]
        rw [hn] at h2
        omega
    have hd := Nat.div_add_mod s (2 ^ (t + j + 1))
    have hm := Nat.mod_lt s (Nat.two_pow_pos (t + j + 1))
    rw [hq] at hd
    generalize s % 2 ^ (t + j + 1) = l at *
    rw [← hd, cx, hW, cnt_ct2 h l (t + j + 1) hm]
    have hl1 : 2 ^ t * (2 ^ j - 1) < l := by rw [hx] at h1; omega
    have hl2 : l < 2 ^ (t + j) + (2 ^ (j - 1) - 1) := by rw [hn] at h2; omega
    by_cases c1 : l < 2 ^ (t + j)
    · have e1 : l / 2 ^ t = 2 ^ j - 1 := by
        apply Nat.div_eq_of_lt_le
        · rw [Nat.mul_comm]; omega
        · have e9 : 2 ^ j - 1 + 1 = 2 ^ j := by omega
          show l < (2 ^ j - 1 + 1) * 2 ^ t
          rw [e9, ← Nat.pow_add, Nat.add_comm j t]
          exact c1
      have e2 := Nat.div_add_mod l (2 ^ t)
      have e3 := Nat.mod_lt l hpt
      rw [e1] at e2
      have e4 : cnt l (t + j) = cnt (l % 2 ^ t) t + j := by
        have := cnt_ct2 (2 ^ j - 1) (l % 2 ^ t) t e3 j
        rw [e2, cnt_ones] at this
        exact this
      have e5 : cnt (l % 2 ^ t) t ≠ 0 := fun q => by
        have := (cnt_top t _ e3).2 q
        omega
      rw [cnt_wide c1, e4]
      omega
    · obtain ⟨b, rfl⟩ : ∃ b, l = 2 ^ (t + j) + b := ⟨l - 2 ^ (t + j), by omega⟩
      have hb : b < 2 ^ (j - 1) - 1 := by omega
      rw [cl b (by omega), cs b (by omega)]
      have e5 : cnt b (j - 1) ≠ j - 1 := fun q => by
        have := (cnt_top (j - 1) b (by omega)).1 q
        omega
      have e6 := cnt_le2 b (j - 1)
      omega
