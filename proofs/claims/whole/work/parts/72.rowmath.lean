/-! numbers in rows of twelve limbs of 16 bits -/
def lb (x k : Nat) : Nat := x / 2 ^ (16 * k) % 65536
def rwA (Rw : Nat → Nat) (j : Nat) : Int32 := nI (lb (Rw (j / 12)) (j % 12))
def mixR (k N O : Nat) : Nat := N % 2 ^ (16 * k) + O / 2 ^ (16 * k) * 2 ^ (16 * k)
theorem p16s (i : Nat) : 2 ^ (16 * (i + 1)) = 2 ^ (16 * i) * 65536 := by rw [Nat.mul_add, Nat.pow_add]
theorem lb_lt (x k : Nat) : lb x k < 65536 := Nat.mod_lt _ (by decide)
theorem lb_mod {x k i : Nat} (h : i < k) : lb (x % 2 ^ (16 * k)) i = lb x i := by
  obtain ⟨d, rfl⟩ : ∃ d, k = i + 1 + d := ⟨k - (i + 1), by omega⟩
  unfold lb
  have e : 2 ^ (16 * (i + 1 + d)) = 2 ^ (16 * i) * (65536 * 2 ^ (16 * d)) := by
    rw [show 16 * (i + 1 + d) = 16 * i + (16 + 16 * d) by omega, Nat.pow_add, Nat.pow_add]
  rw [e, Nat.mod_mul_right_div_self, Nat.mod_mul_right_mod]
theorem lb_mix {k N O i : Nat} : lb (mixR k N O) i = if i < k then lb N i else lb O i := by
  unfold mixR
  have hP : 0 < 2 ^ (16 * k) := Nat.two_pow_pos _
  have hl : N % 2 ^ (16 * k) < 2 ^ (16 * k) := Nat.mod_lt _ hP
  by_cases h : i < k
  · rw [if_pos h, ← lb_mod (x := N % 2 ^ (16 * k) + O / 2 ^ (16 * k) * 2 ^ (16 * k)) h, ← lb_mod (x := N) h, Nat.add_mul_mod_self_right, Nat.mod_mod]
  · rw [if_neg h]
    unfold lb
    obtain ⟨d, rfl⟩ : ∃ d, i = k + d := ⟨i - k, by omega⟩
    rw [Nat.mul_add, Nat.pow_add, ← Nat.div_div_eq_div_mul, ← Nat.div_div_eq_div_mul, Nat.add_mul_div_right _ _ hP, Nat.div_eq_of_lt hl, Nat.zero_add]
theorem mix_0 (N O : Nat) : mixR 0 N O = O := by
  unfold mixR
  rw [Nat.mul_zero, Nat.pow_zero, Nat.mod_one, Nat.zero_add, Nat.div_one, Nat.mul_one]
theorem mix_12 {N O : Nat} (h1 : N < 2 ^ 192) (h2 : O < 2 ^ 192) : mixR 12 N O = N := by
  unfold mixR
  rw [Nat.mod_eq_of_lt h1, Nat.div_eq_of_lt h2, Nat.zero_mul, Nat.add_zero]
theorem rw_at {Rw : Nat → Nat} {r k : Nat} (h : k < 12) : rwA Rw (12 * r + k) = nI (lb (Rw r) k) := by
  unfold rwA
  rw [show (12 * r + k) / 12 = r by omega, show (12 * r + k) % 12 = k by omega]
theorem rw_rd {Rw : Nat → Nat} {d k N a i : Nat} (h : i < 12) (hk : k ≤ i) : rwA (va_up Rw d (mixR k N (Rw d))) (12 * a + i) = nI (lb (Rw a) i) := by
  rw [rw_at h]
  by_cases e : a = d
  · subst e
    rw [va_up_self, lb_mix, if_neg (by omega)]
  · rw [va_up_ne _ _ e]
theorem rw_rdn {Rw : Nat → Nat} {d k N a i : Nat} (h : i < 12) (hk : i < k) : rwA (va_up Rw d (mixR k (Rw d) N)) (12 * a + i) = nI (lb (Rw a) i) := by
  rw [rw_at h]
  by_cases e : a = d
  · subst e
    rw [va_up_self, lb_mix, if_pos hk]
  · rw [va_up_ne _ _ e]
theorem rw_put {Rw : Nat → Nat} {d k N O v : Nat} (h : k < 12) (hv : v = lb N k) : upd (rwA (va_up Rw d (mixR k N O))) (12 * d + k) (nI v) = rwA (va_up Rw d (mixR (k + 1) N O)) := by
  funext j
  by_cases e : j = 12 * d + k
  · subst e
    rw [upd_at, rw_at h, va_up_self, lb_mix, if_pos (Nat.lt_succ_self k), hv]
  · rw [upd_ne e]
    unfold rwA
    by_cases e2 : j / 12 = d
    · rw [e2, va_up_self, va_up_self, lb_mix, lb_mix]
      have : ¬ j % 12 = k := by omega
      by_cases e3 : j % 12 < k
      · rw [if_pos e3, if_pos (by omega)]
      · rw [if_neg e3, if_neg (by omega)]
    · rw [va_up_ne _ _ e2, va_up_ne _ _ e2]
theorem rw_putd {Rw : Nat → Nat} {d k N O v : Nat} (h : k < 12) (hv : v = lb O k) : upd (rwA (va_up Rw d (mixR (k + 1) N O))) (12 * d + k) (nI v) = rwA (va_up Rw d (mixR k N O)) := by
  funext j
  by_cases e : j = 12 * d + k
  · subst e
    rw [upd_at, rw_at h, va_up_self, lb_mix, if_neg (Nat.lt_irrefl k), hv]
  · rw [upd_ne e]
    unfold rwA
    by_cases e2 : j / 12 = d
    · rw [e2, va_up_self, va_up_self, lb_mix, lb_mix]
      have : ¬ j % 12 = k := by omega
      by_cases e3 : j % 12 < k
      · rw [if_pos e3, if_pos (by omega)]
      · rw [if_neg e3, if_neg (by omega)]
    · rw [va_up_ne _ _ e2, va_up_ne _ _ e2]
theorem va_same {Rw : Nat → Nat} {d : Nat} : va_up Rw d (Rw d) = Rw := by
  funext j
  by_cases e : j = d
  · rw [e, va_up_self]
  · rw [va_up_ne _ _ e]
theorem ad_step {x y P B : Nat} (hP : 0 < P) (hB : 0 < B) : (x + y) / P % B = (x / P % B + y / P % B + (x % P + y % P) / P) % B ∧ (x % (P * B) + y % (P * B)) / (P * B) = (x / P % B + y / P % B + (x % P + y % P) / P) / B := by
  have h1 : (x + y) / P = x / P + y / P + (x % P + y % P) / P := by
    have e : x + y = P * (x / P + y / P) + (x % P + y % P) := by
      have := Nat.div_add_mod x P
      have := Nat.div_add_mod y P
      rw [Nat.mul_add]
      omega
    rw [e, Nat.mul_add_div hP]
  refine ⟨?_, ?_⟩
  · rw [h1, Nat.add_mod (x / P + y / P), Nat.add_mod (x / P) (y / P), ← Nat.add_mod]
  · have e : x % (P * B) + y % (P * B) = P * (x / P % B + y / P % B) + (x % P + y % P) := by
      rw [Nat.mod_mul, Nat.mod_mul, Nat.mul_add]
      omega
    rw [e, ← Nat.div_div_eq_div_mul, Nat.mul_add_div hP]
theorem ad_le {x y P : Nat} (hP : 0 < P) : (x % P + y % P) / P ≤ 1 := by
  have h1 := Nat.mod_lt x hP
  have h2 := Nat.mod_lt y hP
  have : (x % P + y % P) / P < 2 := Nat.div_lt_of_lt_mul (by omega)
  omega
/-! bits of a number -/
def blen : Nat → Nat → Nat
  | 0, _ => 0
  | n + 1, x => if x / 2 ^ n % 2 = 0 then blen n x else n + 1
theorem blen_le : ∀ n x, blen n x ≤ n
  | 0, _ => Nat.le_refl 0
  | n + 1, x => by
    have := blen_le n x
    rw [blen]
    split <;> omega
theorem blen_lt : ∀ n x, x < 2 ^ n → x < 2 ^ blen n x
  | 0, _, h => h
  | n + 1, x, h => by
    rw [blen]
    split
    · rename_i h0
      refine blen_lt n x ?_
      have h1 : x / 2 ^ n < 2 := Nat.div_lt_of_lt_mul (by rw [Nat.pow_succ] at h; exact h)
      have h2 : x / 2 ^ n = 0 := by
        generalize x / 2 ^ n = z at *
        omega
      exact (Nat.div_eq_zero_iff_lt (Nat.two_pow_pos n)).mp h2
    · exact h
theorem blen_ge : ∀ n x, 0 < blen n x → 2 ^ (blen n x - 1) ≤ x
  | 0, _, h => absurd h (Nat.lt_irrefl 0)
  | n + 1, x, h => by
    rw [blen] at h ⊢
    split
    · rename_i h0
      rw [if_pos h0] at h
      exact blen_ge n x h
    · rename_i h0
      rw [Nat.add_sub_cancel]
      refine Nat.le_of_not_lt (fun q => h0 ?_)
      rw [Nat.div_eq_of_lt q]
theorem blen_pos {n x : Nat} (h : x < 2 ^ n) (h0 : 0 < x) : 0 < blen n x := by
  apply Nat.pos_of_ne_zero
  intro e
  have := blen_lt n x h
  rw [e, Nat.pow_zero] at this
  omega
/-- the shift that a quotient begins with -/
theorem q_first {a b : Nat} (ha : a < 2 ^ 192) (hb : b < 2 ^ 192) (h0 : 0 < b) {s : Nat} (hs : blen 192 a + 1 ≤ s + blen 192 b) : a / 2 ^ s < b := by
  have h1 := blen_lt 192 a ha
  have h2 := blen_pos hb h0
  have h3 := blen_ge 192 b h2
  refine Nat.lt_of_lt_of_le ?_ h3
  rw [Nat.div_lt_iff_lt_mul (Nat.two_pow_pos s), ← Nat.pow_add]
  refine Nat.lt_of_lt_of_le h1 (Nat.pow_le_pow_right (by decide) (by omega))
/-- one bit of a quotient -/
theorem q_step {a b i : Nat} (h0 : 0 < b) : a / 2 ^ i % b = (if b ≤ 2 * (a / 2 ^ (i + 1) % b) + a / 2 ^ i % 2 then 2 * (a / 2 ^ (i + 1) % b) + a / 2 ^ i % 2 - b else 2 * (a / 2 ^ (i + 1) % b) + a / 2 ^ i % 2) ∧ a / 2 ^ i / b = 2 * (a / 2 ^ (i + 1) / b) + (if b ≤ 2 * (a / 2 ^ (i + 1) % b) + a / 2 ^ i % 2 then 1 else 0) := by
  have e : a / 2 ^ (i + 1) = a / 2 ^ i / 2 := by rw [Nat.pow_succ, Nat.div_div_eq_div_mul]
  rw [e]
  generalize a / 2 ^ i = x
  have h1 := Nat.div_add_mod (x / 2) b
  have h2 := Nat.mod_lt (x / 2) h0
  generalize x / 2 / b = q at *
  generalize hr : x / 2 % b = r at *
  have h3 : x = b * (2 * q) + (2 * r + x % 2) := by
    have : b * (2 * q) = 2 * (b * q) := by rw [Nat.mul_left_comm]
    omega
  have h4 : x % 2 < 2 := Nat.mod_lt _ (by decide)
  by_cases hc : b ≤ 2 * r + x % 2
  · rw [if_pos hc, if_pos hc]
    have h5 : x = b * (2 * q + 1) + (2 * r + x % 2 - b) := by
      rw [Nat.mul_add, Nat.mul_one]
      omega
    have h6 : 2 * r + x % 2 - b < b := by omega
    refine ⟨?_, ?_⟩
    · conv => lhs; rw [h5]
      rw [Nat.mul_add_mod, Nat.mod_eq_of_lt h6]
    · conv => lhs; rw [h5]
      rw [Nat.mul_add_div h0, Nat.div_eq_of_lt h6, Nat.add_zero]
  · rw [if_neg hc, if_neg hc]
    have h6 : 2 * r + x % 2 < b := by omega
    refine ⟨?_, ?_⟩
    · conv => lhs; rw [h3]
      rw [Nat.mul_add_mod, Nat.mod_eq_of_lt h6]
    · conv => lhs; rw [h3]
      rw [Nat.mul_add_div h0, Nat.div_eq_of_lt h6, Nat.add_zero]
/-- a limb of a shifted number -/
theorem lb_shift {a s k : Nat} : lb (a / 2 ^ s) k = (lb a (k + s / 16) + lb a (k + 1 + s / 16) * 65536) / 2 ^ (s % 16) % 65536 := by
  unfold lb
  have e1 : a / 2 ^ s / 2 ^ (16 * k) = a / 2 ^ (16 * (k + s / 16)) / 2 ^ (s % 16) := by
    rw [Nat.div_div_eq_div_mul, Nat.div_div_eq_div_mul, ← Nat.pow_add, ← Nat.pow_add]
    congr 2
    omega
  have e2 : a / 2 ^ (16 * (k + 1 + s / 16)) = a / 2 ^ (16 * (k + s / 16)) / 65536 := by
    rw [Nat.div_div_eq_div_mul, show 16 * (k + 1 + s / 16) = 16 * (k + s / 16) + 16 by omega, Nat.pow_add]
  rw [e1, e2]
  generalize a / 2 ^ (16 * (k + s / 16)) = x
  have e3 : x % 65536 + x / 65536 % 65536 * 65536 = x % (65536 * 65536) := by
    rw [Nat.mod_mul]
    omega
  rw [e3]
  have hl : s % 16 < 16 := Nat.mod_lt _ (by decide)
  obtain ⟨d, hd⟩ : ∃ d, 16 = s % 16 + d := ⟨16 - s % 16, by omega⟩
  have e4 : 65536 * 65536 = 2 ^ (s % 16) * (65536 * 2 ^ d) := by
    rw [Nat.mul_left_comm, ← Nat.pow_add, ← hd]
  rw [e4, Nat.mod_mul_right_div_self, Nat.mod_mul_right_mod]
theorem lb_hi {a k : Nat} (h : a < 2 ^ 192) (hk : 12 ≤ k) : lb a k = 0 := by
  unfold lb
  rw [Nat.div_eq_of_lt (Nat.lt_of_lt_of_le h (Nat.pow_le_pow_right (by decide) (by omega)))]
theorem bit_lb {a i : Nat} : lb a (i / 16) / 2 ^ (i % 16) % 2 = a / 2 ^ i % 2 := by
  unfold lb
  have hl : i % 16 < 16 := Nat.mod_lt _ (by decide)
  obtain ⟨d, hd⟩ : ∃ d, 16 = i % 16 + (d + 1) := ⟨15 - i % 16, by omega⟩
  have e : 65536 = 2 ^ (i % 16) * (2 * 2 ^ d) := by
    have : 65536 = 2 ^ (i % 16 + (d + 1)) := by rw [← hd]
    rw [this, Nat.pow_add, Nat.pow_succ, Nat.mul_comm 2]
  rw [e, Nat.mod_mul_right_div_self, Nat.mod_mul_right_mod, Nat.div_div_eq_div_mul, ← Nat.pow_add]
  congr 3
  omega
