/-! numbers of four words: the steps of their loops -/
abbrev rmZ : Room := { frames := 0, cells := 0, slots := 0, locals := 0 }
theorem upd_at {f : Nat → Int32} {k : Nat} {x : Int32} : upd f k x k = x := by simp [upd]
theorem upd_ne {f : Nat → Int32} {k j : Nat} {x : Int32} (h : j ≠ k) : upd f k x j = f j := by simp [upd, h]
theorem p32s (i : Nat) : 2 ^ (32 * (i + 1)) = 2 ^ (32 * i) * 2 ^ 32 := by rw [Nat.mul_add, Nat.pow_add]
theorem wd_up {x y i v : Nat} {f : Nat → Int32} (hf : ∀ j, j < 4 → f j = if j < i then wd y j else wd x j) (hv : v % 2 ^ 32 = y / 2 ^ (32 * i) % 2 ^ 32) : ∀ j, j < 4 → upd f i (nI v) j = if j < i + 1 then wd y j else wd x j := by
  intro j hj
  by_cases e : j = i
  · subst e
    rw [upd_at, if_pos (Nat.lt_succ_self j), nI_mod, hv]
    rfl
  · rw [upd_ne e, hf j hj]
    by_cases h : j < i
    · rw [if_pos h, if_pos (Nat.lt_succ_of_lt h)]
    · rw [if_neg h, if_neg (by omega)]
theorem wd_dn {x y i v : Nat} {f : Nat → Int32} (hf : ∀ j, j < 4 → f j = if i + 1 ≤ j then wd y j else wd x j) (hv : v % 2 ^ 32 = y / 2 ^ (32 * i) % 2 ^ 32) : ∀ j, j < 4 → upd f i (nI v) j = if i ≤ j then wd y j else wd x j := by
  intro j hj
  by_cases e : j = i
  · subst e
    rw [upd_at, if_pos (Nat.le_refl j), nI_mod, hv]
    rfl
  · rw [upd_ne e, hf j hj]
    by_cases h : i ≤ j
    · rw [if_pos h, if_pos (by omega)]
    · rw [if_neg h, if_neg (by omega)]
theorem l_sh {n k p : Nat} {y : UInt64} (hy : y.toNat % 64 = k) (hp : 2 ^ k = p) (h : n < 2 ^ 64) : ((lN n).toUInt64 >>> y).toInt64 = lN (n / p) := by
  apply Int64.toBitVec_inj.mp
  apply BitVec.eq_of_toNat_eq
  simp [lN, hy, Nat.shiftRight_eq_div_pow, hp]
  first | (rw [Nat.mod_eq_of_lt h, Nat.mod_eq_of_lt (Nat.lt_of_le_of_lt (Nat.div_le_self _ _) h)]; done) | (rw [Nat.mod_eq_of_lt h]; done) | omega
theorem tm_lt {x k P : Nat} (hP : 0 < P) (hk : 0 < k) : x % P * k / P < k := by
  rw [Nat.div_lt_iff_lt_mul hP, Nat.mul_comm k P]
  exact Nat.mul_lt_mul_of_lt_of_le (Nat.mod_lt _ hP) (Nat.le_refl k) hk
theorem tm_le {x k P : Nat} (hP : 0 < P) : x % P * k / P ≤ k := by
  rcases Nat.eq_zero_or_pos k with h | h
  · subst h; simp
  · exact Nat.le_of_lt (tm_lt hP h)
theorem tm_bd {w k c : Nat} (hw : w < 2 ^ 32) (hk : k < 2 ^ 31) (hc : c ≤ k) : w * k + c < 2 ^ 63 := by
  have h1 : w * k ≤ (2 ^ 32 - 1) * k := Nat.mul_le_mul_right _ (by omega)
  omega
theorem dv_step {x d P B : Nat} (hP : 0 < P) (hB : 0 < B) (hd : 0 < d) : x / d / P % B = (x / (P * B) % d * B + x / P % B) / d ∧ x / P % d = (x / (P * B) % d * B + x / P % B) % d ∧ (x / (P * B) % d * B + x / P % B) / d < B := by
  have e : x / P = x / (P * B) * B + x / P % B := by
    rw [← Nat.div_div_eq_div_mul, Nat.mul_comm]
    exact (Nat.div_add_mod (x / P) B).symm
  have e2 : x / P = d * (x / (P * B) / d * B) + (x / (P * B) % d * B + x / P % B) := by
    conv => lhs; rw [e]; lhs; lhs; rw [← Nat.div_add_mod (x / (P * B)) d]
    rw [Nat.add_mul, Nat.mul_assoc, Nat.add_assoc]
  have hlt : (x / (P * B) % d * B + x / P % B) / d < B := by
    rw [Nat.div_lt_iff_lt_mul hd]
    have h1 : x / (P * B) % d * B + B ≤ d * B := by
      have := Nat.mul_le_mul_right B (Nat.succ_le_of_lt (Nat.mod_lt (x / (P * B)) hd))
      rw [Nat.succ_mul] at this
      exact this
    have h2 := Nat.mod_lt (x / P) hB
    rw [Nat.mul_comm B d]
    omega
  refine ⟨?_, ?_, hlt⟩
  · rw [Nat.div_div_eq_div_mul, Nat.mul_comm d P, ← Nat.div_div_eq_div_mul]
    conv => lhs; rw [e2]
    rw [Nat.mul_add_div hd, Nat.mul_comm, Nat.mul_add_mod, Nat.mod_eq_of_lt hlt]
  · conv => lhs; rw [e2]
    rw [Nat.mul_add_mod]
theorem mn_step {x y P B : Nat} (hP : 0 < P) (hB : 0 < B) (hxy : y ≤ x) :
    ∃ b b' : Nat, b = (if x % P < y % P then 1 else 0) ∧ b' = (if x % (P * B) < y % (P * B) then 1 else 0) ∧ (x - y) / P % B + y / P % B + b = x / P % B + b' * B := by
  refine ⟨_, _, rfl, rfl, ?_⟩
  have ex : x % (P * B) = P * (x / P % B) + x % P := by rw [Nat.mod_mul]; omega
  have ey : y % (P * B) = P * (y / P % B) + y % P := by rw [Nat.mod_mul]; omega
  have hx := Nat.mod_lt x hP
  have hy := Nat.mod_lt y hP
  have ed : (x - y) / P + y / P + (if x % P < y % P then 1 else 0) = x / P := by
    have h1 := Nat.div_add_mod x P
    have h2 := Nat.div_add_mod y P
    have h3 := Nat.div_add_mod (x - y) P
    have h4 := Nat.mod_lt (x - y) hP
    generalize x / P = X at *
    generalize y / P = Y at *
    generalize (x - y) / P = Z at *
    generalize x % P = r at *
    generalize y % P = t at *
    generalize (x - y) % P = u at *
    have h5 : P * Z + u + (P * Y + t) = P * X + r := by omega
    split
    · rename_i hlt
      have h6 : P * (Z + Y + 1) + (u + t - P) = P * X + r ∨ P * (Z + Y) + (u + t) = P * X + r := by
        right; rw [Nat.mul_add]; omega
      rcases Nat.lt_trichotomy (Z + Y + 1) X with h | h | h
      · have := Nat.mul_le_mul_left P (show Z + Y + 2 ≤ X by omega)
        rw [Nat.mul_add, Nat.mul_add] at this
        omega
      · exact h
      · have := Nat.mul_le_mul_left P (show X ≤ Z + Y by omega)
        rw [Nat.mul_add] at this
        omega
    · rename_i hlt
      rcases Nat.lt_trichotomy (Z + Y) X with h | h | h
      · have := Nat.mul_le_mul_left P (show Z + Y + 1 ≤ X by omega)
        rw [Nat.mul_add, Nat.mul_add] at this
        omega
      · exact h
      · have := Nat.mul_le_mul_left P (show X + 1 ≤ Z + Y by omega)
        rw [Nat.mul_add, Nat.mul_add] at this
        omega
  have hX := Nat.mod_lt (x / P) hB
  have hY := Nat.mod_lt (y / P) hB
  have hZ := Nat.mod_lt ((x - y) / P) hB
  have hb : (if x % (P * B) < y % (P * B) then 1 else 0) = if x / P % B < y / P % B + (if x % P < y % P then 1 else 0) then 1 else 0 := by
    rw [ex, ey]
    rcases Nat.lt_trichotomy (x / P % B) (y / P % B) with h | h | h
    · have := Nat.mul_le_mul_left P (show x / P % B + 1 ≤ y / P % B by omega)
      rw [Nat.mul_add] at this
      rw [if_pos (by omega), if_pos (by omega)]
    · rw [h]
      split <;> split <;> split <;> omega
    · have := Nat.mul_le_mul_left P (show y / P % B + 1 ≤ x / P % B by omega)
      rw [Nat.mul_add] at this
      rw [if_neg (by omega), if_neg (by split <;> omega)]
  rw [hb]
  have hb1 : (if x % P < y % P then 1 else 0) ≤ 1 := by split <;> omega
  have e1 := Nat.div_add_mod (x / P) B
  have e2 := Nat.div_add_mod (y / P) B
  have e3 := Nat.div_add_mod ((x - y) / P) B
  generalize x / P % B = X at *
  generalize y / P % B = Y at *
  generalize (x - y) / P % B = Z at *
  generalize x / P / B = X' at *
  generalize y / P / B = Y' at *
  generalize (x - y) / P / B = Z' at *
  generalize (if x % P < y % P then 1 else 0) = b at *
  have h7 : B * (Z' + Y') + (Z + Y + b) = B * X' + X := by rw [Nat.mul_add]; omega
  split
  · rcases Nat.lt_trichotomy (Z' + Y' + 1) X' with h | h | h
    · have := Nat.mul_le_mul_left B (show Z' + Y' + 2 ≤ X' by omega)
      rw [Nat.mul_add] at this
      omega
    · rw [← h] at h7
      have e9 := Nat.mul_add B (Z' + Y') 1
      omega
    · have := Nat.mul_le_mul_left B (show X' ≤ Z' + Y' by omega)
      omega
  · rcases Nat.lt_trichotomy (Z' + Y') X' with h | h | h
    · have := Nat.mul_le_mul_left B (show Z' + Y' + 1 ≤ X' by omega)
      rw [Nat.mul_add] at this
      omega
    · rw [h] at h7
      omega
    · have := Nat.mul_le_mul_left B (show X' + 1 ≤ Z' + Y' by omega)
      rw [Nat.mul_add] at this
      omega
