/-! words and comparisons -/
theorem nI_inj {a b : Nat} (ha : a < 2 ^ 32) (hb : b < 2 ^ 32) : nI a = nI b ↔ a = b := by
  refine ⟨fun h => ?_, fun h => by rw [h]⟩
  have := congrArg (fun z : Int32 => z.toBitVec.toNat) h
  simp only [pk_tn ha, pk_tn hb] at this
  exact this
theorem i_or0 (a b : Int32) : a ||| b = 0 ↔ a = 0 ∧ b = 0 := by
  refine ⟨fun h => ?_, fun h => by rw [h.1, h.2]; decide⟩
  have h1 : a.toBitVec.toNat ||| b.toBitVec.toNat = 0 := by
    have := congrArg (fun z : Int32 => z.toBitVec.toNat) h
    simpa using this
  have h2 := Nat.or_eq_zero_iff.mp h1
  refine ⟨Int32.toBitVec_inj.mp (BitVec.eq_of_toNat_eq (by simpa using h2.1)), Int32.toBitVec_inj.mp (BitVec.eq_of_toNat_eq (by simpa using h2.2))⟩
theorem wd_0 {x j : Nat} : wd x j = 0 ↔ x / 2 ^ (32 * j) % 2 ^ 32 = 0 := nI_inj (Nat.mod_lt _ (by decide)) (by decide)
theorem wd_1 {x j : Nat} : wd x j = 1 ↔ x / 2 ^ (32 * j) % 2 ^ 32 = 1 := nI_inj (Nat.mod_lt _ (by decide)) (by decide)
theorem wd_z {x : Nat} (h : x < 2 ^ 128) : wd x 0 ||| wd x 1 ||| wd x 2 ||| wd x 3 = 0 ↔ x = 0 := by
  rw [i_or0, i_or0, i_or0, wd_0, wd_0, wd_0, wd_0]
  simp only [Nat.mul_zero, Nat.pow_zero, Nat.div_one, Nat.mul_one, show 32 * 2 = 64 from rfl, show 32 * 3 = 96 from rfl]
  omega
theorem wd_o {x : Nat} (h : x < 2 ^ 128) : (wd x 0 = 1 ∧ wd x 1 ||| wd x 2 ||| wd x 3 = 0) ↔ x = 1 := by
  rw [i_or0, i_or0, wd_0, wd_0, wd_0, wd_1]
  simp only [Nat.mul_zero, Nat.pow_zero, Nat.div_one, Nat.mul_one, show 32 * 2 = 64 from rfl, show 32 * 3 = 96 from rfl]
  omega
def cmpI (x y : Nat) : Int32 := if x < y then -1 else if x = y then 0 else 1
theorem cmpI_up {x y P B : Nat} (hB : 0 < B) (h : x / (P * B) = y / (P * B)) (hw : x / P % B = y / P % B) : x / P = y / P := by
  rw [← Nat.div_div_eq_div_mul, ← Nat.div_div_eq_div_mul] at h
  rw [← Nat.div_add_mod (x / P) B, ← Nat.div_add_mod (y / P) B, h, hw]
theorem cmpI_lt {x y P B : Nat} (hP : 0 < P) (hB : 0 < B) (h : x / (P * B) = y / (P * B)) (hw : x / P % B < y / P % B) : x < y := by
  rw [← Nat.div_div_eq_div_mul, ← Nat.div_div_eq_div_mul] at h
  have h1 : x / P < y / P := by
    rw [← Nat.div_add_mod (x / P) B, ← Nat.div_add_mod (y / P) B, h]
    omega
  exact Nat.lt_of_not_le fun q => absurd (Nat.div_le_div_right (c := P) q) (Nat.not_le.mpr h1)
theorem l_shl {n : Nat} : lN n <<< ((32 : Int32).toInt64 &&& 63) = lN (n * 2 ^ 32) := wb_shl n (k := 32) (by decide)
theorem l_or {r w : Nat} (hw : w < 2 ^ 32) (hr : r < 2 ^ 31) : lN (r * 2 ^ 32) ||| lN w = lN (r * 2 ^ 32 + w) := g_or (k := 32) rfl hw (by omega)
theorem l_bw {a b c z q : Nat} (h : z + b + c = a + q * 2 ^ 32) : lN a - lN b + (0 - lN c) = lN z - lN (q * 2 ^ 32) := by
  have e : lN z + lN b + lN c = lN a + lN (q * 2 ^ 32) := by rw [lN_add, lN_add, lN_add, h]
  generalize lN z = Z at *
  generalize lN b = B at *
  generalize lN c = C at *
  generalize lN a = A at *
  generalize lN (q * 2 ^ 32) = T at *
  grind
theorem l_bi {z q : Nat} : (lN z - lN (q * 2 ^ 32)).toInt32 = nI z := by
  have e : nI (q * 2 ^ 32) = 0 := by rw [nI_mod, Nat.mul_mod_left]; rfl
  rw [Int64.toInt32_sub, lN_i, lN_i, e]
  exact Int32.sub_zero _
theorem l_bs {z q : Nat} {y : Int64} (hy : (y.toBitVec.smod 64).toNat = 32) (hz : z < 2 ^ 32) (hq : q ≤ 1) : (lN z - lN (q * 2 ^ 32)) >>> y = 0 - lN q := by
  have h2 : q = 0 ∨ q = 1 := by omega
  have e : ∀ x : Int64, (x >>> y).toInt = x.toInt >>> 32 := fun x => by
    rw [← hy]
    exact BitVec.toInt_sshiftRight ..
  rcases h2 with rfl | rfl
  · have h3 : lN z - lN (0 * 2 ^ 32) = lN z := by
      rw [Nat.zero_mul]
      exact Int64.sub_zero _
    rw [h3, pf_shr hy (by omega), Nat.div_eq_of_lt hz]
    rfl
  · apply Int64.toInt_inj.mp
    rw [e, Int64.toInt_sub, pf_lI (by omega), pf_lI (by decide), Int.shiftRight_eq_div_pow]
    have h4 : Int.bmod ((z : Int) - ((1 * 2 ^ 32 : Nat) : Int)) (2 ^ 64) = (z : Int) - 4294967296 := by
      rw [Int.bmod_eq_of_le] <;> omega
    rw [h4]
    have h5 : ((0 : Int64) - lN 1).toInt = -1 := by decide
    rw [h5]
    omega
theorem wd_small {k : Nat} (h : k < 2 ^ 32) (j : Nat) : upd (fun _ => (0 : Int32)) 0 (nI k) j = wd k j := by
  by_cases e : j = 0
  · subst e
    rw [upd_at]
    unfold wd
    rw [Nat.mul_zero, Nat.pow_zero, Nat.div_one, Nat.mod_eq_of_lt h]
  · rw [upd_ne e]
    unfold wd
    rw [Nat.div_eq_of_lt (Nat.lt_of_lt_of_le h (Nat.pow_le_pow_right (by decide) (by omega)))]
    rfl
theorem wd_zero (j : Nat) : wd 0 j = 0 := by
  unfold wd
  rw [Nat.zero_div, Nat.zero_mod]
  rfl
def b2i (b : Bool) : Int32 := if b = true then 1 else 0
theorem b2i_0 {b : Bool} : b2i b = 0 ↔ b = false := by cases b <;> decide
theorem b2i_n0 {b : Bool} : ¬ b2i b = 0 ↔ b = true := by cases b <;> decide
