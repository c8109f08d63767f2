/-! the next greater set of the same size -/
theorem tz_pre {t w i : Nat} : (2 ^ t * (2 * w + 1) - 1).testBit i = if i < t then true else (2 * w).testBit (i - t) := by
  have h : 2 ^ t * (2 * w + 1) - 1 = 2 ^ t * (2 * w) + (2 ^ t - 1) := by
    have := Nat.two_pow_pos t
    rw [Nat.mul_add, Nat.mul_one]
    omega
  rw [h, Nat.testBit_two_pow_mul_add _ (by have := Nat.two_pow_pos t; omega)]
  by_cases e : i < t
  · rw [if_pos e, if_pos e, Nat.testBit_two_pow_sub_one]
    exact decide_eq_true e
  · rw [if_neg e, if_neg e]
theorem tz_bit {t w i : Nat} : (2 ^ t * (2 * w + 1)).testBit i = if i < t then false else (2 * w + 1).testBit (i - t) := by
  have h := Nat.testBit_two_pow_mul_add (2 * w + 1) (b := 0) (i := t) (Nat.two_pow_pos t) i
  rw [Nat.add_zero] at h
  rw [h]
  by_cases e : i < t
  · rw [if_pos e, if_pos e, Nat.zero_testBit]
  · rw [if_neg e, if_neg e]
theorem tz_odd {w : Nat} : ∀ j, (2 * w).testBit j = ((2 * w + 1).testBit j && !decide (j = 0))
  | 0 => by simp
  | j + 1 => by
    rw [Nat.testBit_succ, Nat.testBit_succ, show 2 * w / 2 = w by omega, show (2 * w + 1) / 2 = w by omega]
    simp
theorem i_not (a : Int32) : a ^^^ (-1) = ~~~ a := by
  apply Int32.toBitVec_inj.mp
  rw [Int32.toBitVec_xor, Int32.toBitVec_not]
  show _ ^^^ BitVec.allOnes 32 = _
  rw [BitVec.xor_allOnes]
theorem nI_bit {n i : Nat} : (nI n).toBitVec.getLsbD i = (decide (i < 32) && n.testBit i) := by
  show (BitVec.ofNat 32 n).getLsbD i = _
  rw [BitVec.getLsbD_ofNat]
theorem tz_low {t w : Nat} : (nI (2 ^ t * (2 * w + 1)) ^^^ (-1)) &&& nI (2 ^ t * (2 * w + 1) - 1) = nI (2 ^ t - 1) := by
  rw [i_not]
  apply Int32.toBitVec_inj.mp
  apply BitVec.eq_of_getLsbD_eq
  intro i hi
  rw [Int32.toBitVec_and, Int32.toBitVec_not, BitVec.getLsbD_and, BitVec.getLsbD_not, nI_bit, nI_bit, nI_bit, tz_pre, tz_bit, Nat.testBit_two_pow_sub_one]
  by_cases e : i < t
  · simp [e, hi]
  · rw [if_neg e, if_neg e, tz_odd, decide_eq_true hi, decide_eq_false e]
    cases (2 * w + 1).testBit (i - t) <;> simp
theorem tz_neg {n : Nat} (h : 0 < n) : -(nI n) = ~~~ (nI (n - 1)) := by
  obtain ⟨k, rfl⟩ : ∃ k, n = k + 1 := ⟨n - 1, by omega⟩
  rw [← i_not]
  have h1 : nI (k + 1) = nI k + 1 := nI_succ k
  rw [h1, Nat.add_sub_cancel]
  have h2 : nI k ^^^ (-1) = -1 - nI k := by
    rw [i_not]
    apply Int32.toBitVec_inj.mp
    rw [Int32.toBitVec_not, Int32.toBitVec_sub]
    show ~~~ _ = BitVec.allOnes 32 - _
    rw [BitVec.allOnes_sub_eq_not]
  rw [h2]
  grind
theorem tz_iso {t w : Nat} : nI (2 ^ t * (2 * w + 1)) &&& -(nI (2 ^ t * (2 * w + 1))) = nI (2 ^ t) := by
  rw [tz_neg (Nat.mul_pos (Nat.two_pow_pos t) (by omega))]
  apply Int32.toBitVec_inj.mp
  apply BitVec.eq_of_getLsbD_eq
  intro i hi
  rw [Int32.toBitVec_and, Int32.toBitVec_not, BitVec.getLsbD_and, BitVec.getLsbD_not, nI_bit, nI_bit, nI_bit, tz_pre, tz_bit, Nat.testBit_two_pow]
  by_cases e : i < t
  · simp [e, hi]
    omega
  · rw [if_neg e, if_neg e, tz_odd, decide_eq_true hi]
    by_cases e2 : i = t
    · subst e2
      simp
    · have e3 : ¬ i - t = 0 := by omega
      have e4 : ¬ t = i := fun q => e2 q.symm
      simp [e3, e4]
theorem tz_ex : ∀ n, 0 < n → ∃ t w, n = 2 ^ t * (2 * w + 1) := by
  intro n
  induction n using Nat.strongRecOn with
  | _ n ih =>
    intro h
    by_cases e : n % 2 = 1
    · exact ⟨0, n / 2, by rw [Nat.pow_zero, Nat.one_mul]; omega⟩
    · obtain ⟨t, w, hw⟩ := ih (n / 2) (by omega) (by omega)
      exact ⟨t + 1, w, by rw [Nat.pow_succ, Nat.mul_comm (2 ^ t) 2, Nat.mul_assoc, ← hw]; omega⟩
theorem tz_sh : ∀ k, k < 32 → (((nI k).toUInt32 &&& Int32.toUInt32 31).toBitVec % 32).toNat = k := by decide +kernel
theorem nI_xor {a b : Nat} : nI a ^^^ nI b = nI (a ^^^ b) := by
  apply Int32.toBitVec_inj.mp
  apply BitVec.eq_of_toNat_eq
  rw [Int32.toBitVec_xor, BitVec.toNat_xor]
  show (BitVec.ofNat 32 a).toNat ^^^ (BitVec.ofNat 32 b).toNat = (BitVec.ofNat 32 (a ^^^ b)).toNat
  rw [BitVec.toNat_ofNat, BitVec.toNat_ofNat, BitVec.toNat_ofNat, Nat.xor_mod_two_pow]
/-- how often 2 divides -/
def ntz : Nat → Nat → Nat
  | 0, _ => 0
  | f + 1, n => if n % 2 = 1 then 0 else ntz f (n / 2) + 1
theorem ntz_is : ∀ (f t w : Nat), t ≤ f → ntz f (2 ^ t * (2 * w + 1)) = t
  | 0, t, w, h => by show 0 = t; omega
  | f + 1, 0, w, h => by
    rw [ntz, if_pos (by rw [Nat.pow_zero, Nat.one_mul]; omega)]
  | f + 1, t + 1, w, h => by
    have e : 2 ^ (t + 1) * (2 * w + 1) = 2 * (2 ^ t * (2 * w + 1)) := by rw [Nat.pow_succ, Nat.mul_comm (2 ^ t) 2, Nat.mul_assoc]
    rw [ntz, e, if_neg (by omega), Nat.mul_div_cancel_left _ (by decide), ntz_is f t w (by omega)]
def nxS (x : Nat) : Nat := (x + 2 ^ ntz 16 x) ||| ((x ^^^ (x + 2 ^ ntz 16 x)) / 2 ^ (2 + ntz 16 x))
theorem p2_div {u k : Nat} (h : k ≤ u) : (2 ^ u - 1) / 2 ^ k = 2 ^ (u - k) - 1 := by
  have h1 : 2 ^ u = 2 ^ k * 2 ^ (u - k) := by rw [← Nat.pow_add, Nat.add_sub_cancel' h]
  have h2 := Nat.two_pow_pos k
  have h3 := Nat.two_pow_pos (u - k)
  rw [h1]
  generalize 2 ^ (u - k) = B at *
  generalize 2 ^ k = A at *
  obtain ⟨b, rfl⟩ : ∃ b, B = b + 1 := ⟨B - 1, by omega⟩
  rw [Nat.mul_add, Nat.mul_one, Nat.add_sub_assoc (by omega), Nat.mul_add_div h2, Nat.div_eq_of_lt (by omega)]
  omega
