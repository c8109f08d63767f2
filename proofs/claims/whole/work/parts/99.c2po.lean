/-! the class's row of sets of one size -/
def sqN (m : Nat) : Nat → Nat
  | 0 => 2 ^ m - 1
  | i + 1 => nxS (sqN m i)
theorem nxS_pos {x : Nat} (h : 0 < x) : 0 < nxS x := by
  unfold nxS
  have := Nat.left_le_or (n := x + 2 ^ ntz 16 x) (m := (x ^^^ (x + 2 ^ ntz 16 x)) / 2 ^ (2 + ntz 16 x))
  exact Nat.lt_of_lt_of_le (Nat.lt_of_lt_of_le h (Nat.le_add_right x _)) this
theorem ntz_le : ∀ f n, ntz f n ≤ f
  | 0, _ => Nat.le_refl 0
  | f + 1, n => by
    have := ntz_le f (n / 2)
    rw [ntz]
    split <;> omega
theorem nxS_lt {x : Nat} (h : x < 2 ^ 16) : nxS x < 2 ^ 17 := by
  unfold nxS
  have h1 : 2 ^ ntz 16 x ≤ 2 ^ 16 := Nat.pow_le_pow_right (by decide) (ntz_le 16 x)
  have h2 : x + 2 ^ ntz 16 x < 2 ^ 17 := by
    have : (2 : Nat) ^ 17 = 2 ^ 16 + 2 ^ 16 := by decide
    omega
  have h3 : x ^^^ (x + 2 ^ ntz 16 x) < 2 ^ 17 := Nat.xor_lt_two_pow (Nat.lt_trans h (by decide)) h2
  exact Nat.or_lt_two_pow h2 (Nat.lt_of_le_of_lt (Nat.div_le_self _ _) h3)
theorem sqN_pos {m : Nat} (hm : 1 ≤ m) : ∀ i, 0 < sqN m i
  | 0 => by
    show 0 < 2 ^ m - 1
    have : 2 ^ 1 ≤ 2 ^ m := Nat.pow_le_pow_right (by decide) hm
    omega
  | i + 1 => nxS_pos (sqN_pos hm i)
theorem sub0 {a b : Nat} (ha : a < 2 ^ 31) : nI a &&& (nI b ^^^ (-1)) = 0 ↔ a &&& b = a := by
  rw [i_not]
  constructor
  · intro h
    apply Nat.eq_of_testBit_eq
    intro i
    rw [Nat.testBit_and]
    by_cases hi : i < 32
    · have h2 := congrArg (fun z : Int32 => z.toBitVec.getLsbD i) h
      rw [Int32.toBitVec_and, Int32.toBitVec_not, BitVec.getLsbD_and, BitVec.getLsbD_not, nI_bit, nI_bit] at h2
      have h3 : (0 : Int32).toBitVec.getLsbD i = false := by
        show (BitVec.ofNat 32 0).getLsbD i = false
        simp
      rw [h3, decide_eq_true hi] at h2
      cases ha : a.testBit i <;> cases hb : b.testBit i <;> rw [ha, hb] at h2 <;> simp_all
    · rw [Nat.testBit_lt_two_pow (x := a) (i := i) (Nat.lt_of_lt_of_le ha (Nat.pow_le_pow_right (by decide) (by omega)))]
      rfl
  · intro h
    apply Int32.toBitVec_inj.mp
    apply BitVec.eq_of_getLsbD_eq
    intro i hi
    rw [Int32.toBitVec_and, Int32.toBitVec_not, BitVec.getLsbD_and, BitVec.getLsbD_not, nI_bit, nI_bit]
    have h3 : (0 : Int32).toBitVec.getLsbD i = false := by
      show (BitVec.ofNat 32 0).getLsbD i = false
      simp
    rw [h3, decide_eq_true hi]
    have h4 := congrArg (fun z => z.testBit i) h
    rw [Nat.testBit_and] at h4
    cases ha : a.testBit i <;> cases hb : b.testBit i <;> rw [ha, hb] at h4 <;> simp_all
def PoC (c : Nat → Nat) (vs : Nat) (ap : Nat → Nat) (bu ps m st : Nat) : Prop := st &&& setOf c 16 = st ∧ aDm c vs ap bu ps st m = true
/-- the first in the class's row, or 0 -/
def FstC (P : Nat → Prop) (m : Nat) (r : Int32) : Prop := ∃ i, i ≤ 1820 ∧ (∀ j, j < i → sqN m j < 65536 ∧ ¬ P (sqN m j)) ∧ (i < 1820 ∧ sqN m i < 65536 ∧ P (sqN m i) ∧ r = nI (sqN m i) ∨ (i = 1820 ∨ 65536 ≤ sqN m i) ∧ r = 0)
