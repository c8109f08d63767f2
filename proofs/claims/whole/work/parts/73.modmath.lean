/-! the reference: its cells -/
abbrev moF (b : Nat) (th bu ob cn rn py ln : Int32) : List Value := [.int th, .ref (b + 1), .ref (b + 2), .ref (b + 3), .ref (b + 4), .int bu, .ref (b + 5), .ref (b + 6), .ref (b + 7), .int ob, .int cn, .int rn, .ref (b + 8), .ref (b + 9), .ref (b + 10), .int py, .ref (b + 11), .int ln]
def RwsAt (g : WG) (H : Heap) (b : Nat) (Rw : Nat → Nat) : Prop := xr_ia H (b + 1) (gI g) 10320 (rwA Rw) ∧ ∀ r, r < 860 → Rw r < 2 ^ 192
theorem RwsAt.kept {g : WG} {H H1 : Heap} {b : Nat} {Rw : Nat → Nat} (h : RwsAt g H b Rw) (hq : H1[b + 1]? = H[b + 1]?) : RwsAt g H1 b Rw := ⟨h.1.kept hq, h.2⟩
theorem RwsAt.lt {g : WG} {H : Heap} {b : Nat} {Rw : Nat → Nat} (h : RwsAt g H b Rw) : b + 1 < H.size := h.1.lt
theorem rw_all {Rw : Nat → Nat} {d N : Nat} (h : ∀ r, r < 860 → Rw r < 2 ^ 192) (hN : N < 2 ^ 192) : ∀ r, r < 860 → va_up Rw d N r < 2 ^ 192 := fun r hr => by
  by_cases e : r = d
  · subst e
    rw [va_up_self]
    exact hN
  · rw [va_up_ne _ _ e]
    exact h r hr
theorem lb_0 (k : Nat) : lb 0 k = 0 := by unfold lb; rw [Nat.zero_div]
theorem lb_small {y k : Nat} (h : y < 2 ^ 62) (hk : 4 ≤ k) : 0 = lb y k := by
  unfold lb
  rw [Nat.div_eq_of_lt (Nat.lt_of_lt_of_le h (Nat.pow_le_pow_right (by decide) (by omega)))]
theorem lb_mz {x k : Nat} (h : x % 2 ^ (16 * k) = 0) (h2 : lb x k = 0) : x % 2 ^ (16 * (k + 1)) = 0 := by
  unfold lb at h2
  rw [p16s, Nat.mod_mul, h, h2, Nat.mul_zero]
theorem l_and16 {n : Nat} (hn : n < 2 ^ 64) : lN n &&& 65535 = lN (n % 65536) := wb_mask (k := 16) hn (by decide)
theorem tw_le {x y P : Nat} (hP : 0 < P) (hy : y ≤ 1) : (x % P * 2 + y) / P ≤ 1 := by
  have h1 := Nat.mod_lt x hP
  have : (x % P * 2 + y) / P < 2 := Nat.div_lt_of_lt_mul (by omega)
  omega
theorem tw_step {x y P B : Nat} (hP : 0 < P) (hB : 0 < B) : (2 * x + y) / P % B = (2 * (x / P % B) + (x % P * 2 + y) / P) % B ∧ (x % (P * B) * 2 + y) / (P * B) = (2 * (x / P % B) + (x % P * 2 + y) / P) / B := by
  have h1 : (2 * x + y) / P = 2 * (x / P) + (x % P * 2 + y) / P := by
    have e : 2 * x + y = P * (2 * (x / P)) + (x % P * 2 + y) := by
      have := Nat.div_add_mod x P
      rw [Nat.mul_left_comm]
      omega
    rw [e, Nat.mul_add_div hP]
  refine ⟨?_, ?_⟩
  · rw [h1, Nat.add_mod (2 * (x / P)), Nat.mul_mod 2 (x / P), Nat.add_mod (2 * (x / P % B)), Nat.mul_mod 2 (x / P % B), Nat.mod_mod]
  · have e : x % (P * B) * 2 + y = P * (2 * (x / P % B)) + (x % P * 2 + y) := by
      rw [Nat.mod_mul, Nat.mul_left_comm P 2]
      omega
    rw [e, ← Nat.div_div_eq_div_mul, Nat.mul_add_div hP]
theorem i_bw {a b c z q : Nat} (h : z + b + c = a + q * 65536) : nI a - nI b - nI c = nI z - nI (q * 65536) := by
  have h1 : nI z + nI b + nI c = nI a + nI (q * 65536) := by rw [nI_add, nI_add, nI_add, h]
  generalize nI z = Z at *
  generalize nI b = B at *
  generalize nI c = C at *
  generalize nI a = A at *
  generalize nI (q * 65536) = Q at *
  grind
theorem i_bm {z q : Nat} (hz : z < 65536) (hq : q ≤ 1) : (nI z - nI (q * 65536)) &&& 65535 = nI z := by
  rw [pk_and _ 16 rfl]
  congr 1
  rw [Int32.toBitVec_sub]
  show (BitVec.ofNat 32 z - BitVec.ofNat 32 (q * 65536)).toNat % 2 ^ 16 = z
  rw [BitVec.toNat_sub, BitVec.toNat_ofNat, BitVec.toNat_ofNat]
  rcases (show q = 0 ∨ q = 1 by omega) with rfl | rfl <;> omega
theorem i_bs0 {z q : Nat} (hz : z < 65536) (hq : q ≤ 1) (h : 0 ≤ nI z - nI (q * 65536)) : q = 0 := by
  rcases (show q = 0 ∨ q = 1 by omega) with rfl | rfl
  · rfl
  · have h1 : nI z - nI (1 * 65536) < 0 := pk_sneg (by decide) (by omega)
    have h2 := Int32.lt_iff_toInt_lt.mp h1
    have h3 := Int32.le_iff_toInt_le.mp h
    omega
theorem i_bs1 {z q : Nat} (hz : z < 65536) (hq : q ≤ 1) (h : ¬ 0 ≤ nI z - nI (q * 65536)) : q = 1 := by
  rcases (show q = 0 ∨ q = 1 by omega) with rfl | rfl
  · refine absurd ?_ h
    rw [Nat.zero_mul, pk_sub (Nat.zero_le z)]
    exact nI_pos' (by omega)
  · rfl
