/-! bits, counted as the JDK does -/
def cnt (x : Nat) : Nat → Nat
  | 0 => 0
  | n + 1 => cnt x n + x / 2 ^ n % 2
theorem cnt_split (x : Nat) : ∀ n, cnt x (8 + n) = cnt (x % 256) 8 + cnt (x / 256) n
  | 0 => by
    simp only [cnt, Nat.add_zero]
    omega
  | n + 1 => by
    have ih := cnt_split x n
    have e : x / 256 / 2 ^ n = x / 2 ^ (8 + n) := by rw [Nat.div_div_eq_div_mul, Nat.pow_add]
    show cnt x (8 + n) + x / 2 ^ (8 + n) % 2 = _ + (cnt (x / 256) n + x / 256 / 2 ^ n % 2)
    rw [ih, e]
    omega
theorem and8 {a c : Nat} (ha : a < 256) (hc : c < 256) (A C : Nat) : (a + 256 * A) &&& (c + 256 * C) = (a &&& c) + 256 * (A &&& C) := by
  have hac : a &&& c < 2 ^ 8 := Nat.and_lt_two_pow a hc
  apply Nat.eq_of_testBit_eq
  intro j
  rw [Nat.testBit_and, Nat.add_comm a, Nat.add_comm c, Nat.add_comm (a &&& c)]
  have e1 := Nat.testBit_two_pow_mul_add (i := 8) A (b := a) ha j
  have e2 := Nat.testBit_two_pow_mul_add (i := 8) C (b := c) hc j
  have e3 := Nat.testBit_two_pow_mul_add (i := 8) (A &&& C) (b := a &&& c) hac j
  have e1 : (256 * A + a).testBit j = _ := e1
  have e2 : (256 * C + c).testBit j = _ := e2
  have e3 : (256 * (A &&& C) + (a &&& c)).testBit j = _ := e3
  rw [e1, e2, e3]
  split
  · rw [Nat.testBit_and]
  · rw [Nat.testBit_and]
def bf1 (b : Nat) : Nat := b - (b / 2 &&& 85)
def bf2 (b : Nat) : Nat := (b &&& 51) + (b / 4 &&& 51)
def bf3 (b : Nat) : Nat := (b + b / 16) &&& 15
theorem bt1 : ∀ b, b < 256 → ∀ e, e < 2 → (b / 2 + 128 * e) &&& 85 = (b / 2 &&& 85) := by decide +kernel
theorem bt1l : ∀ b, b < 256 → (b / 2 &&& 85) ≤ b := by decide +kernel
theorem bt1b : ∀ b, b < 256 → bf1 b < 256 := by decide +kernel
theorem bt2 : ∀ b, b < 256 → ∀ e, e < 4 → (b / 4 + 64 * e) &&& 51 = (b / 4 &&& 51) := by decide +kernel
theorem bt2b : ∀ b, b < 256 → (b &&& 51) ≤ 51 ∧ (b / 4 &&& 51) ≤ 51 := by decide +kernel
theorem bt3a : ∀ b, b < 256 → bf2 (bf1 b) ≤ 68 ∧ bf2 (bf1 b) % 16 ≤ 4 := by decide +kernel
theorem bt3 : ∀ b, b < 69 → ∀ e, e < 5 → (b + b / 16 + 16 * e) &&& 15 = bf3 b := by decide +kernel
theorem bt4 : ∀ b, b < 256 → bf3 (bf2 (bf1 b)) = cnt b 8 ∧ cnt b 8 ≤ 8 := by decide +kernel
theorem cnt_cat {b X n m : Nat} (hb : b < 256) (hm : m = 8 + n) : cnt (b + 256 * X) m = cnt b 8 + cnt X n := by
  rw [hm, cnt_split]
  have e1 : (b + 256 * X) % 256 = b := by omega
  have e2 : (b + 256 * X) / 256 = X := by omega
  rw [e1, e2]
theorem pl_1 {x b0 b1 b2 b3 b4 b5 b6 b7 : Nat} (h0 : b0 < 256) (h1 : b1 < 256) (h2 : b2 < 256) (h3 : b3 < 256) (h4 : b4 < 256) (h5 : b5 < 256) (h6 : b6 < 256) (h7 : b7 < 256) (hx : x = b0 + 256 * (b1 + 256 * (b2 + 256 * (b3 + 256 * (b4 + 256 * (b5 + 256 * (b6 + 256 * (b7)))))))) : x - (x / 2 &&& 6148914691236517205) = bf1 b0 + 256 * (bf1 b1 + 256 * (bf1 b2 + 256 * (bf1 b3 + 256 * (bf1 b4 + 256 * (bf1 b5 + 256 * (bf1 b6 + 256 * (bf1 b7))))))) ∧ (x / 2 &&& 6148914691236517205) ≤ x := by
  have e : x / 2 = b0 / 2 + 128 * (b1 % 2) + 256 * (b1 / 2 + 128 * (b2 % 2) + 256 * (b2 / 2 + 128 * (b3 % 2) + 256 * (b3 / 2 + 128 * (b4 % 2) + 256 * (b4 / 2 + 128 * (b5 % 2) + 256 * (b5 / 2 + 128 * (b6 % 2) + 256 * (b6 / 2 + 128 * (b7 % 2) + 256 * (b7 / 2))))))) := by omega
  have m : (6148914691236517205 : Nat) = 85 + 256 * (85 + 256 * (85 + 256 * (85 + 256 * (85 + 256 * (85 + 256 * (85 + 256 * (85))))))) := rfl
  have q0 := bt1 b0 h0 (b1 % 2) (by omega)
  have q1 := bt1 b1 h1 (b2 % 2) (by omega)
  have q2 := bt1 b2 h2 (b3 % 2) (by omega)
  have q3 := bt1 b3 h3 (b4 % 2) (by omega)
  have q4 := bt1 b4 h4 (b5 % 2) (by omega)
  have q5 := bt1 b5 h5 (b6 % 2) (by omega)
  have q6 := bt1 b6 h6 (b7 % 2) (by omega)
  have l0 := bt1l b0 h0
  have l1 := bt1l b1 h1
  have l2 := bt1l b2 h2
  have l3 := bt1l b3 h3
  have l4 := bt1l b4 h4
  have l5 := bt1l b5 h5
  have l6 := bt1l b6 h6
  have l7 := bt1l b7 h7
  rw [e, m, and8 (by omega) (by decide), and8 (by omega) (by decide), and8 (by omega) (by decide), and8 (by omega) (by decide), and8 (by omega) (by decide), and8 (by omega) (by decide), and8 (by omega) (by decide), q0, q1, q2, q3, q4, q5, q6]
  unfold bf1
  omega
theorem pl_2 {x b0 b1 b2 b3 b4 b5 b6 b7 : Nat} (h0 : b0 < 256) (h1 : b1 < 256) (h2 : b2 < 256) (h3 : b3 < 256) (h4 : b4 < 256) (h5 : b5 < 256) (h6 : b6 < 256) (h7 : b7 < 256) (hx : x = b0 + 256 * (b1 + 256 * (b2 + 256 * (b3 + 256 * (b4 + 256 * (b5 + 256 * (b6 + 256 * (b7)))))))) : (x &&& 3689348814741910323) + (x / 4 &&& 3689348814741910323) = bf2 b0 + 256 * (bf2 b1 + 256 * (bf2 b2 + 256 * (bf2 b3 + 256 * (bf2 b4 + 256 * (bf2 b5 + 256 * (bf2 b6 + 256 * (bf2 b7))))))) := by
  have e : x / 4 = b0 / 4 + 64 * (b1 % 4) + 256 * (b1 / 4 + 64 * (b2 % 4) + 256 * (b2 / 4 + 64 * (b3 % 4) + 256 * (b3 / 4 + 64 * (b4 % 4) + 256 * (b4 / 4 + 64 * (b5 % 4) + 256 * (b5 / 4 + 64 * (b6 % 4) + 256 * (b6 / 4 + 64 * (b7 % 4) + 256 * (b7 / 4))))))) := by omega
  have m : (3689348814741910323 : Nat) = 51 + 256 * (51 + 256 * (51 + 256 * (51 + 256 * (51 + 256 * (51 + 256 * (51 + 256 * (51))))))) := rfl
  have q0 := bt2 b0 h0 (b1 % 4) (by omega)
  have q1 := bt2 b1 h1 (b2 % 4) (by omega)
  have q2 := bt2 b2 h2 (b3 % 4) (by omega)
  have q3 := bt2 b3 h3 (b4 % 4) (by omega)
  have q4 := bt2 b4 h4 (b5 % 4) (by omega)
  have q5 := bt2 b5 h5 (b6 % 4) (by omega)
  have q6 := bt2 b6 h6 (b7 % 4) (by omega)
  have e0 : x &&& 3689348814741910323 = (b0 &&& 51) + 256 * ((b1 &&& 51) + 256 * ((b2 &&& 51) + 256 * ((b3 &&& 51) + 256 * ((b4 &&& 51) + 256 * ((b5 &&& 51) + 256 * ((b6 &&& 51) + 256 * ((b7 &&& 51)))))))) := by rw [hx, m, and8 (by omega) (by decide), and8 (by omega) (by decide), and8 (by omega) (by decide), and8 (by omega) (by decide), and8 (by omega) (by decide), and8 (by omega) (by decide), and8 (by omega) (by decide)]
  have e1 : x / 4 &&& 3689348814741910323 = (b0 / 4 &&& 51) + 256 * ((b1 / 4 &&& 51) + 256 * ((b2 / 4 &&& 51) + 256 * ((b3 / 4 &&& 51) + 256 * ((b4 / 4 &&& 51) + 256 * ((b5 / 4 &&& 51) + 256 * ((b6 / 4 &&& 51) + 256 * ((b7 / 4 &&& 51)))))))) := by rw [e, m, and8 (by omega) (by decide), and8 (by omega) (by decide), and8 (by omega) (by decide), and8 (by omega) (by decide), and8 (by omega) (by decide), and8 (by omega) (by decide), and8 (by omega) (by decide), q0, q1, q2, q3, q4, q5, q6]
  rw [e0, e1]
  unfold bf2
  omega
theorem pl_3 {x b0 b1 b2 b3 b4 b5 b6 b7 : Nat} (h0 : b0 ≤ 68) (g0 : b0 % 16 ≤ 4) (h1 : b1 ≤ 68) (g1 : b1 % 16 ≤ 4) (h2 : b2 ≤ 68) (g2 : b2 % 16 ≤ 4) (h3 : b3 ≤ 68) (g3 : b3 % 16 ≤ 4) (h4 : b4 ≤ 68) (g4 : b4 % 16 ≤ 4) (h5 : b5 ≤ 68) (g5 : b5 % 16 ≤ 4) (h6 : b6 ≤ 68) (g6 : b6 % 16 ≤ 4) (h7 : b7 ≤ 68) (g7 : b7 % 16 ≤ 4) (hx : x = b0 + 256 * (b1 + 256 * (b2 + 256 * (b3 + 256 * (b4 + 256 * (b5 + 256 * (b6 + 256 * (b7)))))))) : (x + x / 16) &&& 1085102592571150095 = bf3 b0 + 256 * (bf3 b1 + 256 * (bf3 b2 + 256 * (bf3 b3 + 256 * (bf3 b4 + 256 * (bf3 b5 + 256 * (bf3 b6 + 256 * (bf3 b7))))))) ∧ x + x / 16 < 2 ^ 64 := by
  have e : x + x / 16 = b0 + b0 / 16 + 16 * (b1 % 16) + 256 * (b1 + b1 / 16 + 16 * (b2 % 16) + 256 * (b2 + b2 / 16 + 16 * (b3 % 16) + 256 * (b3 + b3 / 16 + 16 * (b4 % 16) + 256 * (b4 + b4 / 16 + 16 * (b5 % 16) + 256 * (b5 + b5 / 16 + 16 * (b6 % 16) + 256 * (b6 + b6 / 16 + 16 * (b7 % 16) + 256 * (b7 + b7 / 16 + 16 * 0))))))) := by omega
  have m : (1085102592571150095 : Nat) = 15 + 256 * (15 + 256 * (15 + 256 * (15 + 256 * (15 + 256 * (15 + 256 * (15 + 256 * (15))))))) := rfl
  have q0 := bt3 b0 (by omega) (b1 % 16) (by omega)
  have q1 := bt3 b1 (by omega) (b2 % 16) (by omega)
  have q2 := bt3 b2 (by omega) (b3 % 16) (by omega)
  have q3 := bt3 b3 (by omega) (b4 % 16) (by omega)
  have q4 := bt3 b4 (by omega) (b5 % 16) (by omega)
  have q5 := bt3 b5 (by omega) (b6 % 16) (by omega)
  have q6 := bt3 b6 (by omega) (b7 % 16) (by omega)
  have q7 := bt3 b7 (by omega) 0 (by omega)
  refine ⟨?_, by omega⟩
  rw [e, m, and8 (by omega) (by decide), and8 (by omega) (by decide), and8 (by omega) (by decide), and8 (by omega) (by decide), and8 (by omega) (by decide), and8 (by omega) (by decide), and8 (by omega) (by decide), q0, q1, q2, q3, q4, q5, q6, q7]
def pl_s (x : Nat) : Nat := x - (x / 2 &&& 6148914691236517205)
def pl_t (x : Nat) : Nat := (x &&& 3689348814741910323) + (x / 4 &&& 3689348814741910323)
def pl_u (x : Nat) : Nat := (x + x / 16) &&& 1085102592571150095
theorem pl_all {x : Nat} (hx : x < 2 ^ 64) : (x / 2 &&& 6148914691236517205) ≤ x ∧ pl_s x < 2 ^ 64 ∧ pl_t (pl_s x) < 2 ^ 64 ∧ pl_t (pl_s x) + pl_t (pl_s x) / 16 < 2 ^ 64 ∧ ∃ h0 h1 h2 h3 h4 h5 h6 h7 : Nat, h0 ≤ 8 ∧ h1 ≤ 8 ∧ h2 ≤ 8 ∧ h3 ≤ 8 ∧ h4 ≤ 8 ∧ h5 ≤ 8 ∧ h6 ≤ 8 ∧ h7 ≤ 8 ∧ cnt x 64 = h0 + h1 + h2 + h3 + h4 + h5 + h6 + h7 ∧ pl_u (pl_t (pl_s x)) = h0 + 256 * (h1 + 256 * (h2 + 256 * (h3 + 256 * (h4 + 256 * (h5 + 256 * (h6 + 256 * (h7))))))) := by
  obtain ⟨b0, b1, b2, b3, b4, b5, b6, b7, h0, h1, h2, h3, h4, h5, h6, h7, hxe⟩ : ∃ b0 b1 b2 b3 b4 b5 b6 b7 : Nat, b0 < 256 ∧ b1 < 256 ∧ b2 < 256 ∧ b3 < 256 ∧ b4 < 256 ∧ b5 < 256 ∧ b6 < 256 ∧ b7 < 256 ∧ x = b0 + 256 * (b1 + 256 * (b2 + 256 * (b3 + 256 * (b4 + 256 * (b5 + 256 * (b6 + 256 * (b7))))))) := ⟨x % 256, x / 256 % 256, x / 65536 % 256, x / 16777216 % 256, x / 4294967296 % 256, x / 1099511627776 % 256, x / 281474976710656 % 256, x / 72057594037927936 % 256, Nat.mod_lt _ (by decide), Nat.mod_lt _ (by decide), Nat.mod_lt _ (by decide), Nat.mod_lt _ (by decide), Nat.mod_lt _ (by decide), Nat.mod_lt _ (by decide), Nat.mod_lt _ (by decide), Nat.mod_lt _ (by decide), by omega⟩
  have f0 := bt1b b0 h0
  have g0 := bt3a b0 h0
  have k0 := bt4 b0 h0
  have f1 := bt1b b1 h1
  have g1 := bt3a b1 h1
  have k1 := bt4 b1 h1
  have f2 := bt1b b2 h2
  have g2 := bt3a b2 h2
  have k2 := bt4 b2 h2
  have f3 := bt1b b3 h3
  have g3 := bt3a b3 h3
  have k3 := bt4 b3 h3
  have f4 := bt1b b4 h4
  have g4 := bt3a b4 h4
  have k4 := bt4 b4 h4
  have f5 := bt1b b5 h5
  have g5 := bt3a b5 h5
  have k5 := bt4 b5 h5
  have f6 := bt1b b6 h6
  have g6 := bt3a b6 h6
  have k6 := bt4 b6 h6
  have f7 := bt1b b7 h7
  have g7 := bt3a b7 h7
  have k7 := bt4 b7 h7
  obtain ⟨e1, e0⟩ := pl_1 h0 h1 h2 h3 h4 h5 h6 h7 hxe
  have e2 := pl_2 f0 f1 f2 f3 f4 f5 f6 f7 e1
  obtain ⟨e3, e4⟩ := pl_3 g0.1 g0.2 g1.1 g1.2 g2.1 g2.2 g3.1 g3.2 g4.1 g4.2 g5.1 g5.2 g6.1 g6.2 g7.1 g7.2 e2
  refine ⟨e0, ?_, ?_, e4, bf3 (bf2 (bf1 b0)), bf3 (bf2 (bf1 b1)), bf3 (bf2 (bf1 b2)), bf3 (bf2 (bf1 b3)), bf3 (bf2 (bf1 b4)), bf3 (bf2 (bf1 b5)), bf3 (bf2 (bf1 b6)), bf3 (bf2 (bf1 b7)), by rw [k0.1]; exact k0.2, by rw [k1.1]; exact k1.2, by rw [k2.1]; exact k2.2, by rw [k3.1]; exact k3.2, by rw [k4.1]; exact k4.2, by rw [k5.1]; exact k5.2, by rw [k6.1]; exact k6.2, by rw [k7.1]; exact k7.2, ?_, e3⟩
  · unfold pl_s
    rw [e1]
    omega
  · unfold pl_t pl_s
    rw [e2]
    omega
  · rw [hxe, cnt_cat h0 (show 64 = 8 + 56 from rfl), cnt_cat h1 (show 56 = 8 + 48 from rfl), cnt_cat h2 (show 48 = 8 + 40 from rfl), cnt_cat h3 (show 40 = 8 + 32 from rfl), cnt_cat h4 (show 32 = 8 + 24 from rfl), cnt_cat h5 (show 24 = 8 + 16 from rfl), cnt_cat h6 (show 16 = 8 + 8 from rfl), k0.1, k1.1, k2.1, k3.1, k4.1, k5.1, k6.1, k7.1]
    omega
theorem pi_1 {x b0 b1 b2 b3 : Nat} (h0 : b0 < 256) (h1 : b1 < 256) (h2 : b2 < 256) (h3 : b3 < 256) (hx : x = b0 + 256 * (b1 + 256 * (b2 + 256 * (b3)))) : x - (x / 2 &&& 1431655765) = bf1 b0 + 256 * (bf1 b1 + 256 * (bf1 b2 + 256 * (bf1 b3))) ∧ (x / 2 &&& 1431655765) ≤ x := by
  have e : x / 2 = b0 / 2 + 128 * (b1 % 2) + 256 * (b1 / 2 + 128 * (b2 % 2) + 256 * (b2 / 2 + 128 * (b3 % 2) + 256 * (b3 / 2))) := by omega
  have m : (1431655765 : Nat) = 85 + 256 * (85 + 256 * (85 + 256 * (85))) := rfl
  have q0 := bt1 b0 h0 (b1 % 2) (by omega)
  have q1 := bt1 b1 h1 (b2 % 2) (by omega)
  have q2 := bt1 b2 h2 (b3 % 2) (by omega)
  have l0 := bt1l b0 h0
  have l1 := bt1l b1 h1
  have l2 := bt1l b2 h2
  have l3 := bt1l b3 h3
  rw [e, m, and8 (by omega) (by decide), and8 (by omega) (by decide), and8 (by omega) (by decide), q0, q1, q2]
  unfold bf1
  omega
theorem pi_2 {x b0 b1 b2 b3 : Nat} (h0 : b0 < 256) (h1 : b1 < 256) (h2 : b2 < 256) (h3 : b3 < 256) (hx : x = b0 + 256 * (b1 + 256 * (b2 + 256 * (b3)))) : (x &&& 858993459) + (x / 4 &&& 858993459) = bf2 b0 + 256 * (bf2 b1 + 256 * (bf2 b2 + 256 * (bf2 b3))) := by
  have e : x / 4 = b0 / 4 + 64 * (b1 % 4) + 256 * (b1 / 4 + 64 * (b2 % 4) + 256 * (b2 / 4 + 64 * (b3 % 4) + 256 * (b3 / 4))) := by omega
  have m : (858993459 : Nat) = 51 + 256 * (51 + 256 * (51 + 256 * (51))) := rfl
  have q0 := bt2 b0 h0 (b1 % 4) (by omega)
  have q1 := bt2 b1 h1 (b2 % 4) (by omega)
  have q2 := bt2 b2 h2 (b3 % 4) (by omega)
  have e0 : x &&& 858993459 = (b0 &&& 51) + 256 * ((b1 &&& 51) + 256 * ((b2 &&& 51) + 256 * ((b3 &&& 51)))) := by rw [hx, m, and8 (by omega) (by decide), and8 (by omega) (by decide), and8 (by omega) (by decide)]
  have e1 : x / 4 &&& 858993459 = (b0 / 4 &&& 51) + 256 * ((b1 / 4 &&& 51) + 256 * ((b2 / 4 &&& 51) + 256 * ((b3 / 4 &&& 51)))) := by rw [e, m, and8 (by omega) (by decide), and8 (by omega) (by decide), and8 (by omega) (by decide), q0, q1, q2]
  rw [e0, e1]
  unfold bf2
  omega
theorem pi_3 {x b0 b1 b2 b3 : Nat} (h0 : b0 ≤ 68) (g0 : b0 % 16 ≤ 4) (h1 : b1 ≤ 68) (g1 : b1 % 16 ≤ 4) (h2 : b2 ≤ 68) (g2 : b2 % 16 ≤ 4) (h3 : b3 ≤ 68) (g3 : b3 % 16 ≤ 4) (hx : x = b0 + 256 * (b1 + 256 * (b2 + 256 * (b3)))) : (x + x / 16) &&& 252645135 = bf3 b0 + 256 * (bf3 b1 + 256 * (bf3 b2 + 256 * (bf3 b3))) ∧ x + x / 16 < 2 ^ 32 := by
  have e : x + x / 16 = b0 + b0 / 16 + 16 * (b1 % 16) + 256 * (b1 + b1 / 16 + 16 * (b2 % 16) + 256 * (b2 + b2 / 16 + 16 * (b3 % 16) + 256 * (b3 + b3 / 16 + 16 * 0))) := by omega
  have m : (252645135 : Nat) = 15 + 256 * (15 + 256 * (15 + 256 * (15))) := rfl
  have q0 := bt3 b0 (by omega) (b1 % 16) (by omega)
  have q1 := bt3 b1 (by omega) (b2 % 16) (by omega)
  have q2 := bt3 b2 (by omega) (b3 % 16) (by omega)
  have q3 := bt3 b3 (by omega) 0 (by omega)
  refine ⟨?_, by omega⟩
  rw [e, m, and8 (by omega) (by decide), and8 (by omega) (by decide), and8 (by omega) (by decide), q0, q1, q2, q3]
def pi_s (x : Nat) : Nat := x - (x / 2 &&& 1431655765)
def pi_t (x : Nat) : Nat := (x &&& 858993459) + (x / 4 &&& 858993459)
def pi_u (x : Nat) : Nat := (x + x / 16) &&& 252645135
theorem pi_all {x : Nat} (hx : x < 2 ^ 32) : (x / 2 &&& 1431655765) ≤ x ∧ pi_s x < 2 ^ 32 ∧ pi_t (pi_s x) < 2 ^ 32 ∧ pi_t (pi_s x) + pi_t (pi_s x) / 16 < 2 ^ 32 ∧ ∃ h0 h1 h2 h3 : Nat, h0 ≤ 8 ∧ h1 ≤ 8 ∧ h2 ≤ 8 ∧ h3 ≤ 8 ∧ cnt x 32 = h0 + h1 + h2 + h3 ∧ pi_u (pi_t (pi_s x)) = h0 + 256 * (h1 + 256 * (h2 + 256 * (h3))) := by
  obtain ⟨b0, b1, b2, b3, h0, h1, h2, h3, hxe⟩ : ∃ b0 b1 b2 b3 : Nat, b0 < 256 ∧ b1 < 256 ∧ b2 < 256 ∧ b3 < 256 ∧ x = b0 + 256 * (b1 + 256 * (b2 + 256 * (b3))) := ⟨x % 256, x / 256 % 256, x / 65536 % 256, x / 16777216 % 256, Nat.mod_lt _ (by decide), Nat.mod_lt _ (by decide), Nat.mod_lt _ (by decide), Nat.mod_lt _ (by decide), by omega⟩
  have f0 := bt1b b0 h0
  have g0 := bt3a b0 h0
  have k0 := bt4 b0 h0
  have f1 := bt1b b1 h1
  have g1 := bt3a b1 h1
  have k1 := bt4 b1 h1
  have f2 := bt1b b2 h2
  have g2 := bt3a b2 h2
  have k2 := bt4 b2 h2
  have f3 := bt1b b3 h3
  have g3 := bt3a b3 h3
  have k3 := bt4 b3 h3
  obtain ⟨e1, e0⟩ := pi_1 h0 h1 h2 h3 hxe
  have e2 := pi_2 f0 f1 f2 f3 e1
  obtain ⟨e3, e4⟩ := pi_3 g0.1 g0.2 g1.1 g1.2 g2.1 g2.2 g3.1 g3.2 e2
  refine ⟨e0, ?_, ?_, e4, bf3 (bf2 (bf1 b0)), bf3 (bf2 (bf1 b1)), bf3 (bf2 (bf1 b2)), bf3 (bf2 (bf1 b3)), by rw [k0.1]; exact k0.2, by rw [k1.1]; exact k1.2, by rw [k2.1]; exact k2.2, by rw [k3.1]; exact k3.2, ?_, e3⟩
  · unfold pi_s
    rw [e1]
    omega
  · unfold pi_t pi_s
    rw [e2]
    omega
  · rw [hxe, cnt_cat h0 (show 32 = 8 + 24 from rfl), cnt_cat h1 (show 24 = 8 + 16 from rfl), cnt_cat h2 (show 16 = 8 + 8 from rfl), k0.1, k1.1, k2.1, k3.1]
    omega
