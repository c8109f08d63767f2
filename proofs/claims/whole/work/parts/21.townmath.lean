/-! the town: numbers, sets as numbers -/
def inR (i : Int32) (n : Nat) : Bool := decide (0 ≤ i.toInt ∧ i.toInt < n)
def ix (i : Int32) : Nat := i.toInt.toNat
theorem inR_neg {i : Int32} {n : Nat} (h : i < 0) : inR i n = false := by
  have h9 : i.toInt < 0 := Int32.lt_iff_toInt_lt.mp h
  exact decide_eq_false (by omega)
theorem inR_no {j n : Nat} (hj : j < 2 ^ 31) (h : n ≤ j) : inR (nI j) n = false := decide_eq_false (by rw [nI_toInt hj]; omega)
theorem inR_yes {j n : Nat} (h : j < n) (hn : n < 2 ^ 31) : inR (nI j) n = true := decide_eq_true (by rw [nI_toInt (by omega)]; omega)
theorem inR_of {i : Int32} {n : Nat} (h : inR i n = true) (hn : n < 2 ^ 31) : ∃ j, j < n ∧ i = nI j := by
  have h1 := of_decide_eq_true h
  obtain ⟨j, hj, rfl⟩ := nI_of (x := i) (fun q => by have h9 : i.toInt < 0 := Int32.lt_iff_toInt_lt.mp q; omega)
  rw [nI_toInt hj] at h1
  exact ⟨j, by omega, rfl⟩
theorem ix_nI {j : Nat} (h : j < 2 ^ 31) : ix (nI j) = j := by
  unfold ix
  rw [nI_toInt h]
  rfl
theorem tb_f {n i : Nat} (h : n / 2 ^ i % 2 = 0) : n.testBit i = false := by
  rw [Nat.testBit_eq_decide_div_mod_eq]
  exact decide_eq_false (by omega)
theorem tb_t {n i : Nat} (h : ¬ n / 2 ^ i % 2 = 0) : n.testBit i = true := by
  rw [Nat.testBit_eq_decide_div_mod_eq]
  exact decide_eq_true (by omega)
theorem sh64 : ∀ k, k < 64 → (((nI k).toInt64 &&& 63).toBitVec.smod 64).toNat = k := by decide +kernel
theorem sh32 : ∀ k, k < 32 → ((nI k &&& 31).toBitVec.smod 32).toNat = k := by decide +kernel
theorem sh1 : ∀ k, k < 31 → (1 : Int32) <<< (nI k &&& 31) = nI (2 ^ k) := by decide +kernel
def setOf (c : Nat → Nat) : Nat → Nat
  | 0 => 0
  | n + 1 => setOf c n + if 0 < c n then 2 ^ n else 0
theorem setOf_lt (c : Nat → Nat) (n : Nat) : setOf c n < 2 ^ n := by
  induction n with
  | zero => exact Nat.one_pos
  | succ n ih =>
    rw [setOf, Nat.pow_succ]
    split <;> omega
theorem setOf_no {c : Nat → Nat} {n : Nat} (h : c n = 0) : setOf c (n + 1) = setOf c n := by
  rw [setOf, if_neg (by omega), Nat.add_zero]
theorem nI_or {a b : Nat} : nI a ||| nI b = nI (a ||| b) := by
  apply Int32.toBitVec_inj.mp
  apply BitVec.eq_of_toNat_eq
  rw [Int32.toBitVec_or, BitVec.toNat_or]
  show (BitVec.ofNat 32 a).toNat ||| (BitVec.ofNat 32 b).toNat = (BitVec.ofNat 32 (a ||| b)).toNat
  rw [BitVec.toNat_ofNat, BitVec.toNat_ofNat, BitVec.toNat_ofNat, Nat.or_mod_two_pow]
theorem setOf_or {c : Nat → Nat} {n : Nat} (hn : n < 16) (h : 0 < c n) : nI (setOf c n) ||| nI (2 ^ n) = nI (setOf c (n + 1)) := by
  rw [nI_or, setOf, if_pos h]
  congr 1
  have := Nat.two_pow_add_eq_or_of_lt (setOf_lt c n) 1
  rw [Nat.mul_one] at this
  rw [Nat.or_comm, ← this, Nat.add_comm]
def costOf (c : Nat → Nat) (st : Nat) : Nat → Nat
  | 0 => 0
  | n + 1 => costOf c st n + if st.testBit n = true then c n else 0
theorem costOf_no {c : Nat → Nat} {st n : Nat} (h : st.testBit n = false) : costOf c st (n + 1) = costOf c st n := by
  rw [costOf, if_neg (by rw [h]; decide), Nat.add_zero]
theorem costOf_yes {c : Nat → Nat} {st n : Nat} (h : st.testBit n = true) : costOf c st n + c n = costOf c st (n + 1) := by
  rw [costOf, if_pos h]
def TownAt (g : WG) (H : Heap) (a : Nat) (c : Nat → Nat) (vs : Nat) (ap : Nat → Nat) (bu : Nat) : Prop :=
  obj g H a 5 [.ref (a + 1), .long (lN vs), .ref (a + 2), .int (nI bu)] ∧ xr_ia H (a + 1) (gI g) 16 (fun p => nI (c p)) ∧ xr_ia H (a + 2) (gI g) 48 (fun v => nI (ap v)) ∧ (∀ p, p < 16 → c p ≤ 1000000) ∧ vs < 2 ^ 48 ∧ (∀ v, v < 48 → ap v < 2 ^ 16) ∧ 1 ≤ bu ∧ bu ≤ 10000000
theorem TownAt.kept {g : WG} {H H1 : Heap} {a : Nat} {c : Nat → Nat} {vs : Nat} {ap : Nat → Nat} {bu : Nat} (h : TownAt g H a c vs ap bu) (hk : ∀ q, q < H.size → a ≤ q → q < a + 3 → H1[q]? = H[q]?) : TownAt g H1 a c vs ap bu :=
  ⟨h.1.kept (hk _ h.1.lt (Nat.le_refl _) (by show a < _; omega)), h.2.1.kept (hk _ h.2.1.lt (by omega) (by omega)), h.2.2.1.kept (hk _ h.2.2.1.lt (by omega) (by omega)), h.2.2.2⟩
