/-! the receipt's text; groups that were passed over -/
def fTx (n b : Nat) : List Nat := rtx (n / Nat.gcd n b) (b / Nat.gcd n b)
def enT (S : PSt) (ap : Nat → Nat) (v r : Nat) : List Nat := if qemp S v < r ∨ (ap v).testBit (qpik S r) = false then [] else [48 + qpik S r / 10, 48 + qpik S r % 10, 32] ++ (fTx (pyN S ap v r) (qbas S r) ++ [59])
def sTx (S : PSt) (ap : Nat → Nat) (v : Nat) : Nat → List Nat
  | 0 => []
  | r + 1 => sTx S ap v r ++ enT S ap v r
def rcT (S : PSt) (ap : Nat → Nat) (n v : Nat) : List Nat := sTx S ap v n ++ (61 :: (fTx (qpur S v) (qB S) ++ [46]))
theorem fTx_len (n b : Nat) : (fTx n b).length ≤ 79 := rtx_len _ _
theorem enT_len (S : PSt) (ap : Nat → Nat) (v r : Nat) : (enT S ap v r).length ≤ 83 := by
  unfold enT
  have := fTx_len (pyN S ap v r) (qbas S r)
  split
  · exact Nat.zero_le _
  · simp
    omega
theorem sTx_len (S : PSt) (ap : Nat → Nat) (v : Nat) : ∀ r, (sTx S ap v r).length ≤ 83 * r
  | 0 => Nat.le_refl 0
  | r + 1 => by
    have h1 := sTx_len S ap v r
    have h2 := enT_len S ap v r
    show (sTx S ap v r ++ enT S ap v r).length ≤ _
    rw [List.length_append]
    omega
theorem rcT_len {S : PSt} {ap : Nat → Nat} {n v : Nat} (hn : n ≤ 16) : (rcT S ap n v).length ≤ 1409 := by
  have h1 := sTx_len S ap v n
  have h2 := fTx_len (qpur S v) (qB S)
  unfold rcT
  simp
  omega
def aRe (vs : Nat) (ap : Nat → Nat) (n : Nat) (S : PSt) (v k : Int32) : Int32 := if isV vs v = true then (if 0 ≤ k.toInt ∧ k.toInt < ((rcT S ap n (ix v)).length : Int) then nI ((rcT S ap n (ix v)).getD k.toInt.toNat 0) else -1) else -1
def SlOK (ap : Nat → Nat) (n : Nat) (S : PSt) (ow : Int32) (tx : List Nat) : Prop := ∀ j, j < 48 → ow = nI j → tx = rcT S ap n j
def grp (vs : Nat) (ap : Nat → Nat) (ps st m : Nat) : Nat → Nat
  | 0 => 0
  | v + 1 => grp vs ap ps st m v + if vs.testBit v = true ∧ ap v &&& st = st ∧ cnt (ap v &&& ps) 32 < m then 1 else 0
theorem grp_y {vs : Nat} {ap : Nat → Nat} {ps st m v : Nat} (h : vs.testBit v = true ∧ ap v &&& st = st ∧ cnt (ap v &&& ps) 32 < m) : grp vs ap ps st m (v + 1) = grp vs ap ps st m v + 1 := by rw [grp, if_pos h]
theorem grp_n {vs : Nat} {ap : Nat → Nat} {ps st m v : Nat} (h : ¬ (vs.testBit v = true ∧ ap v &&& st = st ∧ cnt (ap v &&& ps) 32 < m)) : grp vs ap ps st m (v + 1) = grp vs ap ps st m v := by rw [grp, if_neg h, Nat.add_zero]
theorem grp_le (vs : Nat) (ap : Nat → Nat) (ps st m : Nat) : ∀ v, grp vs ap ps st m v ≤ v
  | 0 => Nat.le_refl 0
  | v + 1 => by
    have := grp_le vs ap ps st m v
    rw [grp]
    split <;> omega
theorem costOf_le {c : Nat → Nat} {st : Nat} (hc : ∀ p, p < 16 → c p ≤ 1000000) : ∀ n, n ≤ 16 → costOf c st n ≤ 1000000 * n
  | 0, _ => Nat.le_refl 0
  | n + 1, h => by
    have h1 := costOf_le (st := st) hc n (by omega)
    have h2 := hc n (by omega)
    rw [costOf]
    split <;> omega
def aDm (c : Nat → Nat) (vs : Nat) (ap : Nat → Nat) (bu ps st m : Nat) : Bool := decide (cnt vs 48 * costOf c st 16 ≤ grp vs ap ps st m 48 * bu)
