/-! the desk: its state -/
abbrev qpc (S : PSt) : Nat := S.1
abbrev qps (S : PSt) : Nat := S.2.1
abbrev qco (S : PSt) : Nat := S.2.2.1
abbrev qB (S : PSt) : Nat := S.2.2.2.2.1
abbrev qpur (S : PSt) : Nat → Nat := S.2.2.2.2.2.1
abbrev qlas (S : PSt) : Nat → Nat := S.2.2.2.2.2.2.1
abbrev qemp (S : PSt) : Nat → Nat := S.2.2.2.2.2.2.2.1
abbrev qpay (S : PSt) : Nat → Nat := S.2.2.2.2.2.2.2.2.1
abbrev qpik (S : PSt) : Nat → Nat := S.2.2.2.2.2.2.2.2.2.1
abbrev qrat (S : PSt) : Nat → Nat := S.2.2.2.2.2.2.2.2.2.2.1
abbrev qbas (S : PSt) : Nat → Nat := S.2.2.2.2.2.2.2.2.2.2.2
/-- a phase at f, of the town at t, with n rounds -/
def PhAt (g : WG) (H : Heap) (f t n : Nat) (S : PSt) : Prop := ∃ op bs tr rb kb rt kt : Nat, (tr = f + 10 ∧ bs = f + 17 ∨ tr = f + 17 ∧ bs = f + 10) ∧ obj g H f 1 (phF f t (qpc S) n (qps S) (qco S) op bs tr) ∧ NatAt g H (f + 1) (qB S) ∧ PoolAt g H (f + 3) (f + 24) 48 (qpur S) ∧ PoolAt g H (f + 4) (f + 26) 48 (qlas S) ∧ xr_ia H (f + 5) (gI g) 48 (fun z9 => nI (qemp S z9)) ∧ xr_ia H (f + 6) (gI g) 48 (fun z9 => nI (qpay S z9)) ∧ xr_ia H (f + 7) (gI g) 16 (fun z9 => nI (qpik S z9)) ∧ PoolAt g H (f + 8) (f + 216) 16 (qrat S) ∧ PoolAt g H (f + 9) (f + 218) 16 (qbas S) ∧ ShareAt g H bs rb kb ∧ ShareAt g H tr rt kt
theorem PhAt.kept {g : WG} {H H1 : Heap} {f t n : Nat} {S : PSt} (h : PhAt g H f t n S) (hk : ∀ q, q < H.size → f ≤ q → q < f + 280 → H1[q]? = H[q]?) : PhAt g H1 f t n S := by
  obtain ⟨op, bs, tr, rb, kb, rt, kt, htb, h1, h2, h3, h4, h5, h6, h7, h8, h9, h10, h11⟩ := h
  refine ⟨op, bs, tr, rb, kb, rt, kt, htb, h1.kept (hk _ h1.lt (by omega) (by omega)), h2.kept (hk _ h2.1.lt (by omega) (by omega)) (hk _ h2.2.1.lt (by omega) (by omega)), h3.kept (hk _ h3.1.lt (by omega) (by omega)) (fun v hv => hk _ (h3.2 v hv).1.lt (by omega) (by omega)) (fun v hv => hk _ (h3.2 v hv).2.1.lt (by omega) (by omega)), h4.kept (hk _ h4.1.lt (by omega) (by omega)) (fun v hv => hk _ (h4.2 v hv).1.lt (by omega) (by omega)) (fun v hv => hk _ (h4.2 v hv).2.1.lt (by omega) (by omega)), h5.kept (hk _ h5.lt (by omega) (by omega)), h6.kept (hk _ h6.lt (by omega) (by omega)), h7.kept (hk _ h7.lt (by omega) (by omega)), h8.kept (hk _ h8.1.lt (by omega) (by omega)) (fun v hv => hk _ (h8.2 v hv).1.lt (by omega) (by omega)) (fun v hv => hk _ (h8.2 v hv).2.1.lt (by omega) (by omega)), h9.kept (hk _ h9.1.lt (by omega) (by omega)) (fun v hv => hk _ (h9.2 v hv).1.lt (by omega) (by omega)) (fun v hv => hk _ (h9.2 v hv).2.1.lt (by omega) (by omega)), h10.kept (fun q q1 q2 q3 => hk q q1 (by omega) (by omega)), h11.kept (fun q q1 q2 q3 => hk q q1 (by omega) (by omega))⟩
def DeskAt (g : WG) (H : Heap) (a : Nat) (c0 : Nat → Nat) (vs0 : Nat) (ap0 : Nat → Nat) (bu0 : Nat) (c : Nat → Nat) (vs : Nat) (ap : Nat → Nat) (bu : Nat) (n : Nat) (S : PSt) (ow : Int32) (tx : List Nat) : Prop :=
  ∃ (rs tr t u y n2 : Nat) (S2 : PSt), (rs = a + 19 ∧ tr = a + 299 ∨ rs = a + 299 ∧ tr = a + 19) ∧ obj g H a 6 [.ref (a + 1), .ref (a + 4), .ref (a + 7), .ref (a + 12), .ref (a + 14), .ref rs, .ref tr] ∧ TownAt g H (a + 1) c0 vs0 ap0 bu0 ∧ TownAt g H (a + 4) c vs ap bu ∧ RatioAt g H (a + 7) t u ∧ NatAt g H (a + 12) y ∧ SlipAt g H (a + 14) ow tx ∧ PhAt g H rs (a + 4) n S ∧ PhAt g H tr (a + 4) n2 S2 ∧ PrimesAt g H ∧ g.2.2.1.1 < a ∧ g.2.2.2.2.1 < a
theorem DeskAt.kept {g : WG} {H H1 : Heap} {a : Nat} {c0 : Nat → Nat} {vs0 : Nat} {ap0 : Nat → Nat} {bu0 : Nat} {c : Nat → Nat} {vs : Nat} {ap : Nat → Nat} {bu n : Nat} {S : PSt} {ow : Int32} {tx : List Nat} (h : DeskAt g H a c0 vs0 ap0 bu0 c vs ap bu n S ow tx) (hk : ∀ q, q < H.size → q < a + 579 → H1[q]? = H[q]?) : DeskAt g H1 a c0 vs0 ap0 bu0 c vs ap bu n S ow tx := by
  obtain ⟨rs, tr, t, u, y, n2, S2, h0, h1, h2, h3, h4, h5, h6, h7, h8, h9, h10, h11⟩ := h
  exact ⟨rs, tr, t, u, y, n2, S2, h0, h1.kept (hk _ h1.lt (by omega)), h2.kept (fun q q1 q2 q3 => hk q q1 (by omega)), h3.kept (fun q q1 q2 q3 => hk q q1 (by omega)), h4.kept (fun q q1 q2 q3 => hk q q1 (by omega)), h5.kept (hk _ h5.1.lt (by omega)) (hk _ h5.2.1.lt (by omega)), h6.kept (fun q q1 q2 q3 => hk q q1 (by omega)), h7.kept (fun q q1 q2 q3 => hk q q1 (by omega)), h8.kept (fun q q1 q2 q3 => hk q q1 (by omega)), h9.kept (hk _ h9.l1 (by omega)) (hk _ h9.l2 (by omega)), h10, h11⟩
/-! what is entered -/
def rg (k : Int32) (M : Nat) : Bool := decide (1 ≤ k.toInt ∧ k.toInt ≤ M)
theorem rg_lo {k : Int32} {M : Nat} (h : k < 1) : rg k M = false := by
  have h9 : k.toInt < 1 := Int32.lt_iff_toInt_lt.mp h
  exact decide_eq_false (by omega)
theorem rg_hi {k m : Int32} {M : Nat} (hm : m.toInt = M) (h : ¬ k ≤ m) : rg k M = false := by
  have h9 : ¬ k.toInt ≤ m.toInt := fun q => h (Int32.le_iff_toInt_le.mpr q)
  exact decide_eq_false (by omega)
theorem rg_ok {k m : Int32} {M : Nat} (hm : m.toInt = M) (h1 : ¬ k < 1) (h : k ≤ m) : rg k M = true ∧ ∃ j, 1 ≤ j ∧ j ≤ M ∧ j < 2 ^ 31 ∧ k = nI j := by
  have h9 : ¬ k.toInt < 1 := fun q => h1 (Int32.lt_iff_toInt_lt.mpr q)
  have h8 : k.toInt ≤ m.toInt := Int32.le_iff_toInt_le.mp h
  refine ⟨decide_eq_true (by omega), ?_⟩
  obtain ⟨j, hj, rfl⟩ := nI_of (x := k) (fun q => by have h7 : k.toInt < 0 := Int32.lt_iff_toInt_lt.mp q; omega)
  rw [nI_toInt hj] at h9 h8
  exact ⟨j, by omega, by omega, hj, rfl⟩
def oPj (p k : Int32) : Bool := inR p 16 && rg k 1000000
def cPj (c : Nat → Nat) (p k : Int32) : Nat → Nat := if oPj p k = true then va_up c (ix p) (ix k) else c
def oDr (c : Nat → Nat) (p : Int32) : Bool := inR p 16 && decide (0 < c (ix p))
def cDr (c : Nat → Nat) (p : Int32) : Nat → Nat := if oDr c p = true then va_up c (ix p) 0 else c
def bBu (b : Nat) (k : Int32) : Nat := if rg k 10000000 = true then ix k else b
def isV (vs : Nat) (v : Int32) : Bool := inR v 48 && vs.testBit (ix v)
def oVo (vs : Nat) (v : Int32) : Bool := inR v 48 && !vs.testBit (ix v)
def vVo (vs : Nat) (v : Int32) : Nat := if oVo vs v = true then vs ||| 2 ^ ix v else vs
def aVo (vs : Nat) (ap : Nat → Nat) (v : Int32) : Nat → Nat := if oVo vs v = true then va_up ap (ix v) 0 else ap
def vSt (vs : Nat) (v : Int32) : Nat := if isV vs v = true then vs - 2 ^ ix v else vs
def clrb (x p : Nat) : Nat := if x.testBit p = true then x - 2 ^ p else x
def oAp (vs : Nat) (v p : Int32) : Bool := isV vs v && inR p 16
def aAp (vs : Nat) (ap : Nat → Nat) (v p : Int32) (y : Bool) : Nat → Nat := if oAp vs v p = true then va_up ap (ix v) (if y = true then ap (ix v) ||| 2 ^ ix p else clrb (ap (ix v)) (ix p)) else ap
theorem va_up_all {f : Nat → Nat} {P : Nat → Nat → Prop} {k x n : Nat} (hf : ∀ j, j < n → P j (f j)) (hx : P k x) : ∀ j, j < n → P j (va_up f k x j) := fun j hj => by
  by_cases e : j = k
  · subst e
    rw [va_up_self]
    exact hx
  · rw [va_up_ne _ _ e]
    exact hf j hj
theorem or_lt {a p n : Nat} (ha : a < 2 ^ n) (hp : p < n) : a ||| 2 ^ p < 2 ^ n := Nat.or_lt_two_pow ha (Nat.pow_lt_pow_right (by decide) hp)
theorem clrb_le (x p : Nat) : clrb x p ≤ x := by
  unfold clrb
  split
  · exact Nat.sub_le _ _
  · exact Nat.le_refl _
theorem nI_clrb {n p : Nat} (hn : n < 2 ^ 31) (hp : p < 31) : nI n &&& (nI (2 ^ p) ^^^ (-1)) = nI (clrb n p) := by
  unfold clrb
  split
  · rename_i h
    exact nI_clr hn hp h
  · rename_i h
    have h1 : (nI (2 ^ p) ^^^ (-1)) = ~~~ (nI (2 ^ p)) := by
      apply Int32.toBitVec_inj.mp
      rw [Int32.toBitVec_xor, Int32.toBitVec_not]
      show _ ^^^ BitVec.allOnes 32 = _
      rw [BitVec.xor_allOnes]
    rw [h1]
    apply Int32.toBitVec_inj.mp
    apply BitVec.eq_of_getLsbD_eq
    intro i hi
    rw [Int32.toBitVec_and, Int32.toBitVec_not, BitVec.getLsbD_and, BitVec.getLsbD_not]
    show ((BitVec.ofNat 32 n).getLsbD i && (decide (i < 32) && !(BitVec.ofNat 32 (2 ^ p)).getLsbD i)) = (BitVec.ofNat 32 n).getLsbD i
    rw [BitVec.getLsbD_ofNat, BitVec.getLsbD_ofNat, Nat.testBit_two_pow]
    by_cases e : p = i
    · subst e
      have h2 : n.testBit p = false := by cases hq : n.testBit p with | false => rfl | true => exact absurd hq h
      rw [h2]
      simp
    · simp [e, hi]
theorem lN_clr {n p : Nat} (hn : n < 2 ^ 62) (hp : p < 62) (h : n.testBit p = true) : lN n &&& (lN (2 ^ p) ^^^ (-1)) = lN (n - 2 ^ p) := by
  have h1 : (lN (2 ^ p) ^^^ (-1)) = ~~~ (lN (2 ^ p)) := by
    apply Int64.toBitVec_inj.mp
    rw [Int64.toBitVec_xor, Int64.toBitVec_not]
    show _ ^^^ BitVec.allOnes 64 = _
    rw [BitVec.xor_allOnes]
  rw [h1]
  apply Int64.toBitVec_inj.mp
  apply BitVec.eq_of_getLsbD_eq
  intro i hi
  rw [Int64.toBitVec_and, Int64.toBitVec_not, BitVec.getLsbD_and, BitVec.getLsbD_not]
  show ((BitVec.ofNat 64 n).getLsbD i && (decide (i < 64) && !(BitVec.ofNat 64 (2 ^ p)).getLsbD i)) = (BitVec.ofNat 64 (n - 2 ^ p)).getLsbD i
  rw [BitVec.getLsbD_ofNat, BitVec.getLsbD_ofNat, BitVec.getLsbD_ofNat, Nat.testBit_two_pow, clr_bit h]
  by_cases e : p = i
  · subst e
    simp
  · have e2 : ¬ i = p := fun q => e q.symm
    simp [e, e2, hi]
theorem lN_or {a b : Nat} : lN a ||| lN b = lN (a ||| b) := by
  apply Int64.toBitVec_inj.mp
  apply BitVec.eq_of_toNat_eq
  rw [Int64.toBitVec_or, BitVec.toNat_or]
  show (BitVec.ofNat 64 a).toNat ||| (BitVec.ofNat 64 b).toNat = (BitVec.ofNat 64 (a ||| b)).toNat
  rw [BitVec.toNat_ofNat, BitVec.toNat_ofNat, BitVec.toNat_ofNat, Nat.or_mod_two_pow]
