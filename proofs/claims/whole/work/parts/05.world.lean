/-! THE WORLD: the tables' side (KK), numbers of four words (NatAt) -/
abbrev WG : Type := va_G × (ClassId × ClassId × ClassId × ClassId × ClassId) × (Nat × Nat) × (Cell × Nat × Cell)
abbrev gI (g : WG) : ClassId := g.2.1.1
abbrev gC (g : WG) : ClassId := g.2.1.2.1
abbrev gN (g : WG) : ClassId := g.2.1.2.2.1
abbrev gZ (g : WG) : ClassId := g.2.1.2.2.2.1
abbrev gL (g : WG) : ClassId := g.2.1.2.2.2.2
abbrev gT (g : WG) : List (ClassId × FieldType) := [(gI g, .int), (gC g, .char), (gN g, .object RX0), (gZ g, .boolean), (gL g, .long)]
/-- where a static lies -/
def xr_Z (C n d : String) (a sl : Nat) (U : State) : Prop := ∃ (cf : ClassId) (kf : Class) (fi : Nat) (f : Field), U.fieldFound? C n d = some (cf, kf, fi, f) ∧ f.isStatic = true ∧ kf.init = .initialized ∧ kf.statics = some a ∧ f.slot = sl
theorem xr_Z.moved {C n d : String} {a sl : Nat} {u U : State} (hvm : u.vm.Alike U.vm) (h : xr_Z C n d a sl u) : xr_Z C n d a sl U := by
  obtain ⟨cf, kf, fi, f, h1, h2, h3, h4, h5⟩ := h
  obtain ⟨k', hi', he⟩ := State.fieldFound?_setVm hvm h1
  exact ⟨cf, k', fi, f, hi', h2, by rw [he]; exact h3, by rw [he]; exact h4, h5⟩
def kk_nest : List (String × Nat × MethodName) := [(RX6, 21, yX2_init), (RX6, 28, yX0_init), (RX6, 35, yX4_init), (RX6, 9, yX5_init), (RX1, 11, yX0_init), (RX1, 43, yX3_init), (RX2, 9, yX0_init), (RX3, 9, yX0_init), (RX4, 24, yX0_init), (RX5, 22, yX6_isProjectNumber), (RX5, 26, yX6_isVoterNumber)]
/-- the primes that a base may have -/
def pr15 (j : Nat) : Nat := [2, 3, 5, 7, 11, 13, 17, 19, 23, 29, 31, 37, 41, 43, 47].getD j 0
/-- the static array of primes: its field's cell, its own cell -/
def KP (g : WG) : Prop := g.2.2.2.1.vm.isStatics = true ∧ g.2.2.2.1.slots[g.2.2.1.2]? = some (.ref g.2.2.2.2.1) ∧ g.2.2.2.2.2.vm ≠ .unknown ∧ g.2.2.2.2.2.slots.size.toInt32 = nI 15 ∧ 15 ≤ g.2.2.2.2.2.slots.size ∧ ∀ j, j < 15 → g.2.2.2.2.2.slots[j]? = some (.int (nI (pr15 j)))
def KK (g : WG) (U : State) : Prop := va_K g.1 vwCl (gT g) U ∧ va_AO RX0 U ∧ (∀ q ∈ kk_nest, va_Nw (.methodLinkNest q.1 q.2.1 q.2.2 "SharesDesk") U) ∧ xr_Z RX2 "PRIMES" "[I" g.2.2.1.1 g.2.2.1.2 U ∧ U.isArrayOf g.2.2.2.2.2 .int ∧ KP g
theorem KK_ok (g : WG) : xr_ok (KK g) := by
  refine ⟨fun u U hW h => ⟨h.1.moved hW.alike, h.2.1.moved hW.alike, fun q hq => (h.2.2.1 q hq).warmM hW, h.2.2.2.1.moved hW.alike, State.isArrayOf_alike hW.alike h.2.2.2.2.1, h.2.2.2.2.2⟩, fun u U hv h => ?_⟩
  have ha : u.vm.Alike U.vm := by rw [hv]; exact Vm.Alike.refl _
  exact ⟨h.1.moved ha, h.2.1.moved ha, fun q hq => (h.2.2.1 q hq).same rfl hv, h.2.2.2.1.moved ha, State.isArrayOf_alike ha h.2.2.2.2.1, h.2.2.2.2.2⟩
/-- the two cells of the static array lie in the heap -/
def PrimesAt (g : WG) (H : Heap) : Prop := H[g.2.2.1.1]? = some g.2.2.2.1 ∧ H[g.2.2.2.2.1]? = some g.2.2.2.2.2
theorem PrimesAt.kept {g : WG} {H H1 : Heap} (h : PrimesAt g H) (h0 : H1[g.2.2.1.1]? = H[g.2.2.1.1]?) (h1 : H1[g.2.2.2.2.1]? = H[g.2.2.2.2.1]?) : PrimesAt g H1 := ⟨h0.trans h.1, h1.trans h.2⟩
section XT
variable {p : Program} {l : Launch} {e : Env} {R : Room} {s : State} {m : MethodId} {args : Array Value} {below : List Frame} {meth : Method} {c : Code} {H : Heap} {locs : List Loc} {cells slots : Nat} {Q : State → Prop}
variable {pc : Nat} {ls : Array Slot} {rest : List Value}
theorem xr_ti {x x' : Int32} (h : x = x') (k : W p l e R s m args below meth c H locs cells slots Q (F0 m pc ls (.int x' :: rest))) : W p l e R s m args below meth c H locs cells slots Q (F0 m pc ls (.int x :: rest)) := h ▸ k
theorem xr_tl {x x' : Int64} (h : x = x') (k : W p l e R s m args below meth c H locs cells slots Q (F0 m pc ls (.long x' :: rest))) : W p l e R s m args below meth c H locs cells slots Q (F0 m pc ls (.long x :: rest)) := h ▸ k
variable {cc : ByteArray} {g : WG} {A : Nat → Prop} {a : Nat} {H0 : Heap}
theorem xr_rd (hx : p.tables.exec = Jvm.exec) (hb : c.code = cc) (hK : KK g s) {n : Nat} {f : Nat → Int32} (ha : xr_ia H a (gI g) n f) {i : Nat} (hi : i < n) (hn : n < 2 ^ 31) (hdg : decode cc pc = .ok (.iaload, 1))
    (kk : W p l e R s m args below meth c H locs cells slots Q (F0 m (pc + 1) ls (.int (f i) :: rest))) : W p l e R s m args below meth c H locs cells slots Q (F0 m pc ls (.int (nI i) :: .ref a :: rest)) := by
  refine xr_iald hx hb hK.1 ha 0 rfl (vp_in_nI hi hn) hdg ?_
  rw [nI_clamp (Nat.lt_trans hi hn)]
  exact kk
theorem xr_wr (hx : p.tables.exec = Jvm.exec) (hb : c.code = cc) (hK : KK g s) (hS : va_S A H0 H locs) (hA : A a) {n : Nat} {f : Nat → Int32} (ha : xr_ia H a (gI g) n f) {i : Nat} {x : Int32} (hi : i < n) (hn : n < 2 ^ 31) (hdg : decode cc pc = .ok (.iastore, 1))
    (kk : ∀ (H1 : Heap) (locs1 : List Loc), H1.size = H.size → (∀ q : Nat, q ≠ a → H1[q]? = H[q]?) → xr_ia H1 a (gI g) n (upd f i x) → va_S A H0 H1 locs1 → W p l e R s m args below meth c H1 locs1 cells slots Q (F0 m (pc + 1) ls rest)) : W p l e R s m args below meth c H locs cells slots Q (F0 m pc ls (.int x :: .int (nI i) :: .ref a :: rest)) := by
  refine xr_iast hx hb hK.1 hS hA ha 0 rfl (vp_in_nI hi hn) hdg ?_
  rw [nI_clamp (Nat.lt_trans hi hn)]
  exact kk
theorem xr_gp (hx : p.tables.exec = Jvm.exec) (hb : c.code = cc) (hK : KK g s) (hP : PrimesAt g H) {own : String} {index : Nat} (hown : s.vm.findClass own = some m.cls) (hlink : (Cond.fieldLink own index RX2 "PRIMES" "[I").before args s = true) (hdg : decode cc pc = .ok (.getstatic index, 3))
    (kk : W p l e R s m args below meth c H locs cells slots Q (F0 m (pc + 3) ls (.ref g.2.2.2.2.1 :: rest))) : W p l e R s m args below meth c H locs cells slots Q (F0 m pc ls rest) := by
  obtain ⟨cf, kf, fi, f, h1, h2, h3, h4, h5⟩ := hK.2.2.2.1
  obtain ⟨k1, k2, -⟩ := hK.2.2.2.2.2
  exact W.gets hx hb hown hlink h1 h2 h3 h4 hP.1 (fun e => by rw [e] at k1; cases k1) (by rw [h5]; exact k2) rfl hdg kk
theorem xr_pr (hx : p.tables.exec = Jvm.exec) (hb : c.code = cc) (hK : KK g s) (hP : PrimesAt g H) {i : Nat} (hi : i < 15) (hdg : decode cc pc = .ok (.iaload, 1))
    (kk : W p l e R s m args below meth c H locs cells slots Q (F0 m (pc + 1) ls (.int (nI (pr15 i)) :: rest))) : W p l e R s m args below meth c H locs cells slots Q (F0 m pc ls (.int (nI i) :: .ref g.2.2.2.2.1 :: rest)) := by
  obtain ⟨-, -, k3, k4, k5, k6⟩ := hK.2.2.2.2.2
  exact W.iald hx hb hP.2 hK.2.2.2.2.1 k3 (fun q => by rw [nI_clamp (by omega)] at q; exact q.elim (nI_pos (by omega)) (by omega)) (by rw [nI_clamp (by omega)]; exact k6 i hi) rfl rfl hdg kk
theorem xr_pn (hx : p.tables.exec = Jvm.exec) (hb : c.code = cc) (hK : KK g s) (hP : PrimesAt g H) (hdg : decode cc pc = .ok (.arraylength, 1))
    (kk : W p l e R s m args below meth c H locs cells slots Q (F0 m (pc + 1) ls (.int (nI 15) :: rest))) : W p l e R s m args below meth c H locs cells slots Q (F0 m pc ls (.ref g.2.2.2.2.1 :: rest)) := by
  obtain ⟨-, -, k3, k4, -⟩ := hK.2.2.2.2.2
  exact W.alen hx hb hP.2 hK.2.2.2.2.1 k4 rfl rfl hdg kk
end XT
/-! an object of a class of ours; the words of a number -/
abbrev obj (g : WG) (H : Heap) (a ci : Nat) (fs : List Value) : Prop := va_at g.1 vwCl (a, .inr (ci, fs)) H
theorem xr_rec {g : WG} {s : State} {H : Heap} {a ci : Nat} {fs : List Value} {q : vw_C} (hK : KK g s) (hP : obj g H a ci fs) (hc : vwCl[ci]? = some q) : ∃ cell : Cell, H[a]? = some cell ∧ cell.vm.isStatics = false ∧ s.vm.findClass q.1 = some cell.cls :=
  va_recv hK.1 (xr_one hP) hc (q0 := 0) rfl
def wd (x j : Nat) : Int32 := nI (x / 2 ^ (32 * j) % 2 ^ 32)
def NatAt (g : WG) (H : Heap) (a x : Nat) : Prop := obj g H a 0 [.ref (a + 1)] ∧ xr_ia H (a + 1) (gI g) 4 (wd x) ∧ x < 2 ^ 128
theorem NatAt.kept {g : WG} {H H1 : Heap} {a x : Nat} (h : NatAt g H a x) (h0 : H1[a]? = H[a]?) (h1 : H1[a + 1]? = H[a + 1]?) : NatAt g H1 a x := ⟨h.1.kept h0, h.2.1.kept h1, h.2.2⟩
theorem NatAt.put {g : WG} {H H1 : Heap} {a x y : Nat} {f : Nat → Int32} (h : NatAt g H a x) (h0 : H1[a]? = H[a]?) (h1 : xr_ia H1 (a + 1) (gI g) 4 f) (hf : ∀ j, j < 4 → f j = wd y j) (hy : y < 2 ^ 128) : NatAt g H1 a y := ⟨h.1.kept h0, h1.to hf, hy⟩
/-! numbers -/
theorem nI_mod (n : Nat) : nI n = nI (n % 2 ^ 32) := by
  apply Int32.toBitVec_inj.mp
  apply BitVec.eq_of_toNat_eq
  simp [nI]
theorem lw_mask {w : Nat} (h : w < 2 ^ 32) : (nI w).toInt64 &&& 4294967295 = lN w := by
  apply Int64.toBitVec_inj.mp
  apply BitVec.eq_of_toNat_eq
  have hm : (4294967295 : Int64).toBitVec.toNat = 2 ^ 32 - 1 := by decide
  have h1 : (nI w).toInt64.toBitVec.toNat % 2 ^ 32 = w := by
    have h2 : (nI w).toInt64.toBitVec = (nI w).toBitVec.signExtend 64 := by first | rfl | simp
    rw [h2]
    rw [BitVec.toNat_signExtend]
    simp [nI, Nat.mod_eq_of_lt h]
    split <;> omega
  have h4 : ((nI w).toInt64 &&& 4294967295).toBitVec.toNat = (nI w).toInt64.toBitVec.toNat &&& (2 ^ 32 - 1) := by
    rw [Int64.toBitVec_and, BitVec.toNat_and, hm]
  rw [h4, Nat.and_two_pow_sub_one_eq_mod, h1]
  simp [lN]
  omega
theorem tm_step {x k P B : Nat} (hP : 0 < P) (hB : 0 < B) : x * k / P % B = (x / P % B * k + x % P * k / P) % B ∧ x % (P * B) * k / (P * B) = (x / P % B * k + x % P * k / P) / B := by
  have e0 : x * k / P = x / P * k + x % P * k / P := by
    have h : x * k = P * (x / P * k) + x % P * k := by
      conv => lhs; rw [← Nat.div_add_mod x P]
      rw [Nat.add_mul, Nat.mul_assoc]
    rw [h, Nat.mul_add_div hP]
  have e1 : x % (P * B) = P * (x / P % B) + x % P := by
    rw [Nat.mod_mul]
    omega
  refine ⟨?_, ?_⟩
  · rw [e0]
    simp [Nat.add_mod, Nat.mul_mod]
  · rw [e1, Nat.add_mul, Nat.mul_assoc, ← Nat.div_div_eq_div_mul, Nat.mul_add_div hP]
