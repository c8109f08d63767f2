/-! an array of longs; calls of methods that may throw, and of methods with a table -/
def xr_la (H : Heap) (a : Nat) (cA : ClassId) (n : Nat) (f : Nat → Int64) : Prop := H[a]? = some (vp_cell cA (n, .inr (.inl f)))
theorem xr_la.kept {H H1 : Heap} {a : Nat} {cA : ClassId} {n : Nat} {f : Nat → Int64} (h : xr_la H a cA n f) (hq : H1[a]? = H[a]?) : xr_la H1 a cA n f := hq.trans h
theorem xr_la.lt {H : Heap} {a : Nat} {cA : ClassId} {n : Nat} {f : Nat → Int64} (h : xr_la H a cA n f) : a < H.size := (Array.getElem?_eq_some_iff.mp h).1
section XLA
variable {p : Program} {l : Launch} {e : Env} {R : Room} {s : State} {m : MethodId} {args : Array Value} {below : List Frame} {meth : Method} {c : Code} {H : Heap} {locs : List Loc} {cells slots : Nat} {Q : State → Prop}
variable {cc : ByteArray} {pc : Nat} {ls : Array Slot} {rest : List Value} {D : va_G} {cl : List vw_C} {A : Nat → Prop} {a : Nat} {tys : List (ClassId × FieldType)} {H0 : Heap}
theorem xr_lald (hexec : p.tables.exec = Jvm.exec) (hb : c.code = cc) (hK : va_K D cl tys s) {cA : ClassId} {n : Nat} {f : Nat → Int64} (ha : xr_la H a cA n f) (t0 : Nat) (ht : tys[t0]? = some (cA, .long)) {i : Int32} (hin : vp_in i n) (hdg : decode cc pc = .ok (.laload, 1))
    (kk : W p l e R s m args below meth c H locs cells slots Q (F0 m (pc + 1) ls (.long (f i.toNatClampNeg) :: rest))) : W p l e R s m args below meth c H locs cells slots Q (F0 m pc ls (.int i :: .ref a :: rest)) :=
  va_lald (D := D) (cl := cl) (ws := [(a, .inl (cA, n, .inr (.inl f)))]) hexec hb hK (xr_one ha) 0 t0 rfl ht hin hdg kk
theorem xr_last (hexec : p.tables.exec = Jvm.exec) (hb : c.code = cc) (hK : va_K D cl tys s) (hS : va_S A H0 H locs) (hA : A a) {cA : ClassId} {n : Nat} {f : Nat → Int64} (ha : xr_la H a cA n f) (t0 : Nat) (ht : tys[t0]? = some (cA, .long)) {i : Int32} {x : Int64} (hin : vp_in i n) (hdg : decode cc pc = .ok (.lastore, 1))
    (kk : ∀ (H1 : Heap) (locs1 : List Loc), H1.size = H.size → (∀ q : Nat, q ≠ a → H1[q]? = H[q]?) → xr_la H1 a cA n (vp_updL f i.toNatClampNeg x) → va_S A H0 H1 locs1 → W p l e R s m args below meth c H1 locs1 cells slots Q (F0 m (pc + 1) ls rest)) : W p l e R s m args below meth c H locs cells slots Q (F0 m pc ls (.long x :: .int i :: .ref a :: rest)) := by
  refine W.last hexec hb ha ((hK.2 t0 _ ht).1 n (fun j => .long (f j))) (fun q => by cases q) (by show ¬ (i < 0 ∨ (arrV _ _ _).slots.size ≤ _); rw [arrV_size]; exact hin) rfl rfl hdg fun H1 e z oq => ?_
  refine kk H1 _ z oq ?_ (hS.put z oq hA)
  show H1[a]? = some (vp_cell _ _)
  rw [e]
  rw [vp_cell_l, vp_cell_l, arrV_store]
  congr 2
  funext q
  by_cases hq : q = i.toNatClampNeg
  · subst hq
    simp [updV, vp_updL]
  · simp [updV, vp_updL, hq]
theorem xr_newl (hexec : p.tables.exec = Jvm.exec) (hb : c.code = cc) {atype : ArrayType} (harr : (Cond.arrayClass (newarray.typeOf atype)).before args s = true) {cA : ClassId} (hra : s.vm.findClass ("[" ++ (newarray.typeOf atype).toString) = some cA) (hdv : defaultValue (newarray.typeOf atype) = .long 0) (hS : va_S A H0 H locs)
    {n : Int32} {N : Nat} (hn : ¬ n < 0) (hN : n.toNatClampNeg = N) (hbytes : N * componentBytes (newarray.typeOf atype) ≤ 536870912) (hcells : cells + 1 ≤ R.cells) (hslots : slots + N ≤ R.slots) (hdg : decode cc pc = .ok (.newarray atype, 2))
    (kk : ∀ H1 : Heap, H1.size = H.size + 1 → (∀ q : Nat, q < H.size → H1[q]? = H[q]?) → xr_la H1 H.size cA N (fun _ => 0) → va_S A H0 H1 locs → W p l e R s m args below meth c H1 locs (cells + 1) (slots + N) Q (F0 m (pc + 2) ls (.ref H.size :: rest))) : W p l e R s m args below meth c H locs cells slots Q (F0 m pc ls (.int n :: rest)) := by
  refine va_newaK hexec hb harr rfl hdg rfl hn hN hbytes hcells hslots rfl fun H1 cA' e1 z1 o1 _ hNm => ?_
  cases hNm.symm.trans hra
  refine kk H1 z1 o1 ?_ (xr_grow hS z1 o1)
  rw [hdv] at e1
  exact e1
end XLA
section XVX
variable {p : Program} {l : Launch} {e : Env} {R : Room} {s : State} {m : MethodId} {args : Array Value} {below : List Frame} {meth : Method} {c : Code} {H : Heap} {locs : List Loc} {cells slots : Nat} {Q : State → Prop}
variable {K : State → Prop} {y : MethodName} {bytes cc : ByteArray} {maxL nL n index pc : Nat} {ret : Option FieldType} {ws : List Cond} {rm : Room} {Ts : List Cond} {own C : String} {b : Addr} {As rest st0 : List Value} {ls : Array Slot} {α : Type} {emb : α → Option Value} {Q1 : α → Heap → Prop} {A0 A1 : Nat → Prop} {H0 : Heap} {Tp : Prop}
theorem xr_VX (S : CallFix p m c cc nL s args Ts own) (hko : xr_ok K) (hK : K s) (hM : CtrX l K y ws rm (.ref b :: As) H emb Q1 A1 Tp) (cw : CallW R s args own C index y bytes maxL ret ws rm rm.cells rm.slots n) (hrec : ∃ cell : Cell, H[b]? = some cell ∧ cell.vm.isStatics = false ∧ s.vm.findClass C = some cell.cls) (hn : As.length = n) (hsize : ls.size = nL) (hst : st0 = As.reverse ++ .ref b :: rest) (hW : (rest.map fun v => v.category).sum ≤ 8) (hdg : decode cc pc = .ok (.invokevirtual index, 3)) (hf : cells + rm.cells ≤ R.cells ∧ slots + rm.slots ≤ R.slots) (hS : va_S A0 H0 H locs) (hA : ∀ q, A1 q → A0 q)
    (kx : ∀ (ce : Cell) (q9 : Addr) (H1 : Heap) (locs1 : List Loc), Tp → H.size ≤ H1.size → (∀ q : Nat, q < H.size → H1[q]? = H[q]?) → va_S A0 H0 H1 locs1 → H1[q9]? = some ce → ce.vm = .none → s.vm.findClass kx_E = some ce.cls → vx_W p l e R s m args below meth c H1 locs1 (cells + rm.cells) (slots + rm.slots) Q (F0 m pc ls rest) q9)
    (kk : ∀ (r : α) (H1 : Heap) (locs1 : List Loc), Q1 r H1 → H.size ≤ H1.size → (∀ q : Nat, q < H.size → ¬ A1 q → H1[q]? = H[q]?) → va_S A0 H0 H1 locs1 → W p l e R s m args below meth c H1 locs1 (cells + rm.cells) (slots + rm.slots) Q (F0 m (pc + 3) ls ((emb r).toList ++ rest))) : W p l e R s m args below meth c H locs cells slots Q (F0 m pc ls st0) := by
  intro T0 hT X
  rcases vx_runV (g := F0 m pc ls st0) S hM cw ⟨xr_blind hko _ _, hrec, fun U hU hW => ⟨rfl, hU, hko.1 s U hW hK⟩⟩ rfl hn hsize hst (lv_room hW) hdg hf T0 hT X with ⟨v, st1, t, T1, L, h0, X1, hL, e1, e2, ⟨⟨r, hv, hp⟩, hF⟩, st⟩ | ⟨q, st1, t, T1, L, E, ce, h0, X1, hL, e1, e2, ⟨hE, hTp, hF⟩, hce, hcv, hcl, st⟩
  · have hv1 : v = emb r := Outcome.returned.inj hv
    subst hv1
    obtain ⟨k1, k2, k3⟩ := vx_keep h0 e1 hS (fun q _ h => hA q h) hA hL hF
    obtain ⟨t2, a1, b1⟩ := kk r T1.heap (locs ++ L) (by rw [e1]; exact hp) k1 k2 k3 T1 rfl X1
    exact ⟨t2, st t2 a1, b1⟩
  · subst hE
    obtain ⟨k1, k2, k3⟩ := vx_keep h0 e1 hS (fun q _ h => h.elim) hA hL hF
    obtain ⟨t2, a1, b1⟩ := kx ce q T1.heap (locs ++ L) hTp k1 (fun z hz => k2 z hz (fun h => h)) k3 (by rw [e1]; exact hce) hcv hcl T1 rfl X1
    exact ⟨t2, st.trans a1, b1⟩
theorem xr_SW {hh : List (Nat × Nat × Nat × Nat)} (S : CallFix p m c cc nL s args Ts own) (hko : xr_ok K) (hK : K s) (hM : Ctr l K y ws rm As H emb Q1 A1) (cw : vx_CSW R s args own index y bytes maxL ret hh ws rm rm.cells rm.slots n) (hn : As.length = n) (hsize : ls.size = nL) (hst : st0 = As.reverse ++ rest) (hW : (rest.map fun v => v.category).sum ≤ 8) (hdg : decode cc pc = .ok (.invokestatic index, 3)) (hf : cells + rm.cells ≤ R.cells ∧ slots + rm.slots ≤ R.slots) (hS : va_S A0 H0 H locs) (hA : ∀ q, A1 q → A0 q)
    (kk : ∀ (r : α) (H1 : Heap) (locs1 : List Loc), Q1 r H1 → H.size ≤ H1.size → (∀ q : Nat, q < H.size → ¬ A1 q → H1[q]? = H[q]?) → va_S A0 H0 H1 locs1 → W p l e R s m args below meth c H1 locs1 (cells + rm.cells) (slots + rm.slots) Q (F0 m (pc + 3) ls ((emb r).toList ++ rest))) : W p l e R s m args below meth c H locs cells slots Q (F0 m pc ls st0) :=
  xr_back (vx_runSW (g := F0 m pc ls st0) S hM cw ⟨xr_blind hko _ _, fun U hU hW => ⟨rfl, hU, hko.1 s U hW hK⟩⟩ rfl hn hsize hst (lv_room hW) hdg hf) hS hA kk
end XVX
section XRW9
variable {l : Launch} {K : State → Prop} {y : MethodName} {ws ws' : List Cond} {rm : Room} {av : List Value} {H0 : Heap} {α : Type} {emb : α → Option Value} {Q : α → Heap → Prop} {A : Nat → Prop} {cc : ByteArray} {maxL : Nat} {ret : Option FieldType} {hh : List (Nat × Nat × Nat × Nat)}
theorem xr_enterW (hy : plainName y.cls = true) (hw : ws = Cond.codeWith y cc maxL ret hh :: ws') (hlen : (lg_sl av).length ≤ maxL)
    (body : ∀ (p : Program) (e : Env) (s : State) (m : MethodId) (below : List Frame) (meth : Method) (c : Code), p.tables.exec = Jvm.exec → c.code = cc → meth.sig.returnType = ret → c.maxLocals = maxL → (∀ w ∈ ws, w.before av.toArray s = true) → s.vm.findClass y.cls = some m.cls → meth.locks = false → meth.name = y.name → s.heap = H0 → K s → c.exceptionTable.toList = tableOf hh →
      ∀ ls : Array Slot, lv_has ls maxL (lv_args 0 av) → W p l e rm s m av.toArray below meth c s.heap [] 0 0 (MQ below (xr_Post emb Q A) av.toArray s rm.cells rm.slots A) (F0 m 0 ls [])) : Ctr l K y ws rm av H0 emb Q A := by
  unfold Ctr Met
  refine MetFree.of_bodyS (code := cc) (maxLocals := maxL) (ret := ret) hy ?_ ?_
  · intro args s m h hn
    obtain ⟨m9, meth, c, hn9, h1, h2, h3, h4, -, h5, h6, -⟩ := Cond.codeWith_spec (atoms_spec (ws := ws) h _ (by rw [hw]; exact List.mem_cons_self))
    cases hn.symm.trans hn9
    exact ⟨meth, c, h1, h2, h3, h4, h5, h6⟩
  · intro p e s m args below meth c s₁ B hml hP _
    have hh0 : s₁.heap = s.heap := by rw [B.state]; rfl
    obtain ⟨rfl, hH, hK⟩ := hP
    have hl := lv_entry av (n := maxL) hlen
    have hwd := atoms_spec (ws := ws) B.pre
    have hb := body p e s m below meth c B.exec B.bytes B.returns hml hwd (findClass_of_methodNamed B.named) B.notSynchronized (name_of_methodNamed B.named B.method).1 hH hK (vx_table (x := y) B (hwd _ (by rw [hw]; exact List.mem_cons_self))) _ hl
    rw [← lg_entry_eq] at hb
    obtain ⟨t, a1, o, b1, b2, b3⟩ := hb s₁ hh0 (Stand.of_body B)
    exact ⟨t, o, a1, b1, b2, ⟨b3.1, b3.2⟩⟩
end XRW9
