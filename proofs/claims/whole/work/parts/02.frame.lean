/-! OWN FRAME: a contract over one heap. 'Ctr l K y ws rm av H0 emb Q A': called with the arguments av in the heap H0, where K holds of the tables, y returns emb r with Q r H1; of the cells that were there only those in A may change. -/
def xr_Post {α : Type} (emb : α → Option Value) (Q : α → Heap → Prop) (A : Nat → Prop) : Array Value → State → Outcome → State → Prop := fun _ st oc t => (∃ r : α, oc = .returned (emb r) ∧ Q r t.heap) ∧ va_F A st t
def xr_Pre (K : State → Prop) (av : List Value) (H0 : Heap) : Array Value → State → Prop := fun v U => v = av.toArray ∧ U.heap = H0 ∧ K U
def Ctr (l : Launch) (K : State → Prop) (y : MethodName) (ws : List Cond) (rm : Room) (av : List Value) (H0 : Heap) {α : Type} (emb : α → Option Value) (Q : α → Heap → Prop) (A : Nat → Prop) : Prop :=
  Met l y ws rm (xr_Pre K av H0) (xr_Post emb Q A) rm.cells rm.slots A
/-- what K must bear -/
def xr_ok (K : State → Prop) : Prop := (∀ u U : State, u.WarmedH U.vm → K u → K U) ∧ ∀ u U : State, u.vm = U.vm → K u → K U
def eI (r : Int32) : Option Value := some (.int r)
def eL (r : Int64) : Option Value := some (.long r)
def eV (_ : Unit) : Option Value := none
def eR (r : Value) : Option Value := some r
theorem xr_blind {K : State → Prop} (hk : xr_ok K) (av : List Value) (H0 : Heap) : FrameBlind (xr_Pre K av H0) := fun a U g mk q => ⟨q.1, q.2.1, hk.2 U _ rfl q.2.2⟩
theorem xr_one {D : va_G} {cl : List vw_C} {q : Nat × va_E} {H : Heap} (h : va_at D cl q H) : va_P D cl [q] H := fun k x hx => by
  have hz : k < 1 := (List.getElem?_eq_some_iff.mp hx).1
  rw [show k = 0 by omega] at hx
  cases hx
  exact h
theorem xr_oneD {A : Nat → Prop} {q : Nat × va_E} (h : A q.1) : va_D A [q] := by
  have hz : ∀ (k : Nat) (x : Nat × va_E), ([q] : va_W)[k]? = some x → k = 0 ∧ x = q := by
    intro k x hx
    have h1 : k < 1 := (List.getElem?_eq_some_iff.mp hx).1
    have h0 : k = 0 := by omega
    subst h0
    cases hx
    exact ⟨rfl, rfl⟩
  refine ⟨fun i j p q hp hq _ => by rw [(hz i p hp).1, (hz j q hq).1], fun k x hx => by rw [(hz k x hx).2]; exact h⟩
section XRE
variable {l : Launch} {K : State → Prop} {y : MethodName} {ws ws' : List Cond} {rm : Room} {av : List Value} {H0 : Heap} {α : Type} {emb : α → Option Value} {Q : α → Heap → Prop} {A : Nat → Prop} {cc : ByteArray} {maxL : Nat} {ret : Option FieldType}
/-- a method's walk begins -/
theorem xr_enter (hy : plainName y.cls = true) (hw : ws = Cond.code y cc maxL ret :: ws') (hlen : (lg_sl av).length ≤ maxL)
    (body : ∀ (p : Program) (e : Env) (s : State) (m : MethodId) (below : List Frame) (meth : Method) (c : Code), p.tables.exec = Jvm.exec → c.code = cc → meth.sig.returnType = ret → c.maxLocals = maxL → (∀ w ∈ ws, w.before av.toArray s = true) → s.vm.findClass y.cls = some m.cls → meth.locks = false → meth.name = y.name → s.heap = H0 → K s →
      ∀ ls : Array Slot, lv_has ls maxL (lv_args 0 av) → W p l e rm s m av.toArray below meth c s.heap [] 0 0 (MQ below (xr_Post emb Q A) av.toArray s rm.cells rm.slots A) (F0 m 0 ls [])) : Ctr l K y ws rm av H0 emb Q A := by
  refine Met.ofW (cc := cc) (maxL := maxL) (ret := ret) hy hw ?_
  intro p e s m args below meth c s₁ B hml hv
  obtain ⟨rfl, hH, hK⟩ := hv
  have hl := lv_entry av (n := maxL) hlen
  have h := body p e s m below meth c B.exec B.bytes B.returns hml (atoms_spec (ws := ws) B.pre) (findClass_of_methodNamed B.named) B.notSynchronized (name_of_methodNamed B.named B.method).1 hH hK _ hl
  rw [lg_entry_eq]
  exact h
end XRE
section XRW
variable {p : Program} {l : Launch} {e : Env} {R : Room} {s : State} {m : MethodId} {args : Array Value} {below : List Frame} {meth : Method} {c : Code} {H : Heap} {locs : List Loc} {cells slots : Nat} {Q : State → Prop}
variable {cc : ByteArray} {pc : Nat} {ls : Array Slot} {rest : List Value} {D : va_G} {cl : List vw_C} {A : Nat → Prop} {a : Nat} {tys : List (ClassId × FieldType)} {H0 : Heap}
/-- ends -/
theorem xr_iret {Qq : Int32 → Heap → Prop} {v : Int32} (hx : p.tables.exec = Jvm.exec) (hb : c.code = cc) (hr : meth.sig.returnType = some .int) (hlocks : meth.locks = false) (hS : va_S A s.heap H locs) (hq : Qq v H) (hdg : decode cc pc = .ok (.ireturn, 1)) :
    W p l e R s m args below meth c H locs cells slots (MQ below (xr_Post eI Qq A) args s cells slots A) (F0 m pc ls [.int v]) :=
  W.iret hx hb hr (fun t ht _ => ⟨⟨v, rfl, by rw [ht]; exact hq⟩, hS.F ht⟩) hS.2.2 hdg hlocks
theorem xr_zret {Qq : Int32 → Heap → Prop} {v : Int32} {ty : FieldType} (hx : p.tables.exec = Jvm.exec) (hb : c.code = cc) (hr : meth.sig.returnType = some ty) (hn : narrow ty (.int v) = .int v) (hlocks : meth.locks = false) (hS : va_S A s.heap H locs) (hq : Qq v H) (hdg : decode cc pc = .ok (.ireturn, 1)) :
    W p l e R s m args below meth c H locs cells slots (MQ below (xr_Post eI Qq A) args s cells slots A) (F0 m pc ls [.int v]) :=
  W.zret hx hb hr hn (fun t ht _ => ⟨⟨v, rfl, by rw [ht]; exact hq⟩, hS.F ht⟩) hS.2.2 hdg hlocks
theorem xr_lret {Qq : Int64 → Heap → Prop} {v : Int64} (hx : p.tables.exec = Jvm.exec) (hb : c.code = cc) (hr : meth.sig.returnType = some .long) (hlocks : meth.locks = false) (hS : va_S A s.heap H locs) (hq : Qq v H) (hdg : decode cc pc = .ok (.lreturn, 1)) :
    W p l e R s m args below meth c H locs cells slots (MQ below (xr_Post eL Qq A) args s cells slots A) (F0 m pc ls [.long v]) :=
  W.lret hx hb hr (fun t ht _ => ⟨⟨v, rfl, by rw [ht]; exact hq⟩, hS.F ht⟩) hS.2.2 hdg hlocks
theorem xr_vret {Qq : Unit → Heap → Prop} (hx : p.tables.exec = Jvm.exec) (hb : c.code = cc) (hr : meth.sig.returnType = none) (hlocks : meth.locks = false) (hS : va_S A s.heap H locs) (hq : Qq () H) (hdg : decode cc pc = .ok (.return_, 1)) :
    W p l e R s m args below meth c H locs cells slots (MQ below (xr_Post eV Qq A) args s cells slots A) (F0 m pc ls []) :=
  W.vret hx hb hr (fun t ht _ => ⟨⟨(), rfl, by rw [ht]; exact hq⟩, hS.F ht⟩) hS.2.2 hdg hlocks
theorem xr_aret {Qq : Value → Heap → Prop} {v : Value} {rt : FieldType} (hx : p.tables.exec = Jvm.exec) (hb : c.code = cc) (hr : meth.sig.returnType = some rt) (hrt : (∃ n, rt = .object n) ∨ ∃ t, rt = .array t) (hv : v = .null ∨ ∃ a, v = .ref a) (hlocks : meth.locks = false) (hS : va_S A s.heap H locs) (hq : Qq v H) (hdg : decode cc pc = .ok (.areturn, 1)) :
    W p l e R s m args below meth c H locs cells slots (MQ below (xr_Post eR Qq A) args s cells slots A) (F0 m pc ls [v]) :=
  W.aret hx hb hr hrt hv (fun t ht _ => ⟨⟨v, rfl, by rw [ht]; exact hq⟩, hS.F ht⟩) hS.2.2 hdg hlocks
/-- a field of a known object: where it lies, and how a new value of it looks -/
theorem xr_fld {own C : String} {T : u_T} {N ci : Nat} {Ts : List Cond} (hts : ∀ w ∈ Ts, w.before args s = true) (hin : ∀ w ∈ u_ws C T N, w ∈ Ts) (ty0 : Nat → FieldType) (hty : ∀ k, k < N → parseFieldDescriptor (T k).2.2.1 = some (ty0 k)) (hnm : ∀ a, a < N → ∀ b, b < N → a ≠ b → (T a).2.1 ≠ (T b).2.1) (hK : va_K D cl tys s) {fs : List Value} (hP : va_at D cl (a, .inr (ci, fs)) H) (hc : cl[ci]? = some (C, T, N)) (k : Nat) (hk : k < N) :
    ∃ (cf : ClassId) (kf : Class) (fi : Nat) (f : Field) (cell : Cell) (kC : Class), s.fieldFound? (T k).1 (T k).2.1 (T k).2.2.1 = some (cf, kf, fi, f) ∧ f.isStatic = false ∧ s.vm.findClass C = some (D.1 ci) ∧ s.vm.classes[D.1 ci]? = some kC ∧ kC.kind = .ordinary ∧ H[a]? = some cell ∧ cell.cls = D.1 ci ∧ cell.vm = .none ∧ f.slot < cell.slots.size ∧
      ∀ (H1 : Heap) (v : Value), H1[a]? = some (cell.setSlot f.slot v) → k < fs.length → va_at D cl (a, .inr (ci, fs.set k v)) H1 := by
  have apart := va_apart (own := own) hts hin ty0 hty hnm hK hc
  obtain ⟨r, hr, cell, g1, g2, g3, g4⟩ := hP
  cases hr.symm.trans hc
  obtain ⟨hsl, hfc, kC, hkC, hord⟩ := hK.1 ci _ hc
  obtain ⟨cf, kf, fi, f, hf, hs⟩ := hsl k hk
  have hst := (u_facts hfc hkC (u_lays hts hin hk) hf).1
  refine ⟨cf, kf, fi, f, cell, kC, hf, hst, hfc, hkC, hord, g1, g2, g3, by rw [hs]; exact k2_hasslot (g4 k hk), fun H1 v e1 hl => ⟨_, hc, ?_⟩⟩
  rw [hs] at e1
  exact t_OB.to (V := updV (vp_V fs) k v) ⟨_, e1, g2, g3, t_set g4 apart hk v⟩ (fun j _ => vp_updV_set hl v j)
/-- writes: the one cell, and what stays -/
theorem xr_put (hexec : p.tables.exec = Jvm.exec) (hb : c.code = cc) {own C : String} {T : u_T} {N ci index : Nat} {Ts : List Cond} (hts : ∀ w ∈ Ts, w.before args s = true) (hin : ∀ w ∈ u_ws C T N, w ∈ Ts) (ty0 : Nat → FieldType) (hty : ∀ k, k < N → parseFieldDescriptor (T k).2.2.1 = some (ty0 k)) (hnm : ∀ a, a < N → ∀ b, b < N → a ≠ b → (T a).2.1 ≠ (T b).2.1) (hown : s.vm.findClass own = some m.cls) (hK : va_K D cl tys s) {fs : List Value} (hP : va_at D cl (a, .inr (ci, fs)) H) (hS0 : va_S A H0 H locs) (hA : A a) (hc : cl[ci]? = some (C, T, N)) (k : Nat) (hk : k < N) (hlink : (Cond.fieldLink own index (T k).1 (T k).2.1 (T k).2.2.1).before args s = true) (hfin : (T k).2.2.2 = false) {ty : FieldType} {v : Value} (hd : parseFieldDescriptor (T k).2.2.1 = some ty) (hn : narrow ty v = v) (hfit : fits ty v = true) (hl : k < fs.length)
    (hdg : decode cc pc = .ok (.putfield index, 3)) (kk : ∀ (H1 : Heap) (locs1 : List Loc), H1.size = H.size → (∀ q : Nat, q ≠ a → H1[q]? = H[q]?) → va_at D cl (a, .inr (ci, fs.set k v)) H1 → va_S A H0 H1 locs1 → W p l e R s m args below meth c H1 locs1 cells slots Q (F0 m (pc + 3) ls rest)) : W p l e R s m args below meth c H locs cells slots Q (F0 m pc ls (v :: .ref a :: rest)) := by
  obtain ⟨cf, kf, fi, f, cell, kC, h1, h2, h3, h4, h5, h6, h7, h8, h9, h10⟩ := xr_fld (own := own) hts hin ty0 hty hnm hK hP hc k hk
  have hlay := hts _ (hin _ (u_in_lay hk))
  unfold u_lay at hlay
  rw [if_neg (by rw [hfin]; decide)] at hlay
  exact W.putK hexec hb (f := f) ⟨hown, hlink, ⟨_, _, _, h1⟩, h2⟩ (by rw [h7]; exact u_store h3 h4 h5 hlay h1 hd hn hfit) h6 h8 h9 rfl rfl hdg fun H' e1 e2 e3 => kk H' _ e2 e3 (h10 H' v e1 hl) (hS0.put e2 e3 hA)
theorem xr_putF (hexec : p.tables.exec = Jvm.exec) (hb : c.code = cc) {own C : String} {T : u_T} {N ci index : Nat} {Ts : List Cond} (hts : ∀ w ∈ Ts, w.before args s = true) (hin : ∀ w ∈ u_ws C T N, w ∈ Ts) (ty0 : Nat → FieldType) (hty : ∀ k, k < N → parseFieldDescriptor (T k).2.2.1 = some (ty0 k)) (hnm : ∀ a, a < N → ∀ b, b < N → a ≠ b → (T a).2.1 ≠ (T b).2.1) (hown : s.vm.findClass own = some m.cls) (hK : va_K D cl tys s) {fs : List Value} (hP : va_at D cl (a, .inr (ci, fs)) H) (hS0 : va_S A H0 H locs) (hA : A a) (hc : cl[ci]? = some (C, T, N)) (k : Nat) (hk : k < N) (hlink : (Cond.fieldLink own index (T k).1 (T k).2.1 (T k).2.2.1).before args s = true) (hfin : (T k).2.2.2 = true) (hin2 : meth.name = "<init>") (hdecl : (T k).1 = own) {ty : FieldType} {v : Value} (hd : parseFieldDescriptor (T k).2.2.1 = some ty) (hn : narrow ty v = v) (hfit : fits ty v = true) (hl : k < fs.length)
    (hdg : decode cc pc = .ok (.putfield index, 3)) (kk : ∀ (H1 : Heap) (locs1 : List Loc), H1.size = H.size → (∀ q : Nat, q ≠ a → H1[q]? = H[q]?) → va_at D cl (a, .inr (ci, fs.set k v)) H1 → va_S A H0 H1 locs1 → W p l e R s m args below meth c H1 locs1 cells slots Q (F0 m (pc + 3) ls rest)) : W p l e R s m args below meth c H locs cells slots Q (F0 m pc ls (v :: .ref a :: rest)) := by
  obtain ⟨cf, kf, fi, f, cell, kC, h1, h2, h3, h4, h5, h6, h7, h8, h9, h10⟩ := xr_fld (own := own) hts hin ty0 hty hnm hK hP hc k hk
  have hlay := hts _ (hin _ (u_in_lay hk))
  unfold u_lay at hlay
  rw [if_pos hfin] at hlay
  have hcf : m.cls = cf := by
    obtain ⟨_, _, c', _, _, _, -, -, hf', -, -, -, hown2, -⟩ := Cond.laysFinal_spec hlay
    have e1 : c' = cf := by have := h1.symm.trans hf'; simp at this; exact this.1.symm
    rw [hdecl] at hown2
    rw [← e1]
    exact Option.some.inj (hown.symm.trans hown2)
  exact W.putFinK hexec hb hown hlink h1 h2 hcf hin2 (by rw [h7]; exact u_fits h3 h4 h5 (Or.inr hlay) h1 hd hn hfit) h6 h8 h9 rfl rfl hdg fun H' e1 e2 e3 => kk H' _ e2 e3 (h10 H' v e1 hl) (hS0.put e2 e3 hA)
/-- arrays of ints and chars, and of references -/
def xr_ia (H : Heap) (a : Nat) (cA : ClassId) (n : Nat) (f : Nat → Int32) : Prop := H[a]? = some (vp_cell cA (n, .inl f))
def xr_qa (H : Heap) (a : Nat) (cA : ClassId) (n : Nat) (f : Nat → Option Nat) : Prop := H[a]? = some (vp_cell cA (n, .inr (.inr (.inr (.inr f)))))
theorem xr_ia.kept {H H1 : Heap} {a : Nat} {cA : ClassId} {n : Nat} {f : Nat → Int32} (h : xr_ia H a cA n f) (hq : H1[a]? = H[a]?) : xr_ia H1 a cA n f := hq.trans h
theorem xr_qa.kept {H H1 : Heap} {a : Nat} {cA : ClassId} {n : Nat} {f : Nat → Option Nat} (h : xr_qa H a cA n f) (hq : H1[a]? = H[a]?) : xr_qa H1 a cA n f := hq.trans h
theorem xr_ia.lt {H : Heap} {a : Nat} {cA : ClassId} {n : Nat} {f : Nat → Int32} (h : xr_ia H a cA n f) : a < H.size := (Array.getElem?_eq_some_iff.mp h).1
theorem xr_qa.lt {H : Heap} {a : Nat} {cA : ClassId} {n : Nat} {f : Nat → Option Nat} (h : xr_qa H a cA n f) : a < H.size := (Array.getElem?_eq_some_iff.mp h).1
theorem xr_arrV_to {cA : ClassId} {n : Nat} {f g : Nat → Value} (h : ∀ j, j < n → f j = g j) : arrV cA n f = arrV cA n g := by
  unfold arrV
  congr 1
  apply Array.ext
  · simp
  · intro j h1 h2
    simp only [Array.getElem_ofFn]
    exact h j (by simpa using h1)
theorem xr_ia.to {H : Heap} {a : Nat} {cA : ClassId} {n : Nat} {f g : Nat → Int32} (h : xr_ia H a cA n f) (hfg : ∀ j, j < n → f j = g j) : xr_ia H a cA n g := by
  unfold xr_ia at h ⊢
  rw [h, vp_cell_i, vp_cell_i]
  exact congrArg some (xr_arrV_to fun j hj => by rw [hfg j hj])
theorem xr_iald (hexec : p.tables.exec = Jvm.exec) (hb : c.code = cc) (hK : va_K D cl tys s) {cA : ClassId} {n : Nat} {f : Nat → Int32} (ha : xr_ia H a cA n f) (t0 : Nat) (ht : tys[t0]? = some (cA, .int)) {i : Int32} (hin : vp_in i n) (hdg : decode cc pc = .ok (.iaload, 1))
    (kk : W p l e R s m args below meth c H locs cells slots Q (F0 m (pc + 1) ls (.int (f i.toNatClampNeg) :: rest))) : W p l e R s m args below meth c H locs cells slots Q (F0 m pc ls (.int i :: .ref a :: rest)) :=
  va_iald (D := D) (cl := cl) (ws := [(a, .inl (cA, n, .inl f))]) hexec hb hK (xr_one ha) 0 t0 rfl ht hin hdg kk
theorem xr_cald (hexec : p.tables.exec = Jvm.exec) (hb : c.code = cc) (hK : va_K D cl tys s) {cA : ClassId} {n : Nat} {f : Nat → Int32} (ha : xr_ia H a cA n f) (t0 : Nat) (ht : tys[t0]? = some (cA, .char)) {i : Int32} (hin : vp_in i n) (hdg : decode cc pc = .ok (.caload, 1))
    (kk : W p l e R s m args below meth c H locs cells slots Q (F0 m (pc + 1) ls (.int (f i.toNatClampNeg) :: rest))) : W p l e R s m args below meth c H locs cells slots Q (F0 m pc ls (.int i :: .ref a :: rest)) :=
  va_cald (D := D) (cl := cl) (ws := [(a, .inl (cA, n, .inl f))]) hexec hb hK (xr_one ha) 0 t0 rfl ht hin hdg kk
theorem xr_aald (hexec : p.tables.exec = Jvm.exec) (hb : c.code = cc) (hK : va_K D cl tys s) {cA : ClassId} {C : String} {n : Nat} {f : Nat → Option Nat} (ha : xr_qa H a cA n f) (t0 : Nat) (ht : tys[t0]? = some (cA, .object C)) {i : Int32} {v : Nat} (hin : vp_in i n) (hv : f i.toNatClampNeg = some v) (hdg : decode cc pc = .ok (.aaload, 1))
    (kk : W p l e R s m args below meth c H locs cells slots Q (F0 m (pc + 1) ls (.ref v :: rest))) : W p l e R s m args below meth c H locs cells slots Q (F0 m pc ls (.int i :: .ref a :: rest)) := by
  refine va_aldq (D := D) (cl := cl) (ws := [(a, .inl (cA, n, .inr (.inr (.inr (.inr f)))))]) hexec hb hK (xr_one ha) 0 t0 rfl ht hin hdg ?_
  rw [hv]
  exact kk
theorem xr_alen (hexec : p.tables.exec = Jvm.exec) (hb : c.code = cc) (hK : va_K D cl tys s) {cA : ClassId} {n : Nat} {f : Nat → Int32} (ha : xr_ia H a cA n f) (t0 : Nat) {ty : FieldType} (ht : tys[t0]? = some (cA, ty)) (hdg : decode cc pc = .ok (.arraylength, 1))
    (kk : W p l e R s m args below meth c H locs cells slots Q (F0 m (pc + 1) ls (.int (nI n) :: rest))) : W p l e R s m args below meth c H locs cells slots Q (F0 m pc ls (.ref a :: rest)) :=
  va_alen (D := D) (cl := cl) (ws := [(a, .inl (cA, n, .inl f))]) hexec hb hK (xr_one ha) 0 t0 rfl ht (v := nI n) rfl hdg kk
theorem xr_qlen (hexec : p.tables.exec = Jvm.exec) (hb : c.code = cc) (hK : va_K D cl tys s) {cA : ClassId} {n : Nat} {f : Nat → Option Nat} (ha : xr_qa H a cA n f) (t0 : Nat) {ty : FieldType} (ht : tys[t0]? = some (cA, ty)) (hdg : decode cc pc = .ok (.arraylength, 1))
    (kk : W p l e R s m args below meth c H locs cells slots Q (F0 m (pc + 1) ls (.int (nI n) :: rest))) : W p l e R s m args below meth c H locs cells slots Q (F0 m pc ls (.ref a :: rest)) :=
  va_alen (D := D) (cl := cl) (ws := [(a, .inl (cA, n, .inr (.inr (.inr (.inr f)))))]) hexec hb hK (xr_one ha) 0 t0 rfl ht (v := nI n) rfl hdg kk
theorem xr_iast (hexec : p.tables.exec = Jvm.exec) (hb : c.code = cc) (hK : va_K D cl tys s) (hS : va_S A H0 H locs) (hA : A a) {cA : ClassId} {n : Nat} {f : Nat → Int32} (ha : xr_ia H a cA n f) (t0 : Nat) (ht : tys[t0]? = some (cA, .int)) {i : Int32} {x : Int32} (hin : vp_in i n) (hdg : decode cc pc = .ok (.iastore, 1))
    (kk : ∀ (H1 : Heap) (locs1 : List Loc), H1.size = H.size → (∀ q : Nat, q ≠ a → H1[q]? = H[q]?) → xr_ia H1 a cA n (upd f i.toNatClampNeg x) → va_S A H0 H1 locs1 → W p l e R s m args below meth c H1 locs1 cells slots Q (F0 m (pc + 1) ls rest)) : W p l e R s m args below meth c H locs cells slots Q (F0 m pc ls (.int x :: .int i :: .ref a :: rest)) := by
  refine W.iast hexec hb ha ((hK.2 t0 _ ht).1 n (fun j => .int (f j))) (fun q => by cases q) (by show ¬ (i < 0 ∨ (arrV _ _ _).slots.size ≤ _); rw [arrV_size]; exact hin) rfl rfl hdg fun H1 e z oq => ?_
  refine kk H1 _ z oq ?_ (hS.put z oq hA)
  show H1[a]? = some (vp_cell _ _)
  rw [e]
  rw [vp_cell_i, vp_cell_i, arrV_store]
  congr 2
  funext q
  by_cases hq : q = i.toNatClampNeg
  · subst hq
    simp [updV, upd]
  · simp [updV, upd, hq]
theorem xr_cast (hexec : p.tables.exec = Jvm.exec) (hb : c.code = cc) (hK : va_K D cl tys s) (hS : va_S A H0 H locs) (hA : A a) {cA : ClassId} {n : Nat} {f : Nat → Int32} (ha : xr_ia H a cA n f) (t0 : Nat) (ht : tys[t0]? = some (cA, .char)) {i : Int32} {x : Int32} (hin : vp_in i n) (hdg : decode cc pc = .ok (.castore, 1))
    (kk : ∀ (H1 : Heap) (locs1 : List Loc), H1.size = H.size → (∀ q : Nat, q ≠ a → H1[q]? = H[q]?) → xr_ia H1 a cA n (upd f i.toNatClampNeg (vp_nar .char x)) → va_S A H0 H1 locs1 → W p l e R s m args below meth c H1 locs1 cells slots Q (F0 m (pc + 1) ls rest)) : W p l e R s m args below meth c H locs cells slots Q (F0 m pc ls (.int x :: .int i :: .ref a :: rest)) := by
  refine W.cast hexec hb ha ((hK.2 t0 _ ht).1 n (fun j => .int (f j))) (fun q => by cases q) (by show ¬ (i < 0 ∨ (arrV _ _ _).slots.size ≤ _); rw [arrV_size]; exact hin) rfl rfl hdg fun H1 e z oq => ?_
  refine kk H1 _ z oq ?_ (hS.put z oq hA)
  show H1[a]? = some (vp_cell _ _)
  rw [e]
  rw [vp_cell_i, vp_cell_i, arrV_store]
  congr 2
  funext q
  by_cases hq : q = i.toNatClampNeg
  · subst hq
    simp [updV, upd, vp_nar]
    try rfl
  · simp [updV, upd, hq]
end XRW
section XRN
variable {p : Program} {l : Launch} {e : Env} {R : Room} {s : State} {m : MethodId} {args : Array Value} {below : List Frame} {meth : Method} {c : Code} {H : Heap} {locs : List Loc} {cells slots : Nat} {Q : State → Prop}
variable {cc : ByteArray} {pc : Nat} {ls : Array Slot} {rest : List Value} {D : va_G} {cl : List vw_C} {A : Nat → Prop} {a : Nat} {tys : List (ClassId × FieldType)} {H0 : Heap}
theorem xr_grow {H1 : Heap} (hS : va_S A H0 H locs) (z : H1.size = H.size + 1) (o : ∀ q : Nat, q < H.size → H1[q]? = H[q]?) : va_S A H0 H1 locs :=
  ⟨by rw [z]; exact Nat.le_succ_of_le hS.1, fun q h1 h2 => (o q (Nat.lt_of_lt_of_le h1 hS.1)).trans (hS.2.1 q h1 h2), hS.2.2⟩
theorem xr_new (hexec : p.tables.exec = Jvm.exec) (hb : c.code = cc) {own C : String} {T : u_T} {N ci index : Nat} {Ts : List Cond} (hts : ∀ w ∈ Ts, w.before args s = true) (hin : ∀ w ∈ u_ws C T N, w ∈ Ts) (ty : Nat → FieldType) (hty : ∀ k, k < N → parseFieldDescriptor (T k).2.2.1 = some (ty k)) (hown : s.vm.findClass own = some m.cls) (hcl : (Cond.classLink own index C).before args s = true) (hinst : (Cond.instantiable C N).before args s = true) (hini : (Cond.initialized C).before args s = true)
    (hK : va_K D cl tys s) (hS : va_S A H0 H locs) (hc : cl[ci]? = some (C, T, N)) {fs : List Value} (hfs : ∀ j, j < N → defaultValue (ty j) = vp_V fs j) (hcells : cells + 1 ≤ R.cells) (hslots : slots + N ≤ R.slots) (hdg : decode cc pc = .ok (.new index, 3))
    (kk : ∀ H1 : Heap, H1.size = H.size + 1 → (∀ q : Nat, q < H.size → H1[q]? = H[q]?) → va_at D cl (H.size, .inr (ci, fs)) H1 → va_S A H0 H1 locs → W p l e R s m args below meth c H1 locs (cells + 1) (slots + N) Q (F0 m (pc + 3) ls (.ref H.size :: rest))) : W p l e R s m args below meth c H locs cells slots Q (F0 m pc ls rest) := by
  have hKn := hK.1 ci _ hc
  refine W.newcK hexec hb hown hcl hinst hini rfl hdg hcells hslots hKn.2.1 rfl fun H1 kC hkC e1 z1 o1 => ?_
  exact kk H1 z1 o1 ⟨_, hc, (u_born ty hts hin hKn hkC e1 hty).to hfs⟩ (xr_grow hS z1 o1)
theorem xr_newa (hexec : p.tables.exec = Jvm.exec) (hb : c.code = cc) {atype : ArrayType} (harr : (Cond.arrayClass (newarray.typeOf atype)).before args s = true) {cA : ClassId} (hra : s.vm.findClass ("[" ++ (newarray.typeOf atype).toString) = some cA) (hdv : defaultValue (newarray.typeOf atype) = .int 0) (hS : va_S A H0 H locs)
    {n : Int32} {N : Nat} (hn : ¬ n < 0) (hN : n.toNatClampNeg = N) (hbytes : N * componentBytes (newarray.typeOf atype) ≤ 536870912) (hcells : cells + 1 ≤ R.cells) (hslots : slots + N ≤ R.slots) (hdg : decode cc pc = .ok (.newarray atype, 2))
    (kk : ∀ H1 : Heap, H1.size = H.size + 1 → (∀ q : Nat, q < H.size → H1[q]? = H[q]?) → xr_ia H1 H.size cA N (fun _ => 0) → va_S A H0 H1 locs → W p l e R s m args below meth c H1 locs (cells + 1) (slots + N) Q (F0 m (pc + 2) ls (.ref H.size :: rest))) : W p l e R s m args below meth c H locs cells slots Q (F0 m pc ls (.int n :: rest)) := by
  refine va_newaK hexec hb harr rfl hdg rfl hn hN hbytes hcells hslots rfl fun H1 cA' e1 z1 o1 _ hNm => ?_
  cases hNm.symm.trans hra
  refine kk H1 z1 o1 ?_ (xr_grow hS z1 o1)
  rw [hdv] at e1
  exact e1
theorem xr_newq (hexec : p.tables.exec = Jvm.exec) (hb : c.code = cc) {own C : String} {index : Nat} (hown : s.vm.findClass own = some m.cls) (hclink : (Cond.classLink own index C).before args s = true) (hover : va_AO C s) (hK : va_K D cl tys s) (t0 : Nat) {cA : ClassId} (ht : tys[t0]? = some (cA, .object C)) (hS : va_S A H0 H locs)
    {n : Int32} {N : Nat} (hn : ¬ n < 0) (hN : n.toNatClampNeg = N) (hbytes : N * 4 ≤ 536870912) (hcells : cells + 1 ≤ R.cells) (hslots : slots + N ≤ R.slots) (hdg : decode cc pc = .ok (.anewarray index, 3))
    (kk : ∀ H1 : Heap, H1.size = H.size + 1 → (∀ q : Nat, q < H.size → H1[q]? = H[q]?) → xr_qa H1 H.size cA N (fun _ => none) → va_S A H0 H1 locs → W p l e R s m args below meth c H1 locs (cells + 1) (slots + N) Q (F0 m (pc + 3) ls (.ref H.size :: rest))) : W p l e R s m args below meth c H locs cells slots Q (F0 m pc ls (.int n :: rest)) := by
  subst hN
  obtain ⟨-, -, -, -, -, hnm⟩ := (hK.2 t0 _ ht).2
  refine W.anew hexec hb hown hclink (va_AO.use hover) rfl hdg rfl hn hbytes hcells hslots fun cA' kA comp f1 f2 f3 f4 => ?_
  cases f1.symm.trans hnm
  have z1 : (H.push ({ cls := cA, slots := Array.replicate n.toNatClampNeg .null, vm := .none } : Cell)).size = H.size + 1 := Array.size_push ..
  have o1 : ∀ q : Nat, q < H.size → (H.push ({ cls := cA, slots := Array.replicate n.toNatClampNeg .null, vm := .none } : Cell))[q]? = H[q]? := fun q hq => by rw [Array.getElem?_push, if_neg (Nat.ne_of_lt hq)]
  refine kk _ z1 o1 ?_ (xr_grow hS z1 o1)
  unfold xr_qa
  rw [Array.getElem?_push_size, vp_cell_q, arrV_new]
  rfl
theorem xr_astq (hexec : p.tables.exec = Jvm.exec) (hb : c.code = cc) (hK : va_K D cl tys s) (hS : va_S A H0 H locs) (hA : A a) {cA : ClassId} {n : Nat} {f : Nat → Option Nat} (ha : xr_qa H a cA n f) (t0 : Nat) {r : vw_C} (ht : tys[t0]? = some (cA, .object r.1)) {v ci : Nat} {vs : List Value} (hv : va_at D cl (v, .inr (ci, vs)) H) (hc : cl[ci]? = some r) {i : Int32} (hin : vp_in i n) (hdg : decode cc pc = .ok (.aastore, 1))
    (kk : ∀ (H1 : Heap) (locs1 : List Loc), H1.size = H.size → (∀ q : Nat, q ≠ a → H1[q]? = H[q]?) → xr_qa H1 a cA n (va_up f i.toNatClampNeg (some v)) → va_S A H0 H1 locs1 → W p l e R s m args below meth c H1 locs1 cells slots Q (F0 m (pc + 1) ls rest)) : W p l e R s m args below meth c H locs cells slots Q (F0 m pc ls (.ref v :: .int i :: .ref a :: rest)) := by
  obtain ⟨_, _, cellV, g1, g2, g3, -⟩ := hv
  have hcls := (hK.1 ci r hc).2
  obtain ⟨kA, comp, k1, k2, k3, -⟩ := (hK.2 t0 _ ht).2
  cases k3.symm.trans hcls.1
  obtain ⟨kC, hkC, -⟩ := hcls.2
  refine W.aast hexec hb ha (fun q h => by cases h) (fun h => by cases h) k1 k2 rfl hkC ⟨fun q => hin (Or.inl q), by show _ < (arrV _ _ _).slots.size; rw [arrV_size]; exact Nat.not_le.mp fun q => hin (Or.inr q)⟩ g1 (fun q h => by rw [g3] at h; cases h) (by rw [g2]; exact hkC) (by rw [g2]; exact va_assign hcls) rfl rfl hdg fun H1 e z oq => ?_
  refine kk H1 _ z oq ?_ (hS.put z oq hA)
  unfold xr_qa
  rw [e, vp_cell_q, vp_cell_q, arrV_store]
  refine congrArg some (xr_arrV_to fun q _ => ?_)
  by_cases hq : q = i.toNatClampNeg
  · subst hq
    simp [updV, va_up, va_rf]
  · simp [updV, va_up, hq]
end XRN
section XRC
variable {p : Program} {l : Launch} {e : Env} {R : Room} {s : State} {m : MethodId} {args : Array Value} {below : List Frame} {meth : Method} {c : Code} {H : Heap} {locs : List Loc} {cells slots : Nat} {Q : State → Prop}
variable {cc : ByteArray} {pc : Nat} {ls : Array Slot} {rest st0 : List Value} {A0 A1 : Nat → Prop} {H0 : Heap} {free : Addr → Prop}
variable {α : Type} {emb : α → Option Value} {Q1 : α → Heap → Prop} {mc ms : Nat} {a : Array Value}
/-- behind a call -/
theorem xr_back (hr : va_Run p l e R s m args below meth c H locs cells slots mc ms (F0 m pc ls st0) rest (xr_Post emb Q1 A1 a) A1) (hS : va_S A0 H0 H locs) (hA : ∀ q, A1 q → A0 q)
    (kk : ∀ (r : α) (H1 : Heap) (locs1 : List Loc), Q1 r H1 → H.size ≤ H1.size → (∀ q : Nat, q < H.size → ¬ A1 q → H1[q]? = H[q]?) → va_S A0 H0 H1 locs1 → W p l e R s m args below meth c H1 locs1 (cells + mc) (slots + ms) Q (F0 m (pc + 3) ls ((emb r).toList ++ rest))) : W p l e R s m args below meth c H locs cells slots Q (F0 m pc ls st0) := by
  intro T hT X
  obtain ⟨v, st₀, t, T', L, h0, X', hL, e1, e2, ⟨⟨r, hv, hp⟩, hz, hk⟩, st⟩ := hr T hT X
  have hv' : v = emb r := Outcome.returned.inj hv
  subst hv'
  rw [h0] at hz hk
  obtain ⟨t2, a1, b1⟩ := kk r t.heap (locs ++ L) hp hz hk ⟨Nat.le_trans hS.1 hz, fun q h1 h2 => by rw [hk q (Nat.lt_of_lt_of_le h1 hS.1) (fun z => h2 (hA q z))]; exact hS.2.1 q h1 h2, fun q hq => by
      rcases List.mem_append.mp hq with h | h
      · exact hS.2.2 q h
      · exact hA _ (hL q h)⟩ T' e1 X'
  exact ⟨t2, st t2 a1, b1⟩
end XRC
section XRD
variable {p : Program} {l : Launch} {e : Env} {R : Room} {s : State} {m : MethodId} {args : Array Value} {below : List Frame} {meth : Method} {c : Code} {H : Heap} {locs : List Loc} {cells slots : Nat} {Q : State → Prop}
variable {cc bytes : ByteArray} {pc nL maxL n index : Nat} {ls : Array Slot} {rest st0 As : List Value} {A0 A1 : Nat → Prop} {H0 : Heap} {K : State → Prop} {y : MethodName} {ws Ts : List Cond} {rm : Room} {own C host : String} {b : Nat} {ret : Option FieldType}
variable {α : Type} {emb : α → Option Value} {Q1 : α → Heap → Prop}
theorem xr_V (S : CallFix p m c cc nL s args Ts own) (hko : xr_ok K) (hK : K s) (hM : Ctr l K y ws rm (.ref b :: As) H emb Q1 A1) (cw : CallW R s args own C index y bytes maxL ret ws rm rm.cells rm.slots n) (hrec : ∃ cell : Cell, H[b]? = some cell ∧ cell.vm.isStatics = false ∧ s.vm.findClass C = some cell.cls) (hn : As.length = n) (hsize : ls.size = nL) (hst : st0 = As.reverse ++ .ref b :: rest) (hW : (rest.map fun v => v.category).sum ≤ 8) (hdg : decode cc pc = .ok (.invokevirtual index, 3)) (hf : cells + rm.cells ≤ R.cells ∧ slots + rm.slots ≤ R.slots) (hS : va_S A0 H0 H locs) (hA : ∀ q, A1 q → A0 q)
    (kk : ∀ (r : α) (H1 : Heap) (locs1 : List Loc), Q1 r H1 → H.size ≤ H1.size → (∀ q : Nat, q < H.size → ¬ A1 q → H1[q]? = H[q]?) → va_S A0 H0 H1 locs1 → W p l e R s m args below meth c H1 locs1 (cells + rm.cells) (slots + rm.slots) Q (F0 m (pc + 3) ls ((emb r).toList ++ rest))) : W p l e R s m args below meth c H locs cells slots Q (F0 m pc ls st0) :=
  xr_back (va_runV (g := F0 m pc ls st0) S hM cw ⟨xr_blind hko _ _, hrec, fun U hU hW => ⟨rfl, hU, hko.1 s U hW hK⟩⟩ rfl hn hsize hst (lv_room hW) hdg hf) hS hA kk
theorem xr_S (S : CallFix p m c cc nL s args Ts own) (hko : xr_ok K) (hK : K s) (hM : Ctr l K y ws rm As H emb Q1 A1) (cw : CallB R s args own index y bytes maxL ret ws rm rm.cells rm.slots n ∧ (Cond.static y).before args s = true) (hn : As.length = n) (hsize : ls.size = nL) (hst : st0 = As.reverse ++ rest) (hW : (rest.map fun v => v.category).sum ≤ 8) (hdg : decode cc pc = .ok (.invokestatic index, 3)) (hf : cells + rm.cells ≤ R.cells ∧ slots + rm.slots ≤ R.slots) (hS : va_S A0 H0 H locs) (hA : ∀ q, A1 q → A0 q)
    (kk : ∀ (r : α) (H1 : Heap) (locs1 : List Loc), Q1 r H1 → H.size ≤ H1.size → (∀ q : Nat, q < H.size → ¬ A1 q → H1[q]? = H[q]?) → va_S A0 H0 H1 locs1 → W p l e R s m args below meth c H1 locs1 (cells + rm.cells) (slots + rm.slots) Q (F0 m (pc + 3) ls ((emb r).toList ++ rest))) : W p l e R s m args below meth c H locs cells slots Q (F0 m pc ls st0) :=
  xr_back (va_runS (g := F0 m pc ls st0) S hM cw ⟨xr_blind hko _ _, fun U hU hW => ⟨rfl, hU, hko.1 s U hW hK⟩⟩ rfl hn hsize hst (lv_room hW) hdg hf) hS hA kk
theorem xr_SN (S : CallFix p m c cc nL s args Ts own) (hko : xr_ok K) (hK : K s) (hM : Ctr l K y ws rm As H emb Q1 A1) (cw : va_CN R s args own index y host bytes maxL ret ws rm rm.cells rm.slots n ∧ (Cond.static y).before args s = true ∧ True) (hn : As.length = n) (hsize : ls.size = nL) (hst : st0 = As.reverse ++ rest) (hW : (rest.map fun v => v.category).sum ≤ 8) (hdg : decode cc pc = .ok (.invokestatic index, 3)) (hf : cells + rm.cells ≤ R.cells ∧ slots + rm.slots ≤ R.slots) (hS : va_S A0 H0 H locs) (hA : ∀ q, A1 q → A0 q)
    (kk : ∀ (r : α) (H1 : Heap) (locs1 : List Loc), Q1 r H1 → H.size ≤ H1.size → (∀ q : Nat, q < H.size → ¬ A1 q → H1[q]? = H[q]?) → va_S A0 H0 H1 locs1 → W p l e R s m args below meth c H1 locs1 (cells + rm.cells) (slots + rm.slots) Q (F0 m (pc + 3) ls ((emb r).toList ++ rest))) : W p l e R s m args below meth c H locs cells slots Q (F0 m pc ls st0) :=
  xr_back (va_runSN (g := F0 m pc ls st0) S hM cw ⟨xr_blind hko _ _, fun U hU hW => ⟨rfl, hU, hko.1 s U hW hK⟩⟩ rfl hn hsize hst (lv_room hW) hdg hf) hS hA kk
theorem xr_I (S : CallFix p m c cc nL s args Ts own) (hko : xr_ok K) (hK : K s) (hM : Ctr l K y ws rm (.ref b :: As) H emb Q1 A1) (cw : CallB R s args own index y bytes maxL none ws rm rm.cells rm.slots n ∧ y.name = "<init>" ∧ (Cond.instanceMethod y).before args s = true) (hn : As.length = n) (hsize : ls.size = nL) (hst : st0 = As.reverse ++ .ref b :: rest) (hW : (rest.map fun v => v.category).sum ≤ 8) (hdg : decode cc pc = .ok (.invokespecial index, 3)) (hf : cells + rm.cells ≤ R.cells ∧ slots + rm.slots ≤ R.slots) (hS : va_S A0 H0 H locs) (hA : ∀ q, A1 q → A0 q)
    (kk : ∀ (r : α) (H1 : Heap) (locs1 : List Loc), Q1 r H1 → H.size ≤ H1.size → (∀ q : Nat, q < H.size → ¬ A1 q → H1[q]? = H[q]?) → va_S A0 H0 H1 locs1 → W p l e R s m args below meth c H1 locs1 (cells + rm.cells) (slots + rm.slots) Q (F0 m (pc + 3) ls ((emb r).toList ++ rest))) : W p l e R s m args below meth c H locs cells slots Q (F0 m pc ls st0) :=
  xr_back (va_runI (g := F0 m pc ls st0) S hM cw ⟨xr_blind hko _ _, fun U hU hW => ⟨rfl, hU, hko.1 s U hW hK⟩⟩ rfl hn hsize hst (lv_room hW) hdg hf) hS hA kk
end XRD
