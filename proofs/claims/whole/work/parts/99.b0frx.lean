/-! contracts of methods that may throw -/
abbrev kx_E : String := "java/lang/IllegalArgumentException"
abbrev kx_n : List String := ["java/lang/RuntimeException", "java/lang/Exception"]
def kx_d : List MethodName := [⟨"java/lang/RuntimeException", "<init>", "(Ljava/lang/String;)V"⟩, ⟨"java/lang/Exception", "<init>", "(Ljava/lang/String;)V"⟩, ⟨"java/lang/Throwable", "<init>", "(Ljava/lang/String;)V"⟩]
def kx_w : List Cond := kx_d.map Cond.declares ++ [Cond.castable kx_E kx_E]
abbrev kx_r : String := "step is not 1 .. 100000, or most not 0 .. 100"
abbrev kx_p : String := "m is not 1 .. 4"
def KX (A : Nat → Prop) (H : Heap) (sa sb : Nat) (U : State) : Prop := vk_R RX6 97 kx_r sa U ∧ vk_R RX6 161 kx_p sb U ∧ ((∀ y ∈ kx_d, va_Nw (.declares y) U) ∧ va_Nw (.castable kx_E kx_E) U) ∧ vx_Zq Bundle.tN "UNASSIGNED_STACK" Bundle.steD A U H ∧ vx_Zq Bundle.tN "SUPPRESSED_SENTINEL" Bundle.listD A U H
def KKX (g : WG) (A : Nat → Prop) (H : Heap) (sa sb : Nat) (U : State) : Prop := KK g U ∧ KX A H sa sb U
theorem KX.warm {A : Nat → Prop} {H : Heap} {sa sb : Nat} {u U : State} (hW : u.WarmedH U.vm) (h : KX A H sa sb u) : KX A H sa sb U :=
  ⟨h.1.warm hW, h.2.1.warm hW, ⟨fun y hy => va_Nw.warmD hW (h.2.2.1.1 y hy), va_Nw.warmC hW h.2.2.1.2⟩, h.2.2.2.1.moved hW.alike, h.2.2.2.2.moved hW.alike⟩
theorem KX.same {A : Nat → Prop} {H : Heap} {sa sb : Nat} {u U : State} (hv : u.vm = U.vm) (h : KX A H sa sb u) : KX A H sa sb U :=
  ⟨h.1.same hv.symm, h.2.1.same hv.symm, ⟨fun y hy => va_Nw.same rfl hv (h.2.2.1.1 y hy), va_Nw.same rfl hv h.2.2.1.2⟩, h.2.2.2.1.moved (by rw [hv]; exact Vm.Alike.refl _), h.2.2.2.2.moved (by rw [hv]; exact Vm.Alike.refl _)⟩
theorem KX.kept {A : Nat → Prop} {H H1 : Heap} {sa sb : Nat} {U : State} (h : KX A H sa sb U) (hq : ∀ a : Nat, a < H.size → ¬ A a → H1[a]? = H[a]?) : KX A H1 sa sb U := ⟨h.1, h.2.1, h.2.2.1, h.2.2.2.1.kept hq, h.2.2.2.2.kept hq⟩
theorem KX.narrow {A B : Nat → Prop} {H : Heap} {sa sb : Nat} {U : State} (h : KX A H sa sb U) (hAB : ∀ q, B q → A q) : KX B H sa sb U := ⟨h.1, h.2.1, h.2.2.1, h.2.2.2.1.narrow hAB, h.2.2.2.2.narrow hAB⟩
theorem KX.words {A : Nat → Prop} {H : Heap} {sa sb : Nat} {U : State} (h : KX A H sa sb U) {B : Array Value} : ∀ w ∈ kx_w, w.before B U = true := fun w hw => by
  rcases List.mem_append.mp hw with q | q
  · obtain ⟨y, hy, rfl⟩ := List.mem_map.mp q
    exact va_Nw.use rfl (h.2.2.1.1 y hy)
  · rw [List.mem_singleton.mp q]
    exact va_Nw.use rfl h.2.2.1.2
theorem KKX_ok (g : WG) (A : Nat → Prop) (H : Heap) (sa sb : Nat) : xr_ok (KKX g A H sa sb) := ⟨fun u U hW h => ⟨(KK_ok g).1 u U hW h.1, h.2.warm hW⟩, fun u U hv h => ⟨(KK_ok g).2 u U hv h.1, h.2.same hv⟩⟩
/-- what is known where it throws: why, and that nothing was changed -/
def xr_XC (T : Prop) : String → State → State → Prop := fun E st t => E = kx_E ∧ T ∧ va_F (fun _ => False) st t
def CtrX (l : Launch) (K : State → Prop) (y : MethodName) (ws : List Cond) (rm : Room) (av : List Value) (H0 : Heap) {α : Type} (emb : α → Option Value) (Q : α → Heap → Prop) (A : Nat → Prop) (T : Prop) : Prop :=
  vx_Met l y ws rm (xr_Pre K av H0) (xr_Post emb Q A) (xr_XC T) rm.cells rm.slots A
section XRX
variable {l : Launch} {K : State → Prop} {y : MethodName} {ws ws' : List Cond} {rm : Room} {av : List Value} {H0 : Heap} {α : Type} {emb : α → Option Value} {Q : α → Heap → Prop} {A : Nat → Prop} {T : Prop} {cc : ByteArray} {maxL : Nat} {ret : Option FieldType}
theorem xr_enterX (hy : plainName y.cls = true) (hw : ws = Cond.code y cc maxL ret :: ws') (hlen : (lg_sl av).length ≤ maxL)
    (body : ∀ (p : Program) (e : Env) (s : State) (m : MethodId) (below : List Frame) (meth : Method) (c : Code), p.tables.exec = Jvm.exec → c.code = cc → meth.sig.returnType = ret → c.maxLocals = maxL → (∀ w ∈ ws, w.before av.toArray s = true) → s.vm.findClass y.cls = some m.cls → meth.locks = false → meth.name = y.name → s.heap = H0 → K s → (∀ x ∈ c.exceptionTable.toList, False) →
      ∀ ls : Array Slot, lv_has ls maxL (lv_args 0 av) → W p l e rm s m av.toArray below meth c s.heap [] 0 0 (vx_MQ below (xr_Post emb Q A) (xr_XC T) av.toArray s rm.cells rm.slots A) (F0 m 0 ls [])) : CtrX l K y ws rm av H0 emb Q A T := by
  refine vx_ofW (cc := cc) (maxL := maxL) (ret := ret) hy hw ?_
  intro p e s m args below meth c s₁ B hml hout hv
  obtain ⟨rfl, hH, hK⟩ := hv
  have hl := lv_entry av (n := maxL) hlen
  have h := body p e s m below meth c B.exec B.bytes B.returns hml (atoms_spec (ws := ws) B.pre) (findClass_of_methodNamed B.named) B.notSynchronized (name_of_methodNamed B.named B.method).1 hH hK hout _ hl
  rw [lg_entry_eq]
  exact h
end XRX
