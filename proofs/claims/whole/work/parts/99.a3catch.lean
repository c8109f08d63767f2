/-! caught by a table of one row -/
section XMC
variable {p : Program} {l : Launch} {e : Env} {R : Room} {s : State} {m : MethodId} {args : Array Value} {below : List Frame} {meth : Method} {c : Code} {H : Heap} {locs : List Loc} {cells slots : Nat} {Q : State → Prop}
theorem mx_find {vm' : Vm} {T : State} {f : JFrame} {a : Addr} {x : ExceptionTableEntry} {cT : ClassId} {cell : Cell} (hm : T.vm.method? f.method = some meth) (hc : meth.code = some c) (htab : c.exceptionTable.toList = [x]) (hx : covers x f.pc = true) (h0 : x.catchType ≠ 0) (hl : T.vm.ClassLinks e.platform f.method.cls x.catchType cT) (hcell : T.heap[a]? = some cell) (hv : cell.vm = .none)
    (hk : ∃ k, T.vm.classes[cell.cls]? = some k) (hcl : ∃ k, T.vm.classes[cT]? = some k) (hfit : T.vm.assignable cell.cls cT = true) (hvm : vm' = T.vm.noted f.method.cls x.catchType (.cls cT)) (Q : Handler → Pre) (E : CtlPost) (d : Bool) (acts : List Action) : wp (findHandler f a) Q E e d acts T ↔ Q (.found x.handlerPc) d acts (T.setVm vm') := by
  subst hvm
  have hcov : x.startPc ≤ f.pc ∧ f.pc < x.endPc := by
    have h := hx
    simp only [covers, Bool.and_eq_true, decide_eq_true_eq] at h
    exact h
  have hG := (resolveClass_links e.toSetting hl).op (op := VmOp.resolveClass f.method.cls x.catchType) rfl
  have hA : T.vm.Alike (T.vm.noted f.method.cls x.catchType (.cls cT)) := (Vm.Alike.refl T.vm).noted _ _ _
  obtain ⟨k1, hk1⟩ := hk
  obtain ⟨k2, hk2⟩ := hcl
  obtain ⟨k3, hk3, -⟩ := hA.2.2 _ _ hk1
  obtain ⟨k4, hk4, -⟩ := hA.2.2 _ _ hk2
  have hfit2 : (T.vm.noted f.method.cls x.catchType (.cls cT)).assignable cell.cls cT = true := by rw [hA.assignable]; exact hfit
  have hobj : ∀ k, cell.vm ≠ .statics k := fun k q => by rw [hv] at q; cases q
  rw [W.findHandler_eq hm hc, htab]
  simp [findHandler.go, hcov.1, hcov.2, h0, hG.1, hG.2, hcell, hobj, hk3, hk4, hfit2, VmOp.dirties, VmOp.acts]
theorem mx_catch {own name E : String} {ce : Cell} {q : Addr} {pc : Nat} {ls : Array Slot} {rest : List Value} {x : ExceptionTableEntry} (hown : s.vm.findClass own = some m.cls) (htab : c.exceptionTable.toList = [x]) (hx : covers x pc = true) (h0 : x.catchType ≠ 0) (hlink : (Cond.classLink own x.catchType name).before args s = true) (hcast : (Cond.castable E name).before args s = true) (hcell : H[q]? = some ce) (hv : ce.vm = .none) (hcl : s.vm.findClass E = some ce.cls)
    (kk : W p l e R s m args below meth c H locs cells slots Q (F0 m x.handlerPc ls [.ref q])) : vx_W p l e R s m args below meth c H locs cells slots Q (F0 m pc ls rest) q := by
  intro T hT X
  have hpl : e.platform.magicAccessors = ({} : Platform).magicAccessors := by rw [X.admits.platform]
  obtain ⟨c3, c4, hc3, hc4, hasg⟩ := Cond.castable_spec hcast
  cases Option.some.inj (hc3.symm.trans hcl)
  obtain ⟨c5, hc5, hcl5⟩ := Cond.classLink_spec hown hlink e.platform hpl
  cases Option.some.inj (hc4.symm.trans hc5)
  obtain ⟨dk, _, _, kt, hd, _, _, _, _, hkt, _, hopen⟩ := hcl5.here
  have hA := X.warmed.alike
  obtain ⟨kt2, hkt2, -⟩ := hA.2.2 _ _ hkt
  obtain ⟨k9, h9, -⟩ := Vm.findClass_spec hcl
  obtain ⟨k8, h8, -⟩ := hA.2.2 _ _ h9
  have hW : s.WarmedH (T.vm.noted m.cls x.catchType (.cls c4)) := X.warmed.noted hd hopen (State.rightAt_cls hcl5)
  have hfit : T.vm.assignable ce.cls c4 = true := by rw [hA.assignable]; exact hasg
  obtain ⟨t, a1, b1⟩ := kk (T.setVm (T.vm.noted m.cls x.catchType (.cls c4))) hT (X.noted hW)
  refine ⟨t, ?_, b1⟩
  have hat : At T (F0 m pc ls rest).method c below := X.here
  obtain ⟨hgo, hw⟩ := hat.throwing q
  refine Steps.head hgo hw ?_
  have hfind := mx_find (e := e) (c := c) (meth := meth) (T := (T.setTop (F0 m pc ls rest)).pushFrame (.throwing q)) (f := F0 m pc ls rest) (a := q) (x := x) (cT := c4) (cell := ce) (by rw [Stand.throwing_vm]; exact X.method') X.code htab hx h0 (by rw [Stand.throwing_vm]; exact X.warmed.classLinks hcl5) (by rw [Stand.throwing_heap, hT]; exact hcell) hv (by rw [Stand.throwing_vm]; exact ⟨k8, h8⟩) (by rw [Stand.throwing_vm]; exact ⟨kt2, hkt2⟩) (by rw [Stand.throwing_vm]; exact hfit) (by rw [Stand.throwing_vm])
  have hstep : ∀ r : List Frame, (stepThrowing e ((T.setTop (F0 m pc ls rest)).pushFrame (.throwing q)) q (.java (F0 m pc ls rest) :: r)).1 = (((T.setTop (F0 m pc ls rest)).pushFrame (.throwing q)).setVm (T.vm.noted m.cls x.catchType (.cls c4))).setFrames (.java (F0 m x.handlerPc ls [.ref q]) :: r) := fun r => by
    simp only [stepThrowing, searchFrame, vmDo]
    generalize hr : Sem.go _ e false [] ((T.setTop (F0 m pc ls rest)).pushFrame (.throwing q)) = res
    obtain ⟨as, rfl, -⟩ := Sem.eq_ok_of hr (a := Handler.found x.handlerPc) (s' := ((T.setTop (F0 m pc ls rest)).pushFrame (.throwing q)).setVm (T.vm.noted m.cls x.catchType (.cls c4))) (acts' := []) (by simp [hfind])
    rfl
  rw [stepThread_throwing (frames_entered hat.top _), hstep]
  obtain ⟨g0, hg0⟩ := Option.isSome_iff_exists.mp hat.top
  obtain ⟨r, hr⟩ := State.topJava?_eq_some.mp hg0
  have e1 : (((T.setTop (F0 m pc ls rest)).pushFrame (.throwing q)).setVm (T.vm.noted m.cls x.catchType (.cls c4))).setFrames (.java (F0 m x.handlerPc ls [.ref q]) :: T.frames.tail) = (T.setVm (T.vm.noted m.cls x.catchType (.cls c4))).setTop (F0 m x.handlerPc ls [.ref q]) := by
    have hr2 : (T.setVm (T.vm.noted m.cls x.catchType (.cls c4))).frames = .java g0 :: r := hr
    rw [State.setTop_of_frames _ hr2, State.pushFrame, State.setTop_of_frames _ hr, hr, List.tail_cons, State.setFrames_setFrames]
    show ((T.setVm (T.vm.noted m.cls x.catchType (.cls c4))).setFrames _).setFrames _ = _
    rw [State.setFrames_setFrames]
  rw [e1]
  exact a1
end XMC
