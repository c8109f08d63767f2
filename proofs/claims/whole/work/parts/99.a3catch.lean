/-! caught by a table of one row -/
section XMC
variable {p : Program} {l : Launch} {e : Env} {R : Room} {s : State} {m : MethodId} {args : Array Value} {below : List Frame} {meth : Method} {c : Code} {H : Heap} {locs : List Loc} {cells slots : Nat} {Q : State → Prop}
theorem mx_find {vm' : Vm} {T : State} {f : JFrame} {a : Addr} {x : ExceptionTableEntry} {cT : ClassId} {cell : Cell} (hm : T.vm.method? f.method = some meth) (hc : meth.code = some c) (htab : c.exceptionTable.toList = [x]) (hx : covers x f.pc = true) (h0 : x.catchType ≠ 0) (hl : T.vm.ClassLinks e.platform f.method.cls x.catchType cT) (hcell : T.heap[a]? = some cell) (hv : cell.vm = .none)
    (hk : ∃ k, T.vm.classes[cell.cls]? = some k) (hcl : ∃ k, T.vm.classes[cT]? = some k) (hfit : T.vm.assignable cell.cls cT = true) (hvm : vm' = T.vm.noted f.method.cls x.catchType (.cls cT)) (Q : Handler → Pre) (E : CtlPost) (d : Bool) (acts : List Action) : wp (findHandler f a) Q E e d acts T ↔ Q (.found x.handlerPc) d acts (T.setVm vm') := by
  subst hvm
  have hcov : x.startPc ≤ f.pc ∧ f.pc < x.endPc := by
    have h := hx
    simp only [covers, Bool.and_eq_true, decide_eq_true_eq] at h
    exact h
  have hG := (resolveClass_links e.toSetting hl).op (op := VmOp.resolveClass f.method.cls x.catchType) rfl
  have hA : T.vm.Alike (T.vm.noted f.method.cls x.catchType (.cls cT)) := (Vm.Alike.refl T.vm).noted _ _ _
  obtain ⟨k1, hk1⟩ := hk
  obtain ⟨k2, hk2⟩ := hcl
  obtain ⟨k3, hk3, -⟩ := hA.2.2 _ _ hk1
  obtain ⟨k4, hk4, -⟩ := hA.2.2 _ _ hk2
  have hfit2 : (T.vm.noted f.method.cls x.catchType (.cls cT)).assignable cell.cls cT = true := by rw [hA.assignable]; exact hfit
  have hobj : ∀ k, cell.vm ≠ .statics k := fun k q => by rw [hv] at q; cases q
  rw [W.findHandler_eq hm hc, htab]
  simp [findHandler.go, hcov.1, hcov.2, h0, hG.1, hG.2, hcell, hobj, hk3, hk4, hfit2, VmOp.dirties, VmOp.acts]
end XMC
