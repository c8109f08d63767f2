/-! the world as the law finds it -/
theorem ini_arr {args : Array Value} {s : State} {ty : FieldType} (h : (Cond.arrayClass ty).before args s = true) : ∃ cA : ClassId, ArrOfT s cA ty ∧ s.vm.findClass ("[" ++ ty.toString) = some cA := by
  obtain ⟨cA, kA, comp, h1, h2, h3⟩ := Cond.arrayClass_spec h
  exact ⟨cA, fun n z => ⟨fun k h => (by cases h), kA, h2, comp, h3⟩, h1⟩
theorem ini_obj {args : Array Value} {s : State} {C : String} (h : (Cond.arrayOver (.object C)).before args s = true) : ∃ cA : ClassId, ArrOfT s cA (.object C) ∧ va_RA s cA (.object C) := by
  obtain ⟨comp, cA, kA, h1, h2, h3, h4, h5⟩ := Cond.arrayOver_spec h
  exact ⟨cA, fun n z => ⟨fun k h => (by cases h), kA, h3, comp, h4⟩, kA, comp, h3, h4, h1, h5⟩
set_option maxRecDepth 20000 in
theorem ini_primes {args : Array Value} {s : State} (hts0 : ∀ w ∈ lw_tbl, w.before args s = true) (hgv : (Jvm.Cond.and given_1 narrow_1).before args s = true) : ∃ (a0 sl t : Nat) (c0 c1 : Cell), xr_Z RX2 "PRIMES" "[I" a0 sl s ∧ s.isArrayOf c1 .int ∧ s.heap[a0]? = some c0 ∧ s.heap[t]? = some c1 ∧ c0.vm.isStatics = true ∧ c0.slots[sl]? = some (.ref t) ∧ c1.vm ≠ .unknown ∧ c1.slots.size.toInt32 = nI 15 ∧ 15 ≤ c1.slots.size ∧ ∀ j, j < 15 → c1.slots[j]? = some (.int (nI (pr15 j))) := by
  have hf := flat_of_before _ hgv
  have hel : ∀ j : Nat, j < 15 → (Term.elem (Term.static RX2 "PRIMES" "[I") (.int (Int32.ofNat j))).eval args s none [] s = some (.int (nI (pr15 j))) := by
    intro j hj
    rcases (show j = 0 ∨ j = 1 ∨ j = 2 ∨ j = 3 ∨ j = 4 ∨ j = 5 ∨ j = 6 ∨ j = 7 ∨ j = 8 ∨ j = 9 ∨ j = 10 ∨ j = 11 ∨ j = 12 ∨ j = 13 ∨ j = 14 by omega) with rfl | rfl | rfl | rfl | rfl | rfl | rfl | rfl | rfl | rfl | rfl | rfl | rfl | rfl | rfl
    · exact va_eqt (z := 2) (hf (Cond.eq (Term.elem (Term.static RX2 "PRIMES" "[I") (.int 0)) (.int 2)) (List.mem_of_getElem? (i := 7) (by decide +kernel)))
    · exact va_eqt (z := 3) (hf (Cond.eq (Term.elem (Term.static RX2 "PRIMES" "[I") (.int 1)) (.int 3)) (List.mem_of_getElem? (i := 8) (by decide +kernel)))
    · exact va_eqt (z := 5) (hf (Cond.eq (Term.elem (Term.static RX2 "PRIMES" "[I") (.int 2)) (.int 5)) (List.mem_of_getElem? (i := 9) (by decide +kernel)))
    · exact va_eqt (z := 7) (hf (Cond.eq (Term.elem (Term.static RX2 "PRIMES" "[I") (.int 3)) (.int 7)) (List.mem_of_getElem? (i := 10) (by decide +kernel)))
    · exact va_eqt (z := 11) (hf (Cond.eq (Term.elem (Term.static RX2 "PRIMES" "[I") (.int 4)) (.int 11)) (List.mem_of_getElem? (i := 11) (by decide +kernel)))
    · exact va_eqt (z := 13) (hf (Cond.eq (Term.elem (Term.static RX2 "PRIMES" "[I") (.int 5)) (.int 13)) (List.mem_of_getElem? (i := 12) (by decide +kernel)))
    · exact va_eqt (z := 17) (hf (Cond.eq (Term.elem (Term.static RX2 "PRIMES" "[I") (.int 6)) (.int 17)) (List.mem_of_getElem? (i := 13) (by decide +kernel)))
    · exact va_eqt (z := 19) (hf (Cond.eq (Term.elem (Term.static RX2 "PRIMES" "[I") (.int 7)) (.int 19)) (List.mem_of_getElem? (i := 14) (by decide +kernel)))
    · exact va_eqt (z := 23) (hf (Cond.eq (Term.elem (Term.static RX2 "PRIMES" "[I") (.int 8)) (.int 23)) (List.mem_of_getElem? (i := 15) (by decide +kernel)))
    · exact va_eqt (z := 29) (hf (Cond.eq (Term.elem (Term.static RX2 "PRIMES" "[I") (.int 9)) (.int 29)) (List.mem_of_getElem? (i := 16) (by decide +kernel)))
    · exact va_eqt (z := 31) (hf (Cond.eq (Term.elem (Term.static RX2 "PRIMES" "[I") (.int 10)) (.int 31)) (List.mem_of_getElem? (i := 17) (by decide +kernel)))
    · exact va_eqt (z := 37) (hf (Cond.eq (Term.elem (Term.static RX2 "PRIMES" "[I") (.int 11)) (.int 37)) (List.mem_of_getElem? (i := 18) (by decide +kernel)))
    · exact va_eqt (z := 41) (hf (Cond.eq (Term.elem (Term.static RX2 "PRIMES" "[I") (.int 12)) (.int 41)) (List.mem_of_getElem? (i := 19) (by decide +kernel)))
    · exact va_eqt (z := 43) (hf (Cond.eq (Term.elem (Term.static RX2 "PRIMES" "[I") (.int 13)) (.int 43)) (List.mem_of_getElem? (i := 20) (by decide +kernel)))
    · exact va_eqt (z := 47) (hf (Cond.eq (Term.elem (Term.static RX2 "PRIMES" "[I") (.int 14)) (.int 47)) (List.mem_of_getElem? (i := 21) (by decide +kernel)))
  obtain ⟨t, ht, c1, h1, h2, h3, h4, h5, h6, -⟩ := va_Tof (tm := (Term.static RX2 "PRIMES" "[I")) (ty := .int) (N := 15) (f := fun j => .int (nI (pr15 j))) (A := fun _ => False) (by decide) (hf (Cond.arrayOf (Term.static RX2 "PRIMES" "[I") .int) (List.mem_of_getElem? (i := 5) (by decide +kernel))) (va_eqt (z := 15) (hf (Cond.eq (Term.length (Term.static RX2 "PRIMES" "[I")) (.int 15)) (List.mem_of_getElem? (i := 6) (by decide +kernel)))) hel (fun _ _ h => h)
  obtain ⟨cf, kf, fi, f, a0, c0, k1, k2, k3, k4, k5, k6, k7, -⟩ := va_Zof (A := fun _ => False) (hts0 (.laysStatic RX2 "PRIMES" "[I") (List.mem_of_getElem? (i := 452) (by decide +kernel))) (hts0 (.initialized RX2) (List.mem_of_getElem? (i := 47) (by decide +kernel))) ht (fun _ _ h => h)
  exact ⟨a0, f.slot, t, c0, c1, ⟨cf, kf, fi, f, k1, k2, k3, k4, rfl⟩, h2, k5, h1, k6, k7, h3, h5, h4, h6⟩
theorem ini_nest : ∀ q ∈ kk_nest, Cond.methodLinkNest q.1 q.2.1 q.2.2 "SharesDesk" ∈ lw_tbl := by
  intro q hq
  have h : ∀ w ∈ kk_nest.map (fun q => Cond.methodLinkNest q.1 q.2.1 q.2.2 "SharesDesk"), w ∈ lw_tbl := mem_ix [99, 123, 126, 72, 157, 161, 105, 166, 131, 276, 293] (by decide +kernel)
  exact h _ (List.mem_map.mpr ⟨q, hq, rfl⟩)
theorem ini_kxw : ∀ w ∈ kx_w, w ∈ lw_tbl := mem_ix [561, 563, 565, 559] (by decide +kernel)
set_option maxRecDepth 20000 in
theorem lw_world {args : Array Value} {s : State} (hts0 : ∀ w ∈ lw_tbl, w.before args s = true) (hgv : (Jvm.Cond.and given_1 narrow_1).before args s = true) : ∃ (g : WG) (sa sb : Nat), KK g s ∧ PrimesAt g s.heap ∧ g.2.2.1.1 < s.heap.size ∧ g.2.2.2.2.1 < s.heap.size ∧ KX (fun q => s.heap.size ≤ q) s.heap sa sb s := by
  have hf := flat_of_before _ hgv
  obtain ⟨c0, i0, hKn0⟩ := u_known (C := RX0) (T := TX0) (N := 1) (n := 1) hts0 ml_wsX00 (hts0 (.instantiable RX0 1) (List.mem_of_getElem? (i := 104) (by decide +kernel)))
  obtain ⟨c1, i1, hKn1⟩ := u_known (C := RX1) (T := TX1) (N := 16) (n := 16) hts0 ml_wsX10 (hts0 (.instantiable RX1 16) (List.mem_of_getElem? (i := 151) (by decide +kernel)))
  obtain ⟨c2, i2, hKn2⟩ := u_known (C := RX2) (T := TX2) (N := 2) (n := 2) hts0 ml_wsX20 (hts0 (.instantiable RX2 2) (List.mem_of_getElem? (i := 98) (by decide +kernel)))
  obtain ⟨c3, i3, hKn3⟩ := u_known (C := RX3) (T := TX3) (N := 4) (n := 4) hts0 ml_wsX30 (hts0 (.instantiable RX3 4) (List.mem_of_getElem? (i := 160) (by decide +kernel)))
  obtain ⟨c4, i4, hKn4⟩ := u_known (C := RX4) (T := TX4) (N := 5) (n := 5) hts0 ml_wsX40 (hts0 (.instantiable RX4 5) (List.mem_of_getElem? (i := 125) (by decide +kernel)))
  obtain ⟨c5, i5, hKn5⟩ := u_known (C := RX5) (T := TX5) (N := 4) (n := 4) hts0 ml_wsX50 (hts0 (.instantiable RX5 4) (List.mem_of_getElem? (i := 71) (by decide +kernel)))
  obtain ⟨c6, i6, hKn6⟩ := u_known (C := RX6) (T := TX6) (N := 7) (n := 7) hts0 ml_wsX60 (hts0 (.instantiable RX6 7) (List.mem_of_getElem? (i := 63) (by decide +kernel)))
  obtain ⟨c7, i7, hKn7⟩ := u_known (C := RX7) (T := TX7) (N := 18) (n := 18) hts0 ml_wsX70 (hts0 (.instantiable RX7 18) (List.mem_of_getElem? (i := 655) (by decide +kernel)))
  obtain ⟨dC, dI, hKc⟩ : ∃ (dC : Nat → ClassId) (dI : Nat → Nat → Nat), ∀ (k : Nat) (q : vw_C), vwCl[k]? = some q → u_Kn s q.1 q.2.1 q.2.2 (dC k) (dI k) := by
    refine ⟨fun k => if k = 0 then c0 else if k = 1 then c1 else if k = 2 then c2 else if k = 3 then c3 else if k = 4 then c4 else if k = 5 then c5 else if k = 6 then c6 else c7, fun k => if k = 0 then i0 else if k = 1 then i1 else if k = 2 then i2 else if k = 3 then i3 else if k = 4 then i4 else if k = 5 then i5 else if k = 6 then i6 else i7, ?_⟩
    intro k q hq
    match k, hq with
    | 0, hq => cases hq; exact hKn0
    | 1, hq => cases hq; exact hKn1
    | 2, hq => cases hq; exact hKn2
    | 3, hq => cases hq; exact hKn3
    | 4, hq => cases hq; exact hKn4
    | 5, hq => cases hq; exact hKn5
    | 6, hq => cases hq; exact hKn6
    | 7, hq => cases hq; exact hKn7
    | k + 8, hq => simp [vwCl] at hq
  obtain ⟨cI, hI1, hI2⟩ := ini_arr (hts0 (.arrayClass .int) (List.mem_of_getElem? (i := 96) (by decide +kernel)))
  obtain ⟨cC, hC1, hC2⟩ := ini_arr (hts0 (.arrayClass .char) (List.mem_of_getElem? (i := 149) (by decide +kernel)))
  obtain ⟨cZ, hZ1, hZ2⟩ := ini_arr (hts0 (.arrayClass .boolean) (List.mem_of_getElem? (i := 715) (by decide +kernel)))
  obtain ⟨cL, hL1, hL2⟩ := ini_arr (hts0 (.arrayClass .long) (List.mem_of_getElem? (i := 915) (by decide +kernel)))
  obtain ⟨cN, hN1, hN2⟩ := ini_obj (hts0 (.arrayOver (.object RX0)) (List.mem_of_getElem? (i := 158) (by decide +kernel)))
  obtain ⟨a0, sl, t, x0, x1, hP1, hP2, hP3, hP4, hP5, hP6, hP7, hP8, hP9, hP10⟩ := ini_primes hts0 hgv
  obtain ⟨sa, -, -, -, hsa, -⟩ := Cond.exactly_spec (hf (Cond.exactly (Term.string RX6 97) "java/lang/String") (List.mem_of_getElem? (i := 32) (by decide +kernel)))
  obtain ⟨sb, -, -, -, hsb, -⟩ := Cond.exactly_spec (hf (Cond.exactly (Term.string RX6 161) "java/lang/String") (List.mem_of_getElem? (i := 81) (by decide +kernel)))
  have hno : ∀ a : Nat, a < s.heap.size → ¬ (fun q : Nat => s.heap.size ≤ q) a := fun a h q => absurd (show s.heap.size ≤ a from q) (by omega)
  refine ⟨((dC, dI), (cI, cC, cN, cZ, cL), (a0, sl), (x0, t, x1)), sa, sb, ⟨⟨hKc, ?_⟩, va_AO.of (hts0 (.arrayOver (.object RX0)) (List.mem_of_getElem? (i := 158) (by decide +kernel))), fun q hq => va_Nw.of rfl (hts0 _ (ini_nest q hq)), hP1, hP2, hP5, hP6, hP7, hP8, hP9, hP10⟩, ⟨hP3, hP4⟩, (Array.getElem?_eq_some_iff.mp hP3).1, (Array.getElem?_eq_some_iff.mp hP4).1, vk_R.of (hts0 (.stringRef RX6 97 kx_r) (List.mem_of_getElem? (i := 596) (by decide +kernel))) hsa, vk_R.of (hts0 (.stringRef RX6 161 kx_p) (List.mem_of_getElem? (i := 640) (by decide +kernel))) hsb, ⟨fun y hy => va_Nw.of rfl (hts0 _ (ini_kxw _ (List.mem_append_left _ (List.mem_map.mpr ⟨y, hy, rfl⟩)))), va_Nw.of rfl (hts0 _ (ini_kxw _ (List.mem_append_right _ (List.mem_singleton.mpr rfl))))⟩, vx_Zqof (hts0 (.laysStatic Bundle.tN "UNASSIGNED_STACK" Bundle.steD) (List.mem_of_getElem? (i := 584) (by decide +kernel))) (hts0 (.initialized Bundle.tN) (List.mem_of_getElem? (i := 57) (by decide +kernel))) (hf (Cond.isRef (Term.static Bundle.tN "UNASSIGNED_STACK" Bundle.steD)) (List.mem_of_getElem? (i := 22) (by decide +kernel))) hno, vx_Zqof (hts0 (.laysStatic Bundle.tN "SUPPRESSED_SENTINEL" Bundle.listD) (List.mem_of_getElem? (i := 586) (by decide +kernel))) (hts0 (.initialized Bundle.tN) (List.mem_of_getElem? (i := 57) (by decide +kernel))) (hf (Cond.isRef (Term.static Bundle.tN "SUPPRESSED_SENTINEL" Bundle.listD)) (List.mem_of_getElem? (i := 23) (by decide +kernel))) hno⟩
  intro k q hq
  match k, hq with
  | 0, hq => cases hq; exact ⟨hI1, hI2⟩
  | 1, hq => cases hq; exact ⟨hC1, hC2⟩
  | 2, hq => cases hq; exact ⟨hN1, hN2⟩
  | 3, hq => cases hq; exact ⟨hZ1, hZ2⟩
  | 4, hq => cases hq; exact ⟨hL1, hL2⟩
  | k + 5, hq => simp at hq
