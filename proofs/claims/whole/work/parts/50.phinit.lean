set_option maxHeartbeats 2000000 in
set_option maxRecDepth 100000 in
theorem lpX1_loop2 (l : Launch) (g : WG) (f t : Nat) (pgm : Program) (env : Env) (s : State) (mid : MethodId) (below : List Frame) (meth : Method) (cde : Code) (hx : pgm.tables.exec = Jvm.exec) (hb : cde.code = cX1_init) (hr : meth.sig.returnType = none) (hml : cde.maxLocals = 3) (hts : ∀ w ∈ wsX1_init, w.before ([.ref f, .ref t] : List Value).toArray s = true) (hown : s.vm.findClass yX1_init.cls = some mid.cls) (hlocks : meth.locks = false) (hnm : meth.name = yX1_init.name) (hK : KK g s) : ∀ (n r : Nat), r + n = 16 → ∀ (H : Heap) (locs : List Loc), obj g H f 1 [.ref t, .ref (f + 1), .ref (f + 3), .ref (f + 4), .ref (f + 5), .ref (f + 6), .int 0, .ref (f + 7), .int 0, .int 0, .int 0, .ref (f + 8), .ref (f + 9), .int 0, .ref (f + 10), .ref (f + 17)] → NatAt g H (f + 1) 0 → PoolP g H (f + 3) (f + 24) 48 48 → PoolP g H (f + 4) (f + 26) 48 48 → xr_ia H (f + 5) (gI g) 48 (fun _ => 0) → xr_ia H (f + 6) (gI g) 48 (fun _ => 0) → xr_ia H (f + 7) (gI g) 16 (fun _ => 0) → PoolP g H (f + 8) (f + 216) 16 r → PoolP g H (f + 9) (f + 218) 16 r → ShareAt g H (f + 10) 0 0 → ShareAt g H (f + 17) 0 0 → H.size = f + 216 + 4 * r → va_S (fun q => q = f ∨ f + 1 ≤ q) s.heap H locs → ∀ ls : Array Slot, lv_has ls 3 [(2, .int (nI r)), (0, .ref f)] → W pgm l env { frames := 3, cells := 279, slots := 923, locals := 54 } s mid ([.ref f, .ref t] : List Value).toArray below meth cde H locs (215 + 4 * r) (763 + 10 * r) (MQ below (xr_Post eV (fun _ H => (obj g H f 1 (phF f t 0 0 0 0 0 (f + 10) (f + 17)) ∧ NatAt g H (f + 1) 0 ∧ PoolAt g H (f + 3) (f + 24) 48 (fun _ => 0) ∧ PoolAt g H (f + 4) (f + 26) 48 (fun _ => 0) ∧ xr_ia H (f + 5) (gI g) 48 (fun z9 => nI ((fun _ => 0) z9)) ∧ xr_ia H (f + 6) (gI g) 48 (fun z9 => nI ((fun _ => 0) z9)) ∧ xr_ia H (f + 7) (gI g) 16 (fun z9 => nI ((fun _ => 0) z9)) ∧ PoolAt g H (f + 8) (f + 216) 16 (fun _ => 0) ∧ PoolAt g H (f + 9) (f + 218) 16 (fun _ => 0) ∧ ShareAt g H (f + 10) 0 0 ∧ ShareAt g H (f + 17) 0 0) ∧ H.size = f + 280) (fun q => q = f ∨ f + 1 ≤ q)) ([.ref f, .ref t] : List Value).toArray s ({ frames := 3, cells := 279, slots := 923, locals := 54 } : Room).cells ({ frames := 3, cells := 279, slots := 923, locals := 54 } : Room).slots (fun q => q = f ∨ f + 1 ≤ q)) (F0 mid 144 ls []) := by
  intro n
  induction n with
  | zero =>
    intro r h1 H locs hO hBa hPu hLa hEm hPy hPi hRa hBb hBs hTr hsz hS ls hl
    have e : r = 16 := by omega
    subst e
    refine lv_iload_n hx hb dX1_init_144 rfl (lv_at hl 0 rfl) ?_
    refine lv_bipush (v := 16) hx hb dX1_init_145 (by decide) ?_
    refine lv_icmp_ge (tgt := 182) hx hb dX1_init_147 (by decide) (fun hc => ?_) (fun hc => ?_)
    · clear hc
      exact xr_vret hx hb hr hlocks hS ⟨⟨hO, hBa, hPu.fin, hLa.fin, hEm.to (fun _ _ => nI_0.symm), hPy.to (fun _ _ => nI_0.symm), hPi.to (fun _ _ => nI_0.symm), hRa.fin, hBb.fin, hBs, hTr⟩, by omega⟩ dX1_init_182
    · exact absurd (by decide) hc
  | succ n ih =>
    intro r h1 H locs hO hBa hPu hLa hEm hPy hPi hRa hBb hBs hTr hsz hS ls hl
    refine lv_iload_n hx hb dX1_init_144 rfl (lv_at hl 0 rfl) ?_
    refine lv_bipush (v := 16) hx hb dX1_init_145 (by decide) ?_
    refine lv_icmp_ge (tgt := 182) hx hb dX1_init_147 (by decide) (fun hc => ?_) (fun hc => ?_)
    · exact absurd ((nI_leI (a := 16) (b := r) (by decide) (by omega)).mp hc) (by omega)
    · clear hc
      refine lv_aload_n hx hb dX1_init_150 rfl (lv_at hl 1 rfl) ?_
      refine va_get (D := g.1) (ci := 1) (v := .ref (f + 8)) (C := RX1) (T := TX1) (N := 16) hx hb hts (by decide +kernel) hown hK.1 (xr_one hO) 0 rfl rfl 11 (by decide) (hts (.fieldLink RX1 35 "SharesDesk$Phase" "rates" "[LSharesDesk$Natural;") (by decide +kernel)) (fun _ h9 => h9) rfl dX1_init_151 ?_
      refine lv_iload_n hx hb dX1_init_154 rfl (lv_at hl 0 rfl) ?_
      refine xr_new (ci := 0) (fs := [.null]) (C := RX0) (T := TX0) (N := 1) hx hb hts (by decide +kernel) tyX0 tyX0_ok hown (hts (.classLink RX1 9 RX0) (by decide +kernel)) (hts (.instantiable RX0 1) (by decide +kernel)) (hts (.initialized RX0) (by decide +kernel)) hK.1 hS rfl (fun j hj => by rcases (show j = 0 by omega) with rfl <;> rfl) (by show (_ : Nat) ≤ 279; first | omega | (dsimp only; omega)) (by show (_ : Nat) ≤ 923; first | omega | (dsimp only; omega)) dX1_init_155 (fun H hz hkp hQ hS => ?_)
      refine W.widen (k := 215 + 4 * r + 1) (n := 763 + 10 * r + 1) (Nat.le_refl _) (Nat.le_refl _) ?_
      rw [hsz] at hQ hz hkp ⊢
      replace hO := hO.kept (hkp _ (by omega))
      replace hBa := hBa.kept (hkp _ (by omega)) (hkp _ (by omega))
      replace hPu := hPu.kept (hkp _ (by omega)) (fun v9 hv9 => hkp _ (by omega)) (fun v9 hv9 => hkp _ (by omega))
      replace hLa := hLa.kept (hkp _ (by omega)) (fun v9 hv9 => hkp _ (by omega)) (fun v9 hv9 => hkp _ (by omega))
      replace hEm := hEm.kept (hkp _ (by omega))
      replace hPy := hPy.kept (hkp _ (by omega))
      replace hPi := hPi.kept (hkp _ (by omega))
      replace hRa := hRa.kept (hkp _ (by omega)) (fun v9 hv9 => hkp _ (by omega)) (fun v9 hv9 => hkp _ (by omega))
      replace hBb := hBb.kept (hkp _ (by omega)) (fun v9 hv9 => hkp _ (by omega)) (fun v9 hv9 => hkp _ (by omega))
      replace hBs := hBs.kept (fun q hq1 hq2 hq3 => hkp q (by omega))
      replace hTr := hTr.kept (fun q hq1 hq2 hq3 => hkp q (by omega))
      replace hsz := hz
      refine lv_dup hx hb dX1_init_158 rfl ?_
      refine xr_INv (rest := [.ref (f + 216 + 4 * r), .int (nI r), .ref (f + 8)]) ⟨hx, hb, hml, hown, hts⟩ (KK_ok g) hK (c_X0_init l g H (f + 216 + 4 * r) hQ hsz) ⟨va_cnB 0 hts gX1_init_X0_init_n11 rfl rfl rfl (hK.2.2.1 (RX1, 11, yX0_init) (by decide +kernel)) (hts (.initialized RX0) (by decide +kernel)) (by decide +kernel) ⟨Nat.le_of_ble_eq_true rfl, Nat.le_of_ble_eq_true rfl⟩, rfl, (hts (.instanceMethod yX0_init) (by decide +kernel))⟩ rfl hl.1 rfl (Nat.le_of_ble_eq_true rfl) dX1_init_159 ⟨(by show (_ : Nat) ≤ 279; first | omega | (dsimp only; omega)), (by show (_ : Nat) ≤ 923; first | omega | (dsimp only; omega))⟩ hS (fun q h => by have h : q = f + 216 + 4 * r ∨ f + 216 + 4 * r + 1 ≤ q := h; show q = f ∨ f + 1 ≤ q; omega) (fun _ H locs hq hz hkp hS => ?_)
      refine W.widen (k := 215 + 4 * r + 1 + 1) (n := 763 + 10 * r + 1 + 4) (Nat.le_refl _) (Nat.le_refl _) ?_
      replace hkp := fun (q : Nat) h1 (h2 : ¬ (q = f + 216 + 4 * r ∨ f + 216 + 4 * r + 1 ≤ q)) => hkp q h1 h2
      clear hz
      replace hO := hO.kept (hkp _ hO.lt (by omega))
      replace hBa := hBa.kept (hkp _ hBa.1.lt (by omega)) (hkp _ hBa.2.1.lt (by omega))
      replace hPu := hPu.kept (hkp _ hPu.1.lt (by omega)) (fun v9 hv9 => hkp _ (hPu.2 v9 hv9).1.lt (by omega)) (fun v9 hv9 => hkp _ (hPu.2 v9 hv9).2.1.lt (by omega))
      replace hLa := hLa.kept (hkp _ hLa.1.lt (by omega)) (fun v9 hv9 => hkp _ (hLa.2 v9 hv9).1.lt (by omega)) (fun v9 hv9 => hkp _ (hLa.2 v9 hv9).2.1.lt (by omega))
      replace hEm := hEm.kept (hkp _ hEm.lt (by omega))
      replace hPy := hPy.kept (hkp _ hPy.lt (by omega))
      replace hPi := hPi.kept (hkp _ hPi.lt (by omega))
      replace hRa := hRa.kept (hkp _ hRa.1.lt (by omega)) (fun v9 hv9 => hkp _ (hRa.2 v9 hv9).1.lt (by omega)) (fun v9 hv9 => hkp _ (hRa.2 v9 hv9).2.1.lt (by omega))
      replace hBb := hBb.kept (hkp _ hBb.1.lt (by omega)) (fun v9 hv9 => hkp _ (hBb.2 v9 hv9).1.lt (by omega)) (fun v9 hv9 => hkp _ (hBb.2 v9 hv9).2.1.lt (by omega))
      replace hBs := hBs.kept (fun q hq1 hq2 hq3 => hkp q hq1 (by omega))
      replace hTr := hTr.kept (fun q hq1 hq2 hq3 => hkp q hq1 (by omega))
      obtain ⟨hN, hsz⟩ := hq
      have hRa2 := hRa.2
      refine xr_astq hx hb hK.1 hS (Or.inr (by omega)) hRa.1 2 (r := (RX0, TX0, 1)) rfl hN.1 rfl (vp_in_nI (show r < 16 by omega) (by decide)) dX1_init_162 (fun H locs hz hkp hRa hS => ?_)
      rw [nI_clamp (show r < 2 ^ 31 by omega)] at hRa
      replace hO := hO.kept (hkp _ (by omega))
      replace hBa := hBa.kept (hkp _ (by omega)) (hkp _ (by omega))
      replace hPu := hPu.kept (hkp _ (by omega)) (fun v9 hv9 => hkp _ (by omega)) (fun v9 hv9 => hkp _ (by omega))
      replace hLa := hLa.kept (hkp _ (by omega)) (fun v9 hv9 => hkp _ (by omega)) (fun v9 hv9 => hkp _ (by omega))
      replace hEm := hEm.kept (hkp _ (by omega))
      replace hPy := hPy.kept (hkp _ (by omega))
      replace hPi := hPi.kept (hkp _ (by omega))
      replace hBb := hBb.kept (hkp _ (by omega)) (fun v9 hv9 => hkp _ (by omega)) (fun v9 hv9 => hkp _ (by omega))
      replace hBs := hBs.kept (fun q hq1 hq2 hq3 => hkp q (by omega))
      replace hTr := hTr.kept (fun q hq1 hq2 hq3 => hkp q (by omega))
      replace hN := hN.kept (hkp _ (by omega)) (hkp _ (by omega))
      replace hRa : PoolP g H (f + 8) (f + 216) 16 (r + 1) := PoolP.more hRa hN (fun i9 hi9 => (hRa2 i9 hi9).kept (hkp _ (by omega)) (hkp _ (by omega)))
      clear hRa2
      replace hsz := hz.trans hsz
      clear hz
      refine lv_aload_n hx hb dX1_init_163 rfl (lv_at hl 1 rfl) ?_
      refine va_get (D := g.1) (ci := 1) (v := .ref (f + 9)) (C := RX1) (T := TX1) (N := 16) hx hb hts (by decide +kernel) hown hK.1 (xr_one hO) 0 rfl rfl 12 (by decide) (hts (.fieldLink RX1 38 "SharesDesk$Phase" "bases" "[LSharesDesk$Natural;") (by decide +kernel)) (fun _ h9 => h9) rfl dX1_init_164 ?_
      refine lv_iload_n hx hb dX1_init_167 rfl (lv_at hl 0 rfl) ?_
      have hsz : H.size = f + 218 + 4 * r := by omega
      refine xr_new (ci := 0) (fs := [.null]) (C := RX0) (T := TX0) (N := 1) hx hb hts (by decide +kernel) tyX0 tyX0_ok hown (hts (.classLink RX1 9 RX0) (by decide +kernel)) (hts (.instantiable RX0 1) (by decide +kernel)) (hts (.initialized RX0) (by decide +kernel)) hK.1 hS rfl (fun j hj => by rcases (show j = 0 by omega) with rfl <;> rfl) (by show (_ : Nat) ≤ 279; first | omega | (dsimp only; omega)) (by show (_ : Nat) ≤ 923; first | omega | (dsimp only; omega)) dX1_init_168 (fun H hz hkp hQ hS => ?_)
      refine W.widen (k := 215 + 4 * r + 1 + 1 + 1) (n := 763 + 10 * r + 1 + 4 + 1) (Nat.le_refl _) (Nat.le_refl _) ?_
      rw [hsz] at hQ hz hkp ⊢
      replace hO := hO.kept (hkp _ (by omega))
      replace hBa := hBa.kept (hkp _ (by omega)) (hkp _ (by omega))
      replace hPu := hPu.kept (hkp _ (by omega)) (fun v9 hv9 => hkp _ (by omega)) (fun v9 hv9 => hkp _ (by omega))
      replace hLa := hLa.kept (hkp _ (by omega)) (fun v9 hv9 => hkp _ (by omega)) (fun v9 hv9 => hkp _ (by omega))
      replace hEm := hEm.kept (hkp _ (by omega))
      replace hPy := hPy.kept (hkp _ (by omega))
      replace hPi := hPi.kept (hkp _ (by omega))
      replace hBb := hBb.kept (hkp _ (by omega)) (fun v9 hv9 => hkp _ (by omega)) (fun v9 hv9 => hkp _ (by omega))
      replace hBs := hBs.kept (fun q hq1 hq2 hq3 => hkp q (by omega))
      replace hTr := hTr.kept (fun q hq1 hq2 hq3 => hkp q (by omega))
      replace hRa := hRa.kept (hkp _ (by omega)) (fun v9 hv9 => hkp _ (by omega)) (fun v9 hv9 => hkp _ (by omega))
      replace hsz := hz
      refine lv_dup hx hb dX1_init_171 rfl ?_
      refine xr_INv (rest := [.ref (f + 218 + 4 * r), .int (nI r), .ref (f + 9)]) ⟨hx, hb, hml, hown, hts⟩ (KK_ok g) hK (c_X0_init l g H (f + 218 + 4 * r) hQ hsz) ⟨va_cnB 0 hts gX1_init_X0_init_n11 rfl rfl rfl (hK.2.2.1 (RX1, 11, yX0_init) (by decide +kernel)) (hts (.initialized RX0) (by decide +kernel)) (by decide +kernel) ⟨Nat.le_of_ble_eq_true rfl, Nat.le_of_ble_eq_true rfl⟩, rfl, (hts (.instanceMethod yX0_init) (by decide +kernel))⟩ rfl hl.1 rfl (Nat.le_of_ble_eq_true rfl) dX1_init_172 ⟨(by show (_ : Nat) ≤ 279; first | omega | (dsimp only; omega)), (by show (_ : Nat) ≤ 923; first | omega | (dsimp only; omega))⟩ hS (fun q h => by have h : q = f + 218 + 4 * r ∨ f + 218 + 4 * r + 1 ≤ q := h; show q = f ∨ f + 1 ≤ q; omega) (fun _ H locs hq hz hkp hS => ?_)
      refine W.widen (k := 215 + 4 * r + 1 + 1 + 1 + 1) (n := 763 + 10 * r + 1 + 4 + 1 + 4) (Nat.le_refl _) (Nat.le_refl _) ?_
      replace hkp := fun (q : Nat) h1 (h2 : ¬ (q = f + 218 + 4 * r ∨ f + 218 + 4 * r + 1 ≤ q)) => hkp q h1 h2
      clear hz
      replace hO := hO.kept (hkp _ hO.lt (by omega))
      replace hBa := hBa.kept (hkp _ hBa.1.lt (by omega)) (hkp _ hBa.2.1.lt (by omega))
      replace hPu := hPu.kept (hkp _ hPu.1.lt (by omega)) (fun v9 hv9 => hkp _ (hPu.2 v9 hv9).1.lt (by omega)) (fun v9 hv9 => hkp _ (hPu.2 v9 hv9).2.1.lt (by omega))
      replace hLa := hLa.kept (hkp _ hLa.1.lt (by omega)) (fun v9 hv9 => hkp _ (hLa.2 v9 hv9).1.lt (by omega)) (fun v9 hv9 => hkp _ (hLa.2 v9 hv9).2.1.lt (by omega))
      replace hEm := hEm.kept (hkp _ hEm.lt (by omega))
      replace hPy := hPy.kept (hkp _ hPy.lt (by omega))
      replace hPi := hPi.kept (hkp _ hPi.lt (by omega))
      replace hBb := hBb.kept (hkp _ hBb.1.lt (by omega)) (fun v9 hv9 => hkp _ (hBb.2 v9 hv9).1.lt (by omega)) (fun v9 hv9 => hkp _ (hBb.2 v9 hv9).2.1.lt (by omega))
      replace hBs := hBs.kept (fun q hq1 hq2 hq3 => hkp q hq1 (by omega))
      replace hTr := hTr.kept (fun q hq1 hq2 hq3 => hkp q hq1 (by omega))
      replace hRa := hRa.kept (hkp _ hRa.1.lt (by omega)) (fun v9 hv9 => hkp _ (hRa.2 v9 hv9).1.lt (by omega)) (fun v9 hv9 => hkp _ (hRa.2 v9 hv9).2.1.lt (by omega))
      obtain ⟨hN, hsz⟩ := hq
      have hBb2 := hBb.2
      refine xr_astq hx hb hK.1 hS (Or.inr (by omega)) hBb.1 2 (r := (RX0, TX0, 1)) rfl hN.1 rfl (vp_in_nI (show r < 16 by omega) (by decide)) dX1_init_175 (fun H locs hz hkp hBb hS => ?_)
      rw [nI_clamp (show r < 2 ^ 31 by omega)] at hBb
      replace hO := hO.kept (hkp _ (by omega))
      replace hBa := hBa.kept (hkp _ (by omega)) (hkp _ (by omega))
      replace hPu := hPu.kept (hkp _ (by omega)) (fun v9 hv9 => hkp _ (by omega)) (fun v9 hv9 => hkp _ (by omega))
      replace hLa := hLa.kept (hkp _ (by omega)) (fun v9 hv9 => hkp _ (by omega)) (fun v9 hv9 => hkp _ (by omega))
      replace hEm := hEm.kept (hkp _ (by omega))
      replace hPy := hPy.kept (hkp _ (by omega))
      replace hPi := hPi.kept (hkp _ (by omega))
      replace hBs := hBs.kept (fun q hq1 hq2 hq3 => hkp q (by omega))
      replace hTr := hTr.kept (fun q hq1 hq2 hq3 => hkp q (by omega))
      replace hRa := hRa.kept (hkp _ (by omega)) (fun v9 hv9 => hkp _ (by omega)) (fun v9 hv9 => hkp _ (by omega))
      replace hN := hN.kept (hkp _ (by omega)) (hkp _ (by omega))
      replace hBb : PoolP g H (f + 9) (f + 218) 16 (r + 1) := PoolP.more hBb hN (fun i9 hi9 => (hBb2 i9 hi9).kept (hkp _ (by omega)) (hkp _ (by omega)))
      clear hBb2
      replace hsz := hz.trans hsz
      clear hz
      refine lv_iinc (v := nI (r + 1)) (lv' := [(2, .int (nI (r + 1))), (0, .ref f)]) hx hb dX1_init_176 hl (k := 0) rfl (nI_1 r) (by decide) rfl (fun ls hl => ?_)
      refine lv_goto (tgt := 144) hx hb dX1_init_179 (by decide) ?_
      refine W.widen (k := 215 + 4 * (r + 1)) (n := 763 + 10 * (r + 1)) (by omega) (by omega) ?_
      exact ih (r + 1) (by omega) H locs hO hBa hPu hLa hEm hPy hPi hRa hBb hBs hTr (by omega) hS ls (lv_sub hl [0, 1] rfl)
set_option maxHeartbeats 2000000 in
set_option maxRecDepth 100000 in
theorem lpX1_loop1 (l : Launch) (g : WG) (f t : Nat) (pgm : Program) (env : Env) (s : State) (mid : MethodId) (below : List Frame) (meth : Method) (cde : Code) (hx : pgm.tables.exec = Jvm.exec) (hb : cde.code = cX1_init) (hr : meth.sig.returnType = none) (hml : cde.maxLocals = 3) (hts : ∀ w ∈ wsX1_init, w.before ([.ref f, .ref t] : List Value).toArray s = true) (hown : s.vm.findClass yX1_init.cls = some mid.cls) (hlocks : meth.locks = false) (hnm : meth.name = yX1_init.name) (hK : KK g s) : ∀ (n v : Nat), v + n = 48 → ∀ (H : Heap) (locs : List Loc), obj g H f 1 [.ref t, .ref (f + 1), .ref (f + 3), .ref (f + 4), .ref (f + 5), .ref (f + 6), .int 0, .ref (f + 7), .int 0, .int 0, .int 0, .ref (f + 8), .ref (f + 9), .int 0, .ref (f + 10), .ref (f + 17)] → NatAt g H (f + 1) 0 → PoolP g H (f + 3) (f + 24) 48 v → PoolP g H (f + 4) (f + 26) 48 v → xr_ia H (f + 5) (gI g) 48 (fun _ => 0) → xr_ia H (f + 6) (gI g) 48 (fun _ => 0) → xr_ia H (f + 7) (gI g) 16 (fun _ => 0) → PoolP g H (f + 8) (f + 216) 16 0 → PoolP g H (f + 9) (f + 218) 16 0 → ShareAt g H (f + 10) 0 0 → ShareAt g H (f + 17) 0 0 → H.size = f + 24 + 4 * v → va_S (fun q => q = f ∨ f + 1 ≤ q) s.heap H locs → ∀ ls : Array Slot, lv_has ls 3 [(2, .int (nI v)), (0, .ref f)] → W pgm l env { frames := 3, cells := 279, slots := 923, locals := 54 } s mid ([.ref f, .ref t] : List Value).toArray below meth cde H locs (23 + 4 * v) (283 + 10 * v) (MQ below (xr_Post eV (fun _ H => (obj g H f 1 (phF f t 0 0 0 0 0 (f + 10) (f + 17)) ∧ NatAt g H (f + 1) 0 ∧ PoolAt g H (f + 3) (f + 24) 48 (fun _ => 0) ∧ PoolAt g H (f + 4) (f + 26) 48 (fun _ => 0) ∧ xr_ia H (f + 5) (gI g) 48 (fun z9 => nI ((fun _ => 0) z9)) ∧ xr_ia H (f + 6) (gI g) 48 (fun z9 => nI ((fun _ => 0) z9)) ∧ xr_ia H (f + 7) (gI g) 16 (fun z9 => nI ((fun _ => 0) z9)) ∧ PoolAt g H (f + 8) (f + 216) 16 (fun _ => 0) ∧ PoolAt g H (f + 9) (f + 218) 16 (fun _ => 0) ∧ ShareAt g H (f + 10) 0 0 ∧ ShareAt g H (f + 17) 0 0) ∧ H.size = f + 280) (fun q => q = f ∨ f + 1 ≤ q)) ([.ref f, .ref t] : List Value).toArray s ({ frames := 3, cells := 279, slots := 923, locals := 54 } : Room).cells ({ frames := 3, cells := 279, slots := 923, locals := 54 } : Room).slots (fun q => q = f ∨ f + 1 ≤ q)) (F0 mid 104 ls []) := by
  intro n
  induction n with
  | zero =>
    intro v h1 H locs hO hBa hPu hLa hEm hPy hPi hRa hBb hBs hTr hsz hS ls hl
    have e : v = 48 := by omega
    subst e
    refine lv_iload_n hx hb dX1_init_104 rfl (lv_at hl 0 rfl) ?_
    refine lv_bipush (v := 48) hx hb dX1_init_105 (by decide) ?_
    refine lv_icmp_ge (tgt := 142) hx hb dX1_init_107 (by decide) (fun hc => ?_) (fun hc => ?_)
    · clear hc
      refine lv_iconst (v := 0) hx hb dX1_init_142 (by decide) ?_
      refine xr_ti (x' := nI 0) rfl ?_
      refine lv_istore_n (lv' := [(2, .int (nI 0)), (0, .ref f)]) hx hb dX1_init_143 rfl hl (by decide) rfl (fun ls hl => ?_)
      exact lpX1_loop2 l g f t pgm env s mid below meth cde hx hb hr hml hts hown hlocks hnm hK 16 0 (by omega) H locs hO hBa hPu hLa hEm hPy hPi hRa hBb hBs hTr (by omega) hS ls (lv_sub hl [0, 1] rfl)
    · exact absurd (by decide) hc
  | succ n ih =>
    intro v h1 H locs hO hBa hPu hLa hEm hPy hPi hRa hBb hBs hTr hsz hS ls hl
    refine lv_iload_n hx hb dX1_init_104 rfl (lv_at hl 0 rfl) ?_
    refine lv_bipush (v := 48) hx hb dX1_init_105 (by decide) ?_
    refine lv_icmp_ge (tgt := 142) hx hb dX1_init_107 (by decide) (fun hc => ?_) (fun hc => ?_)
    · exact absurd ((nI_leI (a := 48) (b := v) (by decide) (by omega)).mp hc) (by omega)
    · clear hc
      refine lv_aload_n hx hb dX1_init_110 rfl (lv_at hl 1 rfl) ?_
      refine va_get (D := g.1) (ci := 1) (v := .ref (f + 3)) (C := RX1) (T := TX1) (N := 16) hx hb hts (by decide +kernel) hown hK.1 (xr_one hO) 0 rfl rfl 2 (by decide) (hts (.fieldLink RX1 18 "SharesDesk$Phase" "purses" "[LSharesDesk$Natural;") (by decide +kernel)) (fun _ h9 => h9) rfl dX1_init_111 ?_
      refine lv_iload_n hx hb dX1_init_114 rfl (lv_at hl 0 rfl) ?_
      refine xr_new (ci := 0) (fs := [.null]) (C := RX0) (T := TX0) (N := 1) hx hb hts (by decide +kernel) tyX0 tyX0_ok hown (hts (.classLink RX1 9 RX0) (by decide +kernel)) (hts (.instantiable RX0 1) (by decide +kernel)) (hts (.initialized RX0) (by decide +kernel)) hK.1 hS rfl (fun j hj => by rcases (show j = 0 by omega) with rfl <;> rfl) (by show (_ : Nat) ≤ 279; first | omega | (dsimp only; omega)) (by show (_ : Nat) ≤ 923; first | omega | (dsimp only; omega)) dX1_init_115 (fun H hz hkp hQ hS => ?_)
      refine W.widen (k := 23 + 4 * v + 1) (n := 283 + 10 * v + 1) (Nat.le_refl _) (Nat.le_refl _) ?_
      rw [hsz] at hQ hz hkp ⊢
      replace hO := hO.kept (hkp _ (by omega))
      replace hBa := hBa.kept (hkp _ (by omega)) (hkp _ (by omega))
      replace hPu := hPu.kept (hkp _ (by omega)) (fun v9 hv9 => hkp _ (by omega)) (fun v9 hv9 => hkp _ (by omega))
      replace hLa := hLa.kept (hkp _ (by omega)) (fun v9 hv9 => hkp _ (by omega)) (fun v9 hv9 => hkp _ (by omega))
      replace hEm := hEm.kept (hkp _ (by omega))
      replace hPy := hPy.kept (hkp _ (by omega))
      replace hPi := hPi.kept (hkp _ (by omega))
      replace hRa := hRa.kept (hkp _ (by omega)) (fun v9 hv9 => hkp _ (by omega)) (fun v9 hv9 => hkp _ (by omega))
      replace hBb := hBb.kept (hkp _ (by omega)) (fun v9 hv9 => hkp _ (by omega)) (fun v9 hv9 => hkp _ (by omega))
      replace hBs := hBs.kept (fun q hq1 hq2 hq3 => hkp q (by omega))
      replace hTr := hTr.kept (fun q hq1 hq2 hq3 => hkp q (by omega))
      replace hsz := hz
      refine lv_dup hx hb dX1_init_118 rfl ?_
      refine xr_INv (rest := [.ref (f + 24 + 4 * v), .int (nI v), .ref (f + 3)]) ⟨hx, hb, hml, hown, hts⟩ (KK_ok g) hK (c_X0_init l g H (f + 24 + 4 * v) hQ hsz) ⟨va_cnB 0 hts gX1_init_X0_init_n11 rfl rfl rfl (hK.2.2.1 (RX1, 11, yX0_init) (by decide +kernel)) (hts (.initialized RX0) (by decide +kernel)) (by decide +kernel) ⟨Nat.le_of_ble_eq_true rfl, Nat.le_of_ble_eq_true rfl⟩, rfl, (hts (.instanceMethod yX0_init) (by decide +kernel))⟩ rfl hl.1 rfl (Nat.le_of_ble_eq_true rfl) dX1_init_119 ⟨(by show (_ : Nat) ≤ 279; first | omega | (dsimp only; omega)), (by show (_ : Nat) ≤ 923; first | omega | (dsimp only; omega))⟩ hS (fun q h => by have h : q = f + 24 + 4 * v ∨ f + 24 + 4 * v + 1 ≤ q := h; show q = f ∨ f + 1 ≤ q; omega) (fun _ H locs hq hz hkp hS => ?_)
      refine W.widen (k := 23 + 4 * v + 1 + 1) (n := 283 + 10 * v + 1 + 4) (Nat.le_refl _) (Nat.le_refl _) ?_
      replace hkp := fun (q : Nat) h1 (h2 : ¬ (q = f + 24 + 4 * v ∨ f + 24 + 4 * v + 1 ≤ q)) => hkp q h1 h2
      clear hz
      replace hO := hO.kept (hkp _ hO.lt (by omega))
      replace hBa := hBa.kept (hkp _ hBa.1.lt (by omega)) (hkp _ hBa.2.1.lt (by omega))
      replace hPu := hPu.kept (hkp _ hPu.1.lt (by omega)) (fun v9 hv9 => hkp _ (hPu.2 v9 hv9).1.lt (by omega)) (fun v9 hv9 => hkp _ (hPu.2 v9 hv9).2.1.lt (by omega))
      replace hLa := hLa.kept (hkp _ hLa.1.lt (by omega)) (fun v9 hv9 => hkp _ (hLa.2 v9 hv9).1.lt (by omega)) (fun v9 hv9 => hkp _ (hLa.2 v9 hv9).2.1.lt (by omega))
      replace hEm := hEm.kept (hkp _ hEm.lt (by omega))
      replace hPy := hPy.kept (hkp _ hPy.lt (by omega))
      replace hPi := hPi.kept (hkp _ hPi.lt (by omega))
      replace hRa := hRa.kept (hkp _ hRa.1.lt (by omega)) (fun v9 hv9 => hkp _ (hRa.2 v9 hv9).1.lt (by omega)) (fun v9 hv9 => hkp _ (hRa.2 v9 hv9).2.1.lt (by omega))
      replace hBb := hBb.kept (hkp _ hBb.1.lt (by omega)) (fun v9 hv9 => hkp _ (hBb.2 v9 hv9).1.lt (by omega)) (fun v9 hv9 => hkp _ (hBb.2 v9 hv9).2.1.lt (by omega))
      replace hBs := hBs.kept (fun q hq1 hq2 hq3 => hkp q hq1 (by omega))
      replace hTr := hTr.kept (fun q hq1 hq2 hq3 => hkp q hq1 (by omega))
      obtain ⟨hN, hsz⟩ := hq
      have hPu2 := hPu.2
      refine xr_astq hx hb hK.1 hS (Or.inr (by omega)) hPu.1 2 (r := (RX0, TX0, 1)) rfl hN.1 rfl (vp_in_nI (show v < 48 by omega) (by decide)) dX1_init_122 (fun H locs hz hkp hPu hS => ?_)
      rw [nI_clamp (show v < 2 ^ 31 by omega)] at hPu
      replace hO := hO.kept (hkp _ (by omega))
      replace hBa := hBa.kept (hkp _ (by omega)) (hkp _ (by omega))
      replace hLa := hLa.kept (hkp _ (by omega)) (fun v9 hv9 => hkp _ (by omega)) (fun v9 hv9 => hkp _ (by omega))
      replace hEm := hEm.kept (hkp _ (by omega))
      replace hPy := hPy.kept (hkp _ (by omega))
      replace hPi := hPi.kept (hkp _ (by omega))
      replace hRa := hRa.kept (hkp _ (by omega)) (fun v9 hv9 => hkp _ (by omega)) (fun v9 hv9 => hkp _ (by omega))
      replace hBb := hBb.kept (hkp _ (by omega)) (fun v9 hv9 => hkp _ (by omega)) (fun v9 hv9 => hkp _ (by omega))
      replace hBs := hBs.kept (fun q hq1 hq2 hq3 => hkp q (by omega))
      replace hTr := hTr.kept (fun q hq1 hq2 hq3 => hkp q (by omega))
      replace hN := hN.kept (hkp _ (by omega)) (hkp _ (by omega))
      replace hPu : PoolP g H (f + 3) (f + 24) 48 (v + 1) := PoolP.more hPu hN (fun i9 hi9 => (hPu2 i9 hi9).kept (hkp _ (by omega)) (hkp _ (by omega)))
      clear hPu2
      replace hsz := hz.trans hsz
      clear hz
      refine lv_aload_n hx hb dX1_init_123 rfl (lv_at hl 1 rfl) ?_
      refine va_get (D := g.1) (ci := 1) (v := .ref (f + 4)) (C := RX1) (T := TX1) (N := 16) hx hb hts (by decide +kernel) hown hK.1 (xr_one hO) 0 rfl rfl 3 (by decide) (hts (.fieldLink RX1 22 "SharesDesk$Phase" "lastPays" "[LSharesDesk$Natural;") (by decide +kernel)) (fun _ h9 => h9) rfl dX1_init_124 ?_
      refine lv_iload_n hx hb dX1_init_127 rfl (lv_at hl 0 rfl) ?_
      have hsz : H.size = f + 26 + 4 * v := by omega
      refine xr_new (ci := 0) (fs := [.null]) (C := RX0) (T := TX0) (N := 1) hx hb hts (by decide +kernel) tyX0 tyX0_ok hown (hts (.classLink RX1 9 RX0) (by decide +kernel)) (hts (.instantiable RX0 1) (by decide +kernel)) (hts (.initialized RX0) (by decide +kernel)) hK.1 hS rfl (fun j hj => by rcases (show j = 0 by omega) with rfl <;> rfl) (by show (_ : Nat) ≤ 279; first | omega | (dsimp only; omega)) (by show (_ : Nat) ≤ 923; first | omega | (dsimp only; omega)) dX1_init_128 (fun H hz hkp hQ hS => ?_)
      refine W.widen (k := 23 + 4 * v + 1 + 1 + 1) (n := 283 + 10 * v + 1 + 4 + 1) (Nat.le_refl _) (Nat.le_refl _) ?_
      rw [hsz] at hQ hz hkp ⊢
      replace hO := hO.kept (hkp _ (by omega))
      replace hBa := hBa.kept (hkp _ (by omega)) (hkp _ (by omega))
      replace hLa := hLa.kept (hkp _ (by omega)) (fun v9 hv9 => hkp _ (by omega)) (fun v9 hv9 => hkp _ (by omega))
      replace hEm := hEm.kept (hkp _ (by omega))
      replace hPy := hPy.kept (hkp _ (by omega))
      replace hPi := hPi.kept (hkp _ (by omega))
      replace hRa := hRa.kept (hkp _ (by omega)) (fun v9 hv9 => hkp _ (by omega)) (fun v9 hv9 => hkp _ (by omega))
      replace hBb := hBb.kept (hkp _ (by omega)) (fun v9 hv9 => hkp _ (by omega)) (fun v9 hv9 => hkp _ (by omega))
      replace hBs := hBs.kept (fun q hq1 hq2 hq3 => hkp q (by omega))
      replace hTr := hTr.kept (fun q hq1 hq2 hq3 => hkp q (by omega))
      replace hPu := hPu.kept (hkp _ (by omega)) (fun v9 hv9 => hkp _ (by omega)) (fun v9 hv9 => hkp _ (by omega))
      replace hsz := hz
      refine lv_dup hx hb dX1_init_131 rfl ?_
      refine xr_INv (rest := [.ref (f + 26 + 4 * v), .int (nI v), .ref (f + 4)]) ⟨hx, hb, hml, hown, hts⟩ (KK_ok g) hK (c_X0_init l g H (f + 26 + 4 * v) hQ hsz) ⟨va_cnB 0 hts gX1_init_X0_init_n11 rfl rfl rfl (hK.2.2.1 (RX1, 11, yX0_init) (by decide +kernel)) (hts (.initialized RX0) (by decide +kernel)) (by decide +kernel) ⟨Nat.le_of_ble_eq_true rfl, Nat.le_of_ble_eq_true rfl⟩, rfl, (hts (.instanceMethod yX0_init) (by decide +kernel))⟩ rfl hl.1 rfl (Nat.le_of_ble_eq_true rfl) dX1_init_132 ⟨(by show (_ : Nat) ≤ 279; first | omega | (dsimp only; omega)), (by show (_ : Nat) ≤ 923; first | omega | (dsimp only; omega))⟩ hS (fun q h => by have h : q = f + 26 + 4 * v ∨ f + 26 + 4 * v + 1 ≤ q := h; show q = f ∨ f + 1 ≤ q; omega) (fun _ H locs hq hz hkp hS => ?_)
      refine W.widen (k := 23 + 4 * v + 1 + 1 + 1 + 1) (n := 283 + 10 * v + 1 + 4 + 1 + 4) (Nat.le_refl _) (Nat.le_refl _) ?_
      replace hkp := fun (q : Nat) h1 (h2 : ¬ (q = f + 26 + 4 * v ∨ f + 26 + 4 * v + 1 ≤ q)) => hkp q h1 h2
      clear hz
      replace hO := hO.kept (hkp _ hO.lt (by omega))
      replace hBa := hBa.kept (hkp _ hBa.1.lt (by omega)) (hkp _ hBa.2.1.lt (by omega))
      replace hLa := hLa.kept (hkp _ hLa.1.lt (by omega)) (fun v9 hv9 => hkp _ (hLa.2 v9 hv9).1.lt (by omega)) (fun v9 hv9 => hkp _ (hLa.2 v9 hv9).2.1.lt (by omega))
      replace hEm := hEm.kept (hkp _ hEm.lt (by omega))
      replace hPy := hPy.kept (hkp _ hPy.lt (by omega))
      replace hPi := hPi.kept (hkp _ hPi.lt (by omega))
      replace hRa := hRa.kept (hkp _ hRa.1.lt (by omega)) (fun v9 hv9 => hkp _ (hRa.2 v9 hv9).1.lt (by omega)) (fun v9 hv9 => hkp _ (hRa.2 v9 hv9).2.1.lt (by omega))
      replace hBb := hBb.kept (hkp _ hBb.1.lt (by omega)) (fun v9 hv9 => hkp _ (hBb.2 v9 hv9).1.lt (by omega)) (fun v9 hv9 => hkp _ (hBb.2 v9 hv9).2.1.lt (by omega))
      replace hBs := hBs.kept (fun q hq1 hq2 hq3 => hkp q hq1 (by omega))
      replace hTr := hTr.kept (fun q hq1 hq2 hq3 => hkp q hq1 (by omega))
      replace hPu := hPu.kept (hkp _ hPu.1.lt (by omega)) (fun v9 hv9 => hkp _ (hPu.2 v9 hv9).1.lt (by omega)) (fun v9 hv9 => hkp _ (hPu.2 v9 hv9).2.1.lt (by omega))
      obtain ⟨hN, hsz⟩ := hq
      have hLa2 := hLa.2
      refine xr_astq hx hb hK.1 hS (Or.inr (by omega)) hLa.1 2 (r := (RX0, TX0, 1)) rfl hN.1 rfl (vp_in_nI (show v < 48 by omega) (by decide)) dX1_init_135 (fun H locs hz hkp hLa hS => ?_)
      rw [nI_clamp (show v < 2 ^ 31 by omega)] at hLa
      replace hO := hO.kept (hkp _ (by omega))
      replace hBa := hBa.kept (hkp _ (by omega)) (hkp _ (by omega))
      replace hEm := hEm.kept (hkp _ (by omega))
      replace hPy := hPy.kept (hkp _ (by omega))
      replace hPi := hPi.kept (hkp _ (by omega))
      replace hRa := hRa.kept (hkp _ (by omega)) (fun v9 hv9 => hkp _ (by omega)) (fun v9 hv9 => hkp _ (by omega))
      replace hBb := hBb.kept (hkp _ (by omega)) (fun v9 hv9 => hkp _ (by omega)) (fun v9 hv9 => hkp _ (by omega))
      replace hBs := hBs.kept (fun q hq1 hq2 hq3 => hkp q (by omega))
      replace hTr := hTr.kept (fun q hq1 hq2 hq3 => hkp q (by omega))
      replace hPu := hPu.kept (hkp _ (by omega)) (fun v9 hv9 => hkp _ (by omega)) (fun v9 hv9 => hkp _ (by omega))
      replace hN := hN.kept (hkp _ (by omega)) (hkp _ (by omega))
      replace hLa : PoolP g H (f + 4) (f + 26) 48 (v + 1) := PoolP.more hLa hN (fun i9 hi9 => (hLa2 i9 hi9).kept (hkp _ (by omega)) (hkp _ (by omega)))
      clear hLa2
      replace hsz := hz.trans hsz
      clear hz
      refine lv_iinc (v := nI (v + 1)) (lv' := [(2, .int (nI (v + 1))), (0, .ref f)]) hx hb dX1_init_136 hl (k := 0) rfl (nI_1 v) (by decide) rfl (fun ls hl => ?_)
      refine lv_goto (tgt := 104) hx hb dX1_init_139 (by decide) ?_
      refine W.widen (k := 23 + 4 * (v + 1)) (n := 283 + 10 * (v + 1)) (by omega) (by omega) ?_
      exact ih (v + 1) (by omega) H locs hO hBa hPu hLa hEm hPy hPi hRa hBb hBs hTr (by omega) hS ls (lv_sub hl [0, 1] rfl)
set_option maxHeartbeats 2000000 in
set_option maxRecDepth 100000 in
theorem c_X1_init (l : Launch) (g : WG) (H0 : Heap) (f t : Nat) (hO : obj g H0 f 1 [.null, .null, .null, .null, .null, .null, .int 0, .null, .int 0, .int 0, .int 0, .null, .null, .int 0, .null, .null]) (hsz : H0.size = f + 1) : Ctr l (KK g) yX1_init wsX1_init { frames := 3, cells := 279, slots := 923, locals := 54 } [.ref f, .ref t] H0 eV (fun _ H => (obj g H f 1 (phF f t 0 0 0 0 0 (f + 10) (f + 17)) ∧ NatAt g H (f + 1) 0 ∧ PoolAt g H (f + 3) (f + 24) 48 (fun _ => 0) ∧ PoolAt g H (f + 4) (f + 26) 48 (fun _ => 0) ∧ xr_ia H (f + 5) (gI g) 48 (fun z9 => nI ((fun _ => 0) z9)) ∧ xr_ia H (f + 6) (gI g) 48 (fun z9 => nI ((fun _ => 0) z9)) ∧ xr_ia H (f + 7) (gI g) 16 (fun z9 => nI ((fun _ => 0) z9)) ∧ PoolAt g H (f + 8) (f + 216) 16 (fun _ => 0) ∧ PoolAt g H (f + 9) (f + 218) 16 (fun _ => 0) ∧ ShareAt g H (f + 10) 0 0 ∧ ShareAt g H (f + 17) 0 0) ∧ H.size = f + 280) (fun q => q = f ∨ f + 1 ≤ q) := by
  refine xr_enter (cc := cX1_init) (maxL := 3) (ret := none) (by decide) rfl (Nat.le_of_ble_eq_true rfl) ?_
  intro pgm env s mid below meth cde hx hb hr hml hts hown hlocks hnm hH hK ls hl
  subst hH
  have hl : lv_has ls 3 [(0, .ref f), (1, .ref t)] := hl
  have hS : va_S (fun q => q = f ∨ f + 1 ≤ q) s.heap s.heap [] := va_S.rf
  refine lv_aload_n hx hb dX1_init_0 rfl (lv_at hl 0 rfl) ?_
  refine W.objInit hx hb hown (hts (.methodLink RX1 3 objectInit) (by decide +kernel)) (hts (.instanceMethod objectInit) (by decide +kernel)) (hts _ (List.mem_cons_of_mem _ (List.mem_append_left _ (List.mem_append_left _ (List.mem_append_left _ (List.mem_append_left _ (List.mem_of_getElem? (i := 2) rfl))))))) rfl (by rw [hml]; exact hl.1) rfl dX1_init_1 (Nat.le_of_ble_eq_true rfl) (Nat.le_of_ble_eq_true rfl) ?_
  refine W.eq (g2 := F0 mid 4 ls []) rfl ?_
  refine lv_aload_n hx hb dX1_init_4 rfl (lv_at hl 0 rfl) ?_
  refine xr_new (ci := 0) (fs := [.null]) (C := RX0) (T := TX0) (N := 1) hx hb hts (by decide +kernel) tyX0 tyX0_ok hown (hts (.classLink RX1 9 RX0) (by decide +kernel)) (hts (.instantiable RX0 1) (by decide +kernel)) (hts (.initialized RX0) (by decide +kernel)) hK.1 hS rfl (fun j hj => by rcases (show j = 0 by omega) with rfl <;> rfl) (Nat.le_of_ble_eq_true rfl) (Nat.le_of_ble_eq_true rfl) dX1_init_5 (fun H hz hkp hQ hS => ?_)
  refine W.widen (k := 1) (n := 1) (Nat.le_of_ble_eq_true rfl) (Nat.le_of_ble_eq_true rfl) ?_
  rw [hsz] at hQ hz hkp ⊢
  replace hO := hO.kept (hkp _ (by omega))
  replace hsz := hz
  refine lv_dup hx hb dX1_init_8 rfl ?_
  refine xr_INv (rest := [.ref (f + 1), .ref f]) ⟨hx, hb, hml, hown, hts⟩ (KK_ok g) hK (c_X0_init l g H (f + 1) hQ hsz) ⟨va_cnB 0 hts gX1_init_X0_init_n11 rfl rfl rfl (hK.2.2.1 (RX1, 11, yX0_init) (by decide +kernel)) (hts (.initialized RX0) (by decide +kernel)) (by decide +kernel) ⟨Nat.le_of_ble_eq_true rfl, Nat.le_of_ble_eq_true rfl⟩, rfl, (hts (.instanceMethod yX0_init) (by decide +kernel))⟩ rfl hl.1 rfl (Nat.le_of_ble_eq_true rfl) dX1_init_9 ⟨Nat.le_of_ble_eq_true rfl, Nat.le_of_ble_eq_true rfl⟩ hS (fun q h => by have h : q = f + 1 ∨ f + 1 + 1 ≤ q := h; show q = f ∨ f + 1 ≤ q; omega) (fun _ H locs hq hz hkp hS => ?_)
  refine W.widen (k := 2) (n := 5) (Nat.le_of_ble_eq_true rfl) (Nat.le_of_ble_eq_true rfl) ?_
  replace hkp := fun (q : Nat) h1 (h2 : ¬ (q = f + 1 ∨ f + 1 + 1 ≤ q)) => hkp q h1 h2
  clear hz
  replace hO := hO.kept (hkp _ hO.lt (by omega))
  obtain ⟨hBa, hsz⟩ := hq
  refine xr_putF (ci := 1) (v := .ref (f + 1)) (ty := .object "SharesDesk$Natural") (C := RX1) (T := TX1) (N := 16) hx hb hts (by decide +kernel) tyX1 tyX1_ok nmX1 hown hK.1 hO hS (Or.inl rfl) rfl 1 (by decide) (hts (.fieldLink RX1 12 "SharesDesk$Phase" "base" "LSharesDesk$Natural;") (by decide +kernel)) rfl hnm rfl (by decide +kernel) rfl rfl (Nat.le_of_ble_eq_true rfl) dX1_init_12 (fun H locs hz hkp hO hS => ?_)
  replace hBa := hBa.kept (hkp _ (by omega)) (hkp _ (by omega))
  replace hsz := hz.trans hsz
  clear hz
  refine lv_aload_n hx hb dX1_init_15 rfl (lv_at hl 0 rfl) ?_
  refine lv_bipush (v := 48) hx hb dX1_init_16 (by decide) ?_
  refine xr_newq (cA := gN g) (N := 48) hx hb hown (hts (.classLink RX1 9 RX0) (by decide +kernel)) hK.2.1 hK.1 2 rfl hS (by decide) (by decide) (by decide) (Nat.le_of_ble_eq_true rfl) (Nat.le_of_ble_eq_true rfl) dX1_init_18 (fun H hz hkp hP0 hS => ?_)
  refine W.widen (k := 3) (n := 53) (Nat.le_of_ble_eq_true rfl) (Nat.le_of_ble_eq_true rfl) ?_
  rw [hsz] at hP0 hz hkp ⊢
  replace hBa := hBa.kept (hkp _ (by omega)) (hkp _ (by omega))
  replace hO := hO.kept (hkp _ (by omega))
  replace hsz := hz
  refine xr_putF (ci := 1) (v := .ref (f + 3)) (ty := .array (.object RX0)) (C := RX1) (T := TX1) (N := 16) hx hb hts (by decide +kernel) tyX1 tyX1_ok nmX1 hown hK.1 hO hS (Or.inl rfl) rfl 2 (by decide) (hts (.fieldLink RX1 18 "SharesDesk$Phase" "purses" "[LSharesDesk$Natural;") (by decide +kernel)) rfl hnm rfl (by decide +kernel) rfl rfl (Nat.le_of_ble_eq_true rfl) dX1_init_21 (fun H locs hz hkp hO hS => ?_)
  replace hBa := hBa.kept (hkp _ (by omega)) (hkp _ (by omega))
  replace hP0 := hP0.kept (hkp _ (by omega))
  replace hsz := hz.trans hsz
  clear hz
  refine lv_aload_n hx hb dX1_init_24 rfl (lv_at hl 0 rfl) ?_
  refine lv_bipush (v := 48) hx hb dX1_init_25 (by decide) ?_
  refine xr_newq (cA := gN g) (N := 48) hx hb hown (hts (.classLink RX1 9 RX0) (by decide +kernel)) hK.2.1 hK.1 2 rfl hS (by decide) (by decide) (by decide) (Nat.le_of_ble_eq_true rfl) (Nat.le_of_ble_eq_true rfl) dX1_init_27 (fun H hz hkp hL0 hS => ?_)
  refine W.widen (k := 4) (n := 101) (Nat.le_of_ble_eq_true rfl) (Nat.le_of_ble_eq_true rfl) ?_
  rw [hsz] at hL0 hz hkp ⊢
  replace hBa := hBa.kept (hkp _ (by omega)) (hkp _ (by omega))
  replace hP0 := hP0.kept (hkp _ (by omega))
  replace hO := hO.kept (hkp _ (by omega))
  replace hsz := hz
  refine xr_putF (ci := 1) (v := .ref (f + 4)) (ty := .array (.object RX0)) (C := RX1) (T := TX1) (N := 16) hx hb hts (by decide +kernel) tyX1 tyX1_ok nmX1 hown hK.1 hO hS (Or.inl rfl) rfl 3 (by decide) (hts (.fieldLink RX1 22 "SharesDesk$Phase" "lastPays" "[LSharesDesk$Natural;") (by decide +kernel)) rfl hnm rfl (by decide +kernel) rfl rfl (Nat.le_of_ble_eq_true rfl) dX1_init_30 (fun H locs hz hkp hO hS => ?_)
  replace hBa := hBa.kept (hkp _ (by omega)) (hkp _ (by omega))
  replace hP0 := hP0.kept (hkp _ (by omega))
  replace hL0 := hL0.kept (hkp _ (by omega))
  replace hsz := hz.trans hsz
  clear hz
  refine lv_aload_n hx hb dX1_init_33 rfl (lv_at hl 0 rfl) ?_
  refine lv_bipush (v := 48) hx hb dX1_init_34 (by decide) ?_
  refine xr_newa (atype := .int) (cA := gI g) (N := 48) hx hb (hts (.arrayClass .int) (by decide +kernel)) (hK.1.2 0 (gI g, .int) rfl).2 rfl hS (by decide) (by decide) (by decide) (Nat.le_of_ble_eq_true rfl) (Nat.le_of_ble_eq_true rfl) dX1_init_36 (fun H hz hkp hEm hS => ?_)
  refine W.widen (k := 5) (n := 149) (Nat.le_of_ble_eq_true rfl) (Nat.le_of_ble_eq_true rfl) ?_
  rw [hsz] at hEm hz hkp ⊢
  replace hBa := hBa.kept (hkp _ (by omega)) (hkp _ (by omega))
  replace hP0 := hP0.kept (hkp _ (by omega))
  replace hL0 := hL0.kept (hkp _ (by omega))
  replace hO := hO.kept (hkp _ (by omega))
  replace hsz := hz
  refine xr_putF (ci := 1) (v := .ref (f + 5)) (ty := .array .int) (C := RX1) (T := TX1) (N := 16) hx hb hts (by decide +kernel) tyX1 tyX1_ok nmX1 hown hK.1 hO hS (Or.inl rfl) rfl 4 (by decide) (hts (.fieldLink RX1 25 "SharesDesk$Phase" "emptiedIn" "[I") (by decide +kernel)) rfl hnm rfl (by decide +kernel) rfl rfl (Nat.le_of_ble_eq_true rfl) dX1_init_38 (fun H locs hz hkp hO hS => ?_)
  replace hBa := hBa.kept (hkp _ (by omega)) (hkp _ (by omega))
  replace hP0 := hP0.kept (hkp _ (by omega))
  replace hL0 := hL0.kept (hkp _ (by omega))
  replace hEm := hEm.kept (hkp _ (by omega))
  replace hsz := hz.trans hsz
  clear hz
  refine lv_aload_n hx hb dX1_init_41 rfl (lv_at hl 0 rfl) ?_
  refine lv_bipush (v := 48) hx hb dX1_init_42 (by decide) ?_
  refine xr_newa (atype := .int) (cA := gI g) (N := 48) hx hb (hts (.arrayClass .int) (by decide +kernel)) (hK.1.2 0 (gI g, .int) rfl).2 rfl hS (by decide) (by decide) (by decide) (Nat.le_of_ble_eq_true rfl) (Nat.le_of_ble_eq_true rfl) dX1_init_44 (fun H hz hkp hPy hS => ?_)
  refine W.widen (k := 6) (n := 197) (Nat.le_of_ble_eq_true rfl) (Nat.le_of_ble_eq_true rfl) ?_
  rw [hsz] at hPy hz hkp ⊢
  replace hBa := hBa.kept (hkp _ (by omega)) (hkp _ (by omega))
  replace hP0 := hP0.kept (hkp _ (by omega))
  replace hL0 := hL0.kept (hkp _ (by omega))
  replace hEm := hEm.kept (hkp _ (by omega))
  replace hO := hO.kept (hkp _ (by omega))
  replace hsz := hz
  refine xr_putF (ci := 1) (v := .ref (f + 6)) (ty := .array .int) (C := RX1) (T := TX1) (N := 16) hx hb hts (by decide +kernel) tyX1 tyX1_ok nmX1 hown hK.1 hO hS (Or.inl rfl) rfl 5 (by decide) (hts (.fieldLink RX1 29 "SharesDesk$Phase" "payers" "[I") (by decide +kernel)) rfl hnm rfl (by decide +kernel) rfl rfl (Nat.le_of_ble_eq_true rfl) dX1_init_46 (fun H locs hz hkp hO hS => ?_)
  replace hBa := hBa.kept (hkp _ (by omega)) (hkp _ (by omega))
  replace hP0 := hP0.kept (hkp _ (by omega))
  replace hL0 := hL0.kept (hkp _ (by omega))
  replace hEm := hEm.kept (hkp _ (by omega))
  replace hPy := hPy.kept (hkp _ (by omega))
  replace hsz := hz.trans hsz
  clear hz
  refine lv_aload_n hx hb dX1_init_49 rfl (lv_at hl 0 rfl) ?_
  refine lv_bipush (v := 16) hx hb dX1_init_50 (by decide) ?_
  refine xr_newa (atype := .int) (cA := gI g) (N := 16) hx hb (hts (.arrayClass .int) (by decide +kernel)) (hK.1.2 0 (gI g, .int) rfl).2 rfl hS (by decide) (by decide) (by decide) (Nat.le_of_ble_eq_true rfl) (Nat.le_of_ble_eq_true rfl) dX1_init_52 (fun H hz hkp hPi hS => ?_)
  refine W.widen (k := 7) (n := 213) (Nat.le_of_ble_eq_true rfl) (Nat.le_of_ble_eq_true rfl) ?_
  rw [hsz] at hPi hz hkp ⊢
  replace hBa := hBa.kept (hkp _ (by omega)) (hkp _ (by omega))
  replace hP0 := hP0.kept (hkp _ (by omega))
  replace hL0 := hL0.kept (hkp _ (by omega))
  replace hEm := hEm.kept (hkp _ (by omega))
  replace hPy := hPy.kept (hkp _ (by omega))
  replace hO := hO.kept (hkp _ (by omega))
  replace hsz := hz
  refine xr_putF (ci := 1) (v := .ref (f + 7)) (ty := .array .int) (C := RX1) (T := TX1) (N := 16) hx hb hts (by decide +kernel) tyX1 tyX1_ok nmX1 hown hK.1 hO hS (Or.inl rfl) rfl 7 (by decide) (hts (.fieldLink RX1 32 "SharesDesk$Phase" "picks" "[I") (by decide +kernel)) rfl hnm rfl (by decide +kernel) rfl rfl (Nat.le_of_ble_eq_true rfl) dX1_init_54 (fun H locs hz hkp hO hS => ?_)
  replace hBa := hBa.kept (hkp _ (by omega)) (hkp _ (by omega))
  replace hP0 := hP0.kept (hkp _ (by omega))
  replace hL0 := hL0.kept (hkp _ (by omega))
  replace hEm := hEm.kept (hkp _ (by omega))
  replace hPy := hPy.kept (hkp _ (by omega))
  replace hPi := hPi.kept (hkp _ (by omega))
  replace hsz := hz.trans hsz
  clear hz
  refine lv_aload_n hx hb dX1_init_57 rfl (lv_at hl 0 rfl) ?_
  refine lv_bipush (v := 16) hx hb dX1_init_58 (by decide) ?_
  refine xr_newq (cA := gN g) (N := 16) hx hb hown (hts (.classLink RX1 9 RX0) (by decide +kernel)) hK.2.1 hK.1 2 rfl hS (by decide) (by decide) (by decide) (Nat.le_of_ble_eq_true rfl) (Nat.le_of_ble_eq_true rfl) dX1_init_60 (fun H hz hkp hR0 hS => ?_)
  refine W.widen (k := 8) (n := 229) (Nat.le_of_ble_eq_true rfl) (Nat.le_of_ble_eq_true rfl) ?_
  rw [hsz] at hR0 hz hkp ⊢
  replace hBa := hBa.kept (hkp _ (by omega)) (hkp _ (by omega))
  replace hP0 := hP0.kept (hkp _ (by omega))
  replace hL0 := hL0.kept (hkp _ (by omega))
  replace hEm := hEm.kept (hkp _ (by omega))
  replace hPy := hPy.kept (hkp _ (by omega))
  replace hPi := hPi.kept (hkp _ (by omega))
  replace hO := hO.kept (hkp _ (by omega))
  replace hsz := hz
  refine xr_putF (ci := 1) (v := .ref (f + 8)) (ty := .array (.object RX0)) (C := RX1) (T := TX1) (N := 16) hx hb hts (by decide +kernel) tyX1 tyX1_ok nmX1 hown hK.1 hO hS (Or.inl rfl) rfl 11 (by decide) (hts (.fieldLink RX1 35 "SharesDesk$Phase" "rates" "[LSharesDesk$Natural;") (by decide +kernel)) rfl hnm rfl (by decide +kernel) rfl rfl (Nat.le_of_ble_eq_true rfl) dX1_init_63 (fun H locs hz hkp hO hS => ?_)
  replace hBa := hBa.kept (hkp _ (by omega)) (hkp _ (by omega))
  replace hP0 := hP0.kept (hkp _ (by omega))
  replace hL0 := hL0.kept (hkp _ (by omega))
  replace hEm := hEm.kept (hkp _ (by omega))
  replace hPy := hPy.kept (hkp _ (by omega))
  replace hPi := hPi.kept (hkp _ (by omega))
  replace hR0 := hR0.kept (hkp _ (by omega))
  replace hsz := hz.trans hsz
  clear hz
  refine lv_aload_n hx hb dX1_init_66 rfl (lv_at hl 0 rfl) ?_
  refine lv_bipush (v := 16) hx hb dX1_init_67 (by decide) ?_
  refine xr_newq (cA := gN g) (N := 16) hx hb hown (hts (.classLink RX1 9 RX0) (by decide +kernel)) hK.2.1 hK.1 2 rfl hS (by decide) (by decide) (by decide) (Nat.le_of_ble_eq_true rfl) (Nat.le_of_ble_eq_true rfl) dX1_init_69 (fun H hz hkp hB0 hS => ?_)
  refine W.widen (k := 9) (n := 245) (Nat.le_of_ble_eq_true rfl) (Nat.le_of_ble_eq_true rfl) ?_
  rw [hsz] at hB0 hz hkp ⊢
  replace hBa := hBa.kept (hkp _ (by omega)) (hkp _ (by omega))
  replace hP0 := hP0.kept (hkp _ (by omega))
  replace hL0 := hL0.kept (hkp _ (by omega))
  replace hEm := hEm.kept (hkp _ (by omega))
  replace hPy := hPy.kept (hkp _ (by omega))
  replace hPi := hPi.kept (hkp _ (by omega))
  replace hR0 := hR0.kept (hkp _ (by omega))
  replace hO := hO.kept (hkp _ (by omega))
  replace hsz := hz
  refine xr_putF (ci := 1) (v := .ref (f + 9)) (ty := .array (.object RX0)) (C := RX1) (T := TX1) (N := 16) hx hb hts (by decide +kernel) tyX1 tyX1_ok nmX1 hown hK.1 hO hS (Or.inl rfl) rfl 12 (by decide) (hts (.fieldLink RX1 38 "SharesDesk$Phase" "bases" "[LSharesDesk$Natural;") (by decide +kernel)) rfl hnm rfl (by decide +kernel) rfl rfl (Nat.le_of_ble_eq_true rfl) dX1_init_72 (fun H locs hz hkp hO hS => ?_)
  replace hBa := hBa.kept (hkp _ (by omega)) (hkp _ (by omega))
  replace hP0 := hP0.kept (hkp _ (by omega))
  replace hL0 := hL0.kept (hkp _ (by omega))
  replace hEm := hEm.kept (hkp _ (by omega))
  replace hPy := hPy.kept (hkp _ (by omega))
  replace hPi := hPi.kept (hkp _ (by omega))
  replace hR0 := hR0.kept (hkp _ (by omega))
  replace hB0 := hB0.kept (hkp _ (by omega))
  replace hsz := hz.trans hsz
  clear hz
  refine lv_aload_n hx hb dX1_init_75 rfl (lv_at hl 0 rfl) ?_
  refine xr_new (ci := 3) (fs := [.null, .int 0, .null, .null]) (C := RX3) (T := TX3) (N := 4) hx hb hts (by decide +kernel) tyX3 tyX3_ok hown (hts (.classLink RX1 41 RX3) (by decide +kernel)) (hts (.instantiable RX3 4) (by decide +kernel)) (hts (.initialized RX3) (by decide +kernel)) hK.1 hS rfl (fun j hj => by rcases (show j = 0 ∨ j = 1 ∨ j = 2 ∨ j = 3 by omega) with rfl | rfl | rfl | rfl <;> rfl) (Nat.le_of_ble_eq_true rfl) (Nat.le_of_ble_eq_true rfl) dX1_init_76 (fun H hz hkp hQ hS => ?_)
  refine W.widen (k := 10) (n := 249) (Nat.le_of_ble_eq_true rfl) (Nat.le_of_ble_eq_true rfl) ?_
  rw [hsz] at hQ hz hkp ⊢
  replace hBa := hBa.kept (hkp _ (by omega)) (hkp _ (by omega))
  replace hP0 := hP0.kept (hkp _ (by omega))
  replace hL0 := hL0.kept (hkp _ (by omega))
  replace hEm := hEm.kept (hkp _ (by omega))
  replace hPy := hPy.kept (hkp _ (by omega))
  replace hPi := hPi.kept (hkp _ (by omega))
  replace hR0 := hR0.kept (hkp _ (by omega))
  replace hB0 := hB0.kept (hkp _ (by omega))
  replace hO := hO.kept (hkp _ (by omega))
  replace hsz := hz
  refine lv_dup hx hb dX1_init_79 rfl ?_
  refine xr_INv (rest := [.ref (f + 10), .ref f]) ⟨hx, hb, hml, hown, hts⟩ (KK_ok g) hK (c_X3_init l g H (f + 10) hQ hsz) ⟨va_cnB 0 hts gX1_init_X3_init_n43 rfl rfl rfl (hK.2.2.1 (RX1, 43, yX3_init) (by decide +kernel)) (hts (.initialized RX3) (by decide +kernel)) (by decide +kernel) ⟨Nat.le_of_ble_eq_true rfl, Nat.le_of_ble_eq_true rfl⟩, rfl, (hts (.instanceMethod yX3_init) (by decide +kernel))⟩ rfl hl.1 rfl (Nat.le_of_ble_eq_true rfl) dX1_init_80 ⟨Nat.le_of_ble_eq_true rfl, Nat.le_of_ble_eq_true rfl⟩ hS (fun q h => by have h : q = f + 10 ∨ f + 10 + 1 ≤ q := h; show q = f ∨ f + 1 ≤ q; omega) (fun _ H locs hq hz hkp hS => ?_)
  refine W.widen (k := 16) (n := 264) (Nat.le_of_ble_eq_true rfl) (Nat.le_of_ble_eq_true rfl) ?_
  replace hkp := fun (q : Nat) h1 (h2 : ¬ (q = f + 10 ∨ f + 10 + 1 ≤ q)) => hkp q h1 h2
  clear hz
  replace hBa := hBa.kept (hkp _ hBa.1.lt (by omega)) (hkp _ hBa.2.1.lt (by omega))
  replace hP0 := hP0.kept (hkp _ hP0.lt (by omega))
  replace hL0 := hL0.kept (hkp _ hL0.lt (by omega))
  replace hEm := hEm.kept (hkp _ hEm.lt (by omega))
  replace hPy := hPy.kept (hkp _ hPy.lt (by omega))
  replace hPi := hPi.kept (hkp _ hPi.lt (by omega))
  replace hR0 := hR0.kept (hkp _ hR0.lt (by omega))
  replace hB0 := hB0.kept (hkp _ hB0.lt (by omega))
  replace hO := hO.kept (hkp _ hO.lt (by omega))
  obtain ⟨hBs, hsz⟩ := hq
  refine xr_put (ci := 1) (v := .ref (f + 10)) (ty := .object "SharesDesk$Share") (C := RX1) (T := TX1) (N := 16) hx hb hts (by decide +kernel) tyX1 tyX1_ok nmX1 hown hK.1 hO hS (Or.inl rfl) rfl 14 (by decide) (hts (.fieldLink RX1 44 "SharesDesk$Phase" "best" "LSharesDesk$Share;") (by decide +kernel)) rfl (by decide +kernel) rfl rfl (Nat.le_of_ble_eq_true rfl) dX1_init_83 (fun H locs hz hkp hO hS => ?_)
  replace hBa := hBa.kept (hkp _ (by omega)) (hkp _ (by omega))
  replace hP0 := hP0.kept (hkp _ (by omega))
  replace hL0 := hL0.kept (hkp _ (by omega))
  replace hEm := hEm.kept (hkp _ (by omega))
  replace hPy := hPy.kept (hkp _ (by omega))
  replace hPi := hPi.kept (hkp _ (by omega))
  replace hR0 := hR0.kept (hkp _ (by omega))
  replace hB0 := hB0.kept (hkp _ (by omega))
  replace hBs := hBs.kept (fun q hq1 hq2 hq3 => hkp q (by omega))
  replace hsz := hz.trans hsz
  clear hz
  refine lv_aload_n hx hb dX1_init_86 rfl (lv_at hl 0 rfl) ?_
  refine xr_new (ci := 3) (fs := [.null, .int 0, .null, .null]) (C := RX3) (T := TX3) (N := 4) hx hb hts (by decide +kernel) tyX3 tyX3_ok hown (hts (.classLink RX1 41 RX3) (by decide +kernel)) (hts (.instantiable RX3 4) (by decide +kernel)) (hts (.initialized RX3) (by decide +kernel)) hK.1 hS rfl (fun j hj => by rcases (show j = 0 ∨ j = 1 ∨ j = 2 ∨ j = 3 by omega) with rfl | rfl | rfl | rfl <;> rfl) (Nat.le_of_ble_eq_true rfl) (Nat.le_of_ble_eq_true rfl) dX1_init_87 (fun H hz hkp hQ hS => ?_)
  refine W.widen (k := 17) (n := 268) (Nat.le_of_ble_eq_true rfl) (Nat.le_of_ble_eq_true rfl) ?_
  rw [hsz] at hQ hz hkp ⊢
  replace hBa := hBa.kept (hkp _ (by omega)) (hkp _ (by omega))
  replace hP0 := hP0.kept (hkp _ (by omega))
  replace hL0 := hL0.kept (hkp _ (by omega))
  replace hEm := hEm.kept (hkp _ (by omega))
  replace hPy := hPy.kept (hkp _ (by omega))
  replace hPi := hPi.kept (hkp _ (by omega))
  replace hR0 := hR0.kept (hkp _ (by omega))
  replace hB0 := hB0.kept (hkp _ (by omega))
  replace hBs := hBs.kept (fun q hq1 hq2 hq3 => hkp q (by omega))
  replace hO := hO.kept (hkp _ (by omega))
  replace hsz := hz
  refine lv_dup hx hb dX1_init_90 rfl ?_
  refine xr_INv (rest := [.ref (f + 17), .ref f]) ⟨hx, hb, hml, hown, hts⟩ (KK_ok g) hK (c_X3_init l g H (f + 17) hQ hsz) ⟨va_cnB 0 hts gX1_init_X3_init_n43 rfl rfl rfl (hK.2.2.1 (RX1, 43, yX3_init) (by decide +kernel)) (hts (.initialized RX3) (by decide +kernel)) (by decide +kernel) ⟨Nat.le_of_ble_eq_true rfl, Nat.le_of_ble_eq_true rfl⟩, rfl, (hts (.instanceMethod yX3_init) (by decide +kernel))⟩ rfl hl.1 rfl (Nat.le_of_ble_eq_true rfl) dX1_init_91 ⟨Nat.le_of_ble_eq_true rfl, Nat.le_of_ble_eq_true rfl⟩ hS (fun q h => by have h : q = f + 17 ∨ f + 17 + 1 ≤ q := h; show q = f ∨ f + 1 ≤ q; omega) (fun _ H locs hq hz hkp hS => ?_)
  refine W.widen (k := 23) (n := 283) (Nat.le_of_ble_eq_true rfl) (Nat.le_of_ble_eq_true rfl) ?_
  replace hkp := fun (q : Nat) h1 (h2 : ¬ (q = f + 17 ∨ f + 17 + 1 ≤ q)) => hkp q h1 h2
  clear hz
  replace hBa := hBa.kept (hkp _ hBa.1.lt (by omega)) (hkp _ hBa.2.1.lt (by omega))
  replace hP0 := hP0.kept (hkp _ hP0.lt (by omega))
  replace hL0 := hL0.kept (hkp _ hL0.lt (by omega))
  replace hEm := hEm.kept (hkp _ hEm.lt (by omega))
  replace hPy := hPy.kept (hkp _ hPy.lt (by omega))
  replace hPi := hPi.kept (hkp _ hPi.lt (by omega))
  replace hR0 := hR0.kept (hkp _ hR0.lt (by omega))
  replace hB0 := hB0.kept (hkp _ hB0.lt (by omega))
  replace hBs := hBs.kept (fun q hq1 hq2 hq3 => hkp q hq1 (by omega))
  replace hO := hO.kept (hkp _ hO.lt (by omega))
  obtain ⟨hTr, hsz⟩ := hq
  refine xr_put (ci := 1) (v := .ref (f + 17)) (ty := .object "SharesDesk$Share") (C := RX1) (T := TX1) (N := 16) hx hb hts (by decide +kernel) tyX1 tyX1_ok nmX1 hown hK.1 hO hS (Or.inl rfl) rfl 15 (by decide) (hts (.fieldLink RX1 48 "SharesDesk$Phase" "tried" "LSharesDesk$Share;") (by decide +kernel)) rfl (by decide +kernel) rfl rfl (Nat.le_of_ble_eq_true rfl) dX1_init_94 (fun H locs hz hkp hO hS => ?_)
  replace hBa := hBa.kept (hkp _ (by omega)) (hkp _ (by omega))
  replace hP0 := hP0.kept (hkp _ (by omega))
  replace hL0 := hL0.kept (hkp _ (by omega))
  replace hEm := hEm.kept (hkp _ (by omega))
  replace hPy := hPy.kept (hkp _ (by omega))
  replace hPi := hPi.kept (hkp _ (by omega))
  replace hR0 := hR0.kept (hkp _ (by omega))
  replace hB0 := hB0.kept (hkp _ (by omega))
  replace hBs := hBs.kept (fun q hq1 hq2 hq3 => hkp q (by omega))
  replace hTr := hTr.kept (fun q hq1 hq2 hq3 => hkp q (by omega))
  replace hsz := hz.trans hsz
  clear hz
  refine lv_aload_n hx hb dX1_init_97 rfl (lv_at hl 0 rfl) ?_
  refine lv_aload_n hx hb dX1_init_98 rfl (lv_at hl 1 rfl) ?_
  refine xr_putF (ci := 1) (v := .ref t) (ty := .object "SharesDesk$Town") (C := RX1) (T := TX1) (N := 16) hx hb hts (by decide +kernel) tyX1 tyX1_ok nmX1 hown hK.1 hO hS (Or.inl rfl) rfl 0 (by decide) (hts (.fieldLink RX1 51 "SharesDesk$Phase" "town" "LSharesDesk$Town;") (by decide +kernel)) rfl hnm rfl (by decide +kernel) rfl rfl (Nat.le_of_ble_eq_true rfl) dX1_init_99 (fun H locs hz hkp hO hS => ?_)
  replace hBa := hBa.kept (hkp _ (by omega)) (hkp _ (by omega))
  replace hP0 := hP0.kept (hkp _ (by omega))
  replace hL0 := hL0.kept (hkp _ (by omega))
  replace hEm := hEm.kept (hkp _ (by omega))
  replace hPy := hPy.kept (hkp _ (by omega))
  replace hPi := hPi.kept (hkp _ (by omega))
  replace hR0 := hR0.kept (hkp _ (by omega))
  replace hB0 := hB0.kept (hkp _ (by omega))
  replace hBs := hBs.kept (fun q hq1 hq2 hq3 => hkp q (by omega))
  replace hTr := hTr.kept (fun q hq1 hq2 hq3 => hkp q (by omega))
  replace hsz := hz.trans hsz
  clear hz
  refine lv_iconst (v := 0) hx hb dX1_init_102 (by decide) ?_
  refine xr_ti (x' := nI 0) rfl ?_
  refine lv_istore_n (lv' := [(2, .int (nI 0)), (0, .ref f), (1, .ref t)]) hx hb dX1_init_103 rfl hl (by decide) rfl (fun ls hl => ?_)
  exact lpX1_loop1 l g f t pgm env s mid below meth cde hx hb hr hml hts hown hlocks hnm hK 48 0 (by omega) H locs hO hBa (PoolP.no hP0) (PoolP.no hL0) hEm hPy hPi (PoolP.no hR0) (PoolP.no hB0) hBs hTr hsz hS ls (lv_sub hl [0, 1] rfl)
