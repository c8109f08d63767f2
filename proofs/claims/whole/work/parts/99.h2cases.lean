theorem rg_yes {j M : Nat} (h1 : 1 ≤ j) (h2 : j ≤ M) (hM : M < 2 ^ 31) : rg (nI j) M = true := decide_eq_true (by rw [nI_toInt (by omega)]; omega)
set_option maxHeartbeats 1000000 in
set_option maxRecDepth 100000 in
theorem lwC_7 (l : Launch) (g : WG) (pgm : Program) (env : Env) (s : State) (mid : MethodId) (below : List Frame) (meth : Method) (cde : Code) (b0 L : Nat) (xs : Nat → Int32) (hx : pgm.tables.exec = Jvm.exec) (hb : cde.code = cL_law) (hml : cde.maxLocals = 7) (hts : ∀ w ∈ wsL_law, w.before #[Value.ref b0] s = true) (hown : s.vm.findClass RL = some mid.cls) (hK : KK g s) (hX : va_X b0 L xs s s.heap) (hb0 : b0 < s.heap.size) (hL : L ≤ 2560) (a : Nat) (ha : a = s.heap.size) (sa sb : Nat) (hl9 : l.stackTraces = false) (hKX : KX (fun q => a ≤ q) s.heap sa sb s) (H : Heap) (locs : List Loc) (cs sl i : Nat) (hi : i + 5 ≤ L) (hcs : cs ≤ 600000) (hsl : sl ≤ 7000000) (hJ : JT g H a) (hS : va_S (fun q => a ≤ q) s.heap H locs) (ls : Array Slot) (hl : lv_has ls 7 [(4, .int (nI i)), (3, .ref (a + 591)), (2, .ref (a + 579)), (1, .ref a), (0, .ref b0)]) (kk : ∀ (H1 : Heap) (locs1 : List Loc) (ls1 : Array Slot), JT g H1 a → va_S (fun q => a ≤ q) s.heap H1 locs1 → lv_has ls1 7 [(4, .int (nI i)), (3, .ref (a + 591)), (2, .ref (a + 579)), (1, .ref a), (0, .ref b0)] → W pgm l env room_1 s mid #[Value.ref b0] below meth cde H1 locs1 (cs + 1) (sl + 6) (lw_Z below #[Value.ref b0] s) (F0 mid 767 ls1 [])) : W pgm l env room_1 s mid #[Value.ref b0] below meth cde H locs cs sl (lw_Z below #[Value.ref b0] s) (F0 mid 335 ls []) := by
  obtain ⟨c0, vs0, ap0, bu0, c, vs, ap, bu, n, S, ow, tx, th, cn, Rw, ord, ch, f, hD, hMd, hAns, hSl, hOut⟩ := hJ
  have hbA : ¬ a ≤ b0 := by omega
  refine lv_aload_n hx hb dL_law_335 rfl (lv_at hl 3 rfl) ?_
  refine lv_aload_n hx hb dL_law_336 rfl (lv_at hl 4 rfl) ?_
  refine lv_iload hx hb dL_law_337 (lv_at hl 0 rfl) ?_
  refine lv_iconst (v := 1) hx hb dL_law_339 (by decide) ?_
  refine xr_ti (x' := nI 1) rfl ?_
  refine lv_iadd hx hb dL_law_340 ?_
  refine xr_ti (x' := nI (i + 1)) (nI_add _ _) ?_
  refine va_sld hx hb hX hb0 hbA hS (vp_in_nI (show i + 1 < L by omega) (by omega)) dL_law_341 ?_
  rw [nI_clamp (show i + 1 < 2 ^ 31 by omega)]
  refine lv_aload_n hx hb dL_law_342 rfl (lv_at hl 4 rfl) ?_
  refine lv_iload hx hb dL_law_343 (lv_at hl 0 rfl) ?_
  refine lv_iconst (v := 2) hx hb dL_law_345 (by decide) ?_
  refine xr_ti (x' := nI 2) rfl ?_
  refine lv_iadd hx hb dL_law_346 ?_
  refine xr_ti (x' := nI (i + 2)) (nI_add _ _) ?_
  refine va_sld hx hb hX hb0 hbA hS (vp_in_nI (show i + 2 < L by omega) (by omega)) dL_law_347 ?_
  rw [nI_clamp (show i + 2 < 2 ^ 31 by omega)]
  refine lv_aload_n hx hb dL_law_348 rfl (lv_at hl 1 rfl) ?_
  refine xr_SW (rest := []) ⟨hx, hb, hml, hown, hts⟩ (KKX_ok g (fun q => a ≤ q ∧ q < a + 579) H sa sb) ⟨hK, (hKX.kept hS.2.1).narrow (fun q h => h.1)⟩ (c_L_raise l g H sa sb hl9 a c0 vs0 ap0 bu0 c vs ap bu n S ow tx hD (a + 591) f hOut (by omega) (xs (i + 1)) (xs (i + 2))) (vx_cwSW 4 hts gL_law_L_raise rfl rfl rfl (by decide +kernel) ⟨Nat.le_of_ble_eq_true rfl, Nat.le_of_ble_eq_true rfl⟩) rfl hl.1 rfl (Nat.le_of_ble_eq_true rfl) dL_law_349 ⟨(by show (_ : Nat) ≤ 601024; first | omega | (dsimp only; omega)), (by show (_ : Nat) ≤ 7293034; first | omega | (dsimp only; omega))⟩ hS (fun q h => by have h : (a ≤ q ∧ q < a + 579) ∨ q = a + 591 := h; show a ≤ q; omega) (fun k9 H1 locs hq hz hkp hS => ?_)
  replace hkp := fun (q : Nat) h1 (h2 : ¬ ((a ≤ q ∧ q < a + 579) ∨ q = a + 591)) => hkp q h1 h2
  have hMd := hMd.kept (fun q h1 h2 h3 => hkp q h1 (by omega))
  refine W.eq (g2 := F0 mid 352 ls [.int k9]) rfl ?_
  rcases hq with ⟨rfl, hno, hkeep⟩ | ⟨rfl, r9, hOut, hRa⟩
  · have hD := hD.kept (fun q h1 h2 => hkeep q h1)
    have hOut := hOut.kept (hkeep _ hOut.lt)
    refine lv_istore (lv' := [(5, .int 1), (4, .int (nI i)), (3, .ref (a + 591)), (2, .ref (a + 579)), (1, .ref a), (0, .ref b0)]) hx hb dL_law_352 hl (by decide) rfl (fun ls hl => ?_)
    refine lv_aload_n hx hb dL_law_354 rfl (lv_at hl 3 rfl) ?_
    refine lv_aload_n hx hb dL_law_355 rfl (lv_at hl 5 rfl) ?_
    refine lv_iload hx hb dL_law_356 (lv_at hl 1 rfl) ?_
    refine lv_iconst (v := 1) hx hb dL_law_358 (by decide) ?_
    refine xr_ti (x' := nI 1) rfl ?_
    refine lv_iadd hx hb dL_law_359 ?_
    refine xr_ti (x' := nI (i + 1)) (nI_add _ _) ?_
    refine va_sld hx hb hX hb0 hbA hS (vp_in_nI (show i + 1 < L by omega) (by omega)) dL_law_360 ?_
    rw [nI_clamp (show i + 1 < 2 ^ 31 by omega)]
    refine lv_aload_n hx hb dL_law_361 rfl (lv_at hl 5 rfl) ?_
    refine lv_iload hx hb dL_law_362 (lv_at hl 1 rfl) ?_
    refine lv_iconst (v := 2) hx hb dL_law_364 (by decide) ?_
    refine xr_ti (x' := nI 2) rfl ?_
    refine lv_iadd hx hb dL_law_365 ?_
    refine xr_ti (x' := nI (i + 2)) (nI_add _ _) ?_
    refine va_sld hx hb hX hb0 hbA hS (vp_in_nI (show i + 2 < L by omega) (by omega)) dL_law_366 ?_
    rw [nI_clamp (show i + 2 < 2 ^ 31 by omega)]
    refine xr_Vi (rest := []) ⟨hx, hb, hml, hown, hts⟩ (KK_ok g) hK (c_X7_raise l g H1 (a + 579) th c0 vs0 ap0 bu0 c vs ap bu cn n Rw ord ch hMd (xs (i + 1)) (xs (i + 2))) (cwV 2 hts gL_law_X7_raise rfl rfl rfl (by decide +kernel) ⟨Nat.le_of_ble_eq_true rfl, Nat.le_of_ble_eq_true rfl⟩) (xr_rec hK (show obj g H1 (a + 579) 7 _ from hMd.choose_spec.choose_spec.choose_spec.choose_spec.1) rfl) rfl hl.1 rfl (Nat.le_of_ble_eq_true rfl) dL_law_367 ⟨(by show (_ : Nat) ≤ 601024; first | omega | (dsimp only; omega)), (by show (_ : Nat) ≤ 7293034; first | omega | (dsimp only; omega))⟩ hS (fun q h => by have h : a + 579 ≤ q ∧ q < a + 579 + 12 := h; show a ≤ q; omega) (fun r2 H locs hq hz hkp hS => ?_)
    replace hkp := fun (q : Nat) h1 (h2 : ¬ (a + 579 ≤ q ∧ q < a + 579 + 12)) => hkp q h1 h2
    have hOut := hOut.kept (hkp _ hOut.lt (by omega))
    have hD := hD.kept (fun q h1 h2 => hkp q h1 (by omega))
    rcases hq with ⟨-, -, hMd⟩ | ⟨hyes, -⟩
    · skip
      refine lv_istore (lv' := [(6, .int r2), (5, .int 1), (4, .int (nI i)), (3, .ref (a + 591)), (2, .ref (a + 579)), (1, .ref a), (0, .ref b0)]) hx hb dL_law_370 hl (by decide) rfl (fun ls hl => ?_)
      refine lv_aload_n hx hb dL_law_372 rfl (lv_at hl 4 rfl) ?_
      refine xr_Vi (rest := []) ⟨hx, hb, hml, hown, hts⟩ (KK_ok g) hK (c_X7_thrown l g H (a + 579) 1 c0 vs0 ap0 bu0 c vs ap bu cn n Rw ord ch hMd) (cwV 0 hts gL_law_X7_thrown rfl rfl rfl (by decide +kernel) ⟨Nat.le_of_ble_eq_true rfl, Nat.le_of_ble_eq_true rfl⟩) (xr_rec hK (show obj g H (a + 579) 7 _ from hMd.choose_spec.choose_spec.choose_spec.choose_spec.1) rfl) rfl hl.1 rfl (Nat.le_of_ble_eq_true rfl) dL_law_373 ⟨(by show (_ : Nat) ≤ 601024; first | omega | (dsimp only; omega)), (by show (_ : Nat) ≤ 7293034; first | omega | (dsimp only; omega))⟩ hS (fun q h => h.elim) (fun r H locs hq hz hkp hS941 => ?_)
      obtain ⟨rfl, rfl⟩ := hq
      have hS := hS941
      refine lv_iload hx hb dL_law_376 (lv_at hl 1 rfl) ?_
      refine lv_icmp_eq (tgt := 383) hx hb dL_law_378 (by decide) (fun hcmp => ?_) (fun hcmp => ?_)
      · clear hcmp
        refine lv_iload hx hb dL_law_383 (lv_at hl 1 rfl) ?_
        refine lv_if_ne (tgt := 400) hx hb dL_law_385 (by decide) (fun hk9 => ?_) (fun hk9 => ?_)
        · clear hk9
          refine lv_goto (tgt := 767) hx hb dL_law_400 (by decide) ?_
          refine W.widen (k := cs + 1) (n := sl + 6) (by show (_ : Nat) ≤ cs + 1; first | omega | (dsimp only; omega)) (by show (_ : Nat) ≤ sl + 6; first | omega | (dsimp only; omega)) ?_
          exact kk H _ ls ⟨_, _, _, _, _, _, _, _, _, _, _, _, _, _, _, _, _, _, hD, hMd, hAns, hSl, hOut⟩ hS (lv_sub hl [2, 3, 4, 5, 6] rfl)
        · exact absurd hk9 (by decide)
      · exact absurd rfl hcmp
    · exact absurd (hno.symm.trans hyes) (by decide)
  · skip
    refine lv_istore (lv' := [(5, .int 0), (4, .int (nI i)), (3, .ref (a + 591)), (2, .ref (a + 579)), (1, .ref a), (0, .ref b0)]) hx hb dL_law_352 hl (by decide) rfl (fun ls hl => ?_)
    refine lv_aload_n hx hb dL_law_354 rfl (lv_at hl 3 rfl) ?_
    refine lv_aload_n hx hb dL_law_355 rfl (lv_at hl 5 rfl) ?_
    refine lv_iload hx hb dL_law_356 (lv_at hl 1 rfl) ?_
    refine lv_iconst (v := 1) hx hb dL_law_358 (by decide) ?_
    refine xr_ti (x' := nI 1) rfl ?_
    refine lv_iadd hx hb dL_law_359 ?_
    refine xr_ti (x' := nI (i + 1)) (nI_add _ _) ?_
    refine va_sld hx hb hX hb0 hbA hS (vp_in_nI (show i + 1 < L by omega) (by omega)) dL_law_360 ?_
    rw [nI_clamp (show i + 1 < 2 ^ 31 by omega)]
    refine lv_aload_n hx hb dL_law_361 rfl (lv_at hl 5 rfl) ?_
    refine lv_iload hx hb dL_law_362 (lv_at hl 1 rfl) ?_
    refine lv_iconst (v := 2) hx hb dL_law_364 (by decide) ?_
    refine xr_ti (x' := nI 2) rfl ?_
    refine lv_iadd hx hb dL_law_365 ?_
    refine xr_ti (x' := nI (i + 2)) (nI_add _ _) ?_
    refine va_sld hx hb hX hb0 hbA hS (vp_in_nI (show i + 2 < L by omega) (by omega)) dL_law_366 ?_
    rw [nI_clamp (show i + 2 < 2 ^ 31 by omega)]
    refine xr_Vi (rest := []) ⟨hx, hb, hml, hown, hts⟩ (KK_ok g) hK (c_X7_raise l g H1 (a + 579) th c0 vs0 ap0 bu0 c vs ap bu cn n Rw ord ch hMd (xs (i + 1)) (xs (i + 2))) (cwV 2 hts gL_law_X7_raise rfl rfl rfl (by decide +kernel) ⟨Nat.le_of_ble_eq_true rfl, Nat.le_of_ble_eq_true rfl⟩) (xr_rec hK (show obj g H1 (a + 579) 7 _ from hMd.choose_spec.choose_spec.choose_spec.choose_spec.1) rfl) rfl hl.1 rfl (Nat.le_of_ble_eq_true rfl) dL_law_367 ⟨(by show (_ : Nat) ≤ 601024; first | omega | (dsimp only; omega)), (by show (_ : Nat) ≤ 7293034; first | omega | (dsimp only; omega))⟩ hS (fun q h => by have h : a + 579 ≤ q ∧ q < a + 579 + 12 := h; show a ≤ q; omega) (fun r2 H locs hq hz hkp hS => ?_)
    replace hkp := fun (q : Nat) h1 (h2 : ¬ (a + 579 ≤ q ∧ q < a + 579 + 12)) => hkp q h1 h2
    have hOut := hOut.kept (hkp _ hOut.lt (by omega))
    have hRa := hRa.kept (fun q h1 h2 => hkp q h1 (by omega))
    obtain ⟨n1, S1, s8, m8, j1, f1, f2, f3, f4, f5, f6, f7, hR1, hcase, hD⟩ := hRa
    rcases hq with ⟨hno, -, -⟩ | ⟨-, n2, R2, ord2, ch2, s9, m9, j2, e1, e2, e3, e4, e5, e6, hr2, hMd, hW2, hR2, hOK, hNO⟩
    · exact absurd (hno.symm.trans (by rw [f1, f2, rg_yes f3 f4 (by decide), inR_yes (show m8 < 101 by omega) (by decide)])) (by decide)
    · have q1 : s8 = s9 := (nI_inj (by omega) (by omega)).mp (f1.symm.trans e1)
      have q2 : m8 = m9 := (nI_inj (by omega) (by omega)).mp (f2.symm.trans e2)
      subst q1
      subst q2
      obtain ⟨d1, d2, d3, d4, -, -⟩ := desk_bd hD
      have q3 : j1 = j2 := rai_j d3 f6 e6 hcase ⟨hOK, hNO⟩
      subst q3
      obtain ⟨en, hC⟩ := res_ok d3 hR1 hR2 (hOK j1 (Nat.le_refl _))
      subst en
      have hAns := ans_of hR1 hR2 hW2 hC d1 d2
      have hSl : SlOK ap0 n1 S1 (-1) [] := fun j hj q => absurd q.symm (nI_m1 (by omega))
      refine lv_istore (lv' := [(6, .int r2), (5, .int 0), (4, .int (nI i)), (3, .ref (a + 591)), (2, .ref (a + 579)), (1, .ref a), (0, .ref b0)]) hx hb dL_law_370 hl (by decide) rfl (fun ls hl => ?_)
      refine lv_aload_n hx hb dL_law_372 rfl (lv_at hl 4 rfl) ?_
      refine xr_Vi (rest := []) ⟨hx, hb, hml, hown, hts⟩ (KK_ok g) hK (c_X7_thrown l g H (a + 579) 0 c0 vs0 ap0 bu0 c0 vs0 ap0 bu0 (cnt vs0 48) n1 R2 ord2 ch2 hMd) (cwV 0 hts gL_law_X7_thrown rfl rfl rfl (by decide +kernel) ⟨Nat.le_of_ble_eq_true rfl, Nat.le_of_ble_eq_true rfl⟩) (xr_rec hK (show obj g H (a + 579) 7 _ from hMd.choose_spec.choose_spec.choose_spec.choose_spec.1) rfl) rfl hl.1 rfl (Nat.le_of_ble_eq_true rfl) dL_law_373 ⟨(by show (_ : Nat) ≤ 601024; first | omega | (dsimp only; omega)), (by show (_ : Nat) ≤ 7293034; first | omega | (dsimp only; omega))⟩ hS (fun q h => h.elim) (fun r H locs hq hz hkp hS942 => ?_)
      obtain ⟨rfl, rfl⟩ := hq
      have hS := hS942
      refine lv_iload hx hb dL_law_376 (lv_at hl 1 rfl) ?_
      refine lv_icmp_eq (tgt := 383) hx hb dL_law_378 (by decide) (fun hcmp => ?_) (fun hcmp => ?_)
      · clear hcmp
        refine lv_iload hx hb dL_law_383 (lv_at hl 1 rfl) ?_
        refine lv_if_ne (tgt := 400) hx hb dL_law_385 (by decide) (fun hk9 => ?_) (fun hk9 => ?_)
        · exact absurd rfl hk9
        · clear hk9
          refine lv_aload_n hx hb dL_law_388 rfl (lv_at hl 3 rfl) ?_
          refine lv_iconst (v := 0) hx hb dL_law_389 (by decide) ?_
          refine xr_lald hx hb hK.1 hOut 4 rfl (by show ¬ (_ ∨ _); decide) dL_law_390 ?_
          refine lv_iload hx hb dL_law_391 (lv_at hl 0 rfl) ?_
          refine lv_i2l (v := r2.toInt64) hx hb dL_law_393 rfl ?_
          refine W.lcmp hx hb dL_law_394 ?_
          refine lv_if_eq (tgt := 400) hx hb dL_law_395 (by decide) (fun hlc => ?_) (fun hlc => ?_)
          · clear hlc
            refine lv_goto (tgt := 767) hx hb dL_law_400 (by decide) ?_
            refine W.widen (k := cs + 1) (n := sl + 6) (by show (_ : Nat) ≤ cs + 1; first | omega | (dsimp only; omega)) (by show (_ : Nat) ≤ sl + 6; first | omega | (dsimp only; omega)) ?_
            exact kk H _ ls ⟨_, _, _, _, _, _, _, _, _, _, _, _, _, _, _, _, _, _, hD, hMd, hAns, hSl, hOut⟩ hS (lv_sub hl [2, 3, 4, 5, 6] rfl)
          · exact absurd ((lg_cmp_eq _ _).mpr (congrArg Int32.toInt64 (f7.trans hr2.symm))) hlc
      · exact absurd rfl hcmp
set_option maxHeartbeats 1000000 in
set_option maxRecDepth 100000 in
theorem lwC_15 (l : Launch) (g : WG) (pgm : Program) (env : Env) (s : State) (mid : MethodId) (below : List Frame) (meth : Method) (cde : Code) (b0 L : Nat) (xs : Nat → Int32) (hx : pgm.tables.exec = Jvm.exec) (hb : cde.code = cL_law) (hml : cde.maxLocals = 7) (hts : ∀ w ∈ wsL_law, w.before #[Value.ref b0] s = true) (hown : s.vm.findClass RL = some mid.cls) (hK : KK g s) (hX : va_X b0 L xs s s.heap) (hb0 : b0 < s.heap.size) (hL : L ≤ 2560) (a : Nat) (ha : a = s.heap.size) (sa sb : Nat) (hl9 : l.stackTraces = false) (hKX : KX (fun q => a ≤ q) s.heap sa sb s) (H : Heap) (locs : List Loc) (cs sl i : Nat) (hi : i + 5 ≤ L) (hcs : cs ≤ 600000) (hsl : sl ≤ 7000000) (hJ : JT g H a) (hS : va_S (fun q => a ≤ q) s.heap H locs) (ls : Array Slot) (hl : lv_has ls 7 [(4, .int (nI i)), (3, .ref (a + 591)), (2, .ref (a + 579)), (1, .ref a), (0, .ref b0)]) (kk : ∀ (H1 : Heap) (locs1 : List Loc) (ls1 : Array Slot), JT g H1 a → va_S (fun q => a ≤ q) s.heap H1 locs1 → lv_has ls1 7 [(4, .int (nI i)), (3, .ref (a + 591)), (2, .ref (a + 579)), (1, .ref a), (0, .ref b0)] → W pgm l env room_1 s mid #[Value.ref b0] below meth cde H1 locs1 (cs + 1) (sl + 6) (lw_Z below #[Value.ref b0] s) (F0 mid 767 ls1 [])) : W pgm l env room_1 s mid #[Value.ref b0] below meth cde H locs cs sl (lw_Z below #[Value.ref b0] s) (F0 mid 674 ls []) := by
  obtain ⟨c0, vs0, ap0, bu0, c, vs, ap, bu, n, S, ow, tx, th, cn, Rw, ord, ch, f, hD, hMd, hAns, hSl, hOut⟩ := hJ
  have hbA : ¬ a ≤ b0 := by omega
  obtain ⟨-, -, -, -, -, d6⟩ := desk_bd hD
  have hcn48 : cn ≤ 48 := by rw [hAns.2.2.1]; exact cnt_le vs 48
  refine lv_aload_n hx hb dL_law_674 rfl (lv_at hl 3 rfl) ?_
  refine lv_aload_n hx hb dL_law_675 rfl (lv_at hl 4 rfl) ?_
  refine lv_iload hx hb dL_law_676 (lv_at hl 0 rfl) ?_
  refine lv_iconst (v := 1) hx hb dL_law_678 (by decide) ?_
  refine xr_ti (x' := nI 1) rfl ?_
  refine lv_iadd hx hb dL_law_679 ?_
  refine xr_ti (x' := nI (i + 1)) (nI_add _ _) ?_
  refine va_sld hx hb hX hb0 hbA hS (vp_in_nI (show i + 1 < L by omega) (by omega)) dL_law_680 ?_
  rw [nI_clamp (show i + 1 < 2 ^ 31 by omega)]
  refine lv_aload_n hx hb dL_law_681 rfl (lv_at hl 1 rfl) ?_
  refine xr_SW (rest := []) ⟨hx, hb, hml, hown, hts⟩ (KKX_ok g (fun _ => False) H sa sb) ⟨hK, (hKX.kept hS.2.1).narrow (fun q h => h.elim)⟩ (c_L_passedOver l g H sa sb hl9 a c0 vs0 ap0 bu0 c vs ap bu n S ow tx hD hAns.1 (a + 591) f hOut (by omega) (xs (i + 1))) (vx_cwSW 3 hts gL_law_L_passedOver rfl rfl rfl (by decide +kernel) ⟨Nat.le_of_ble_eq_true rfl, Nat.le_of_ble_eq_true rfl⟩) rfl hl.1 rfl (Nat.le_of_ble_eq_true rfl) dL_law_682 ⟨(by show (_ : Nat) ≤ 601024; first | omega | (dsimp only; omega)), (by show (_ : Nat) ≤ 7293034; first | omega | (dsimp only; omega))⟩ hS (fun q h => by have h : (a ≤ q ∧ q < a + 579) ∨ q = a + 591 := h; show a ≤ q; omega) (fun k9 H1 locs hq hz hkp hS => ?_)
  replace hkp := fun (q : Nat) h1 (h2 : ¬ ((a ≤ q ∧ q < a + 579) ∨ q = a + 591)) => hkp q h1 h2
  have hMd := hMd.kept (fun q h1 h2 h3 => hkp q h1 (by omega))
  refine W.eq (g2 := F0 mid 685 ls [.int k9]) rfl ?_
  rcases hq with ⟨rfl, hno, hkeep⟩ | ⟨rfl, r9, hOut, hRa⟩
  · have hD := hD.kept (fun q h1 h2 => hkeep q h1)
    have hOut := hOut.kept (hkeep _ hOut.lt)
    refine lv_istore (lv' := [(5, .int 1), (4, .int (nI i)), (3, .ref (a + 591)), (2, .ref (a + 579)), (1, .ref a), (0, .ref b0)]) hx hb dL_law_685 hl (by decide) rfl (fun ls hl => ?_)
    refine lv_aload_n hx hb dL_law_687 rfl (lv_at hl 3 rfl) ?_
    refine lv_aload_n hx hb dL_law_688 rfl (lv_at hl 5 rfl) ?_
    refine lv_iload hx hb dL_law_689 (lv_at hl 1 rfl) ?_
    refine lv_iconst (v := 1) hx hb dL_law_691 (by decide) ?_
    refine xr_ti (x' := nI 1) rfl ?_
    refine lv_iadd hx hb dL_law_692 ?_
    refine xr_ti (x' := nI (i + 1)) (nI_add _ _) ?_
    refine va_sld hx hb hX hb0 hbA hS (vp_in_nI (show i + 1 < L by omega) (by omega)) dL_law_693 ?_
    rw [nI_clamp (show i + 1 < 2 ^ 31 by omega)]
    refine xr_Vi (rest := []) ⟨hx, hb, hml, hown, hts⟩ (KK_ok g) hK (c_X7_passedOver l g H1 (a + 579) th c0 vs0 ap0 bu0 c vs ap bu cn n Rw ord ch hMd hcn48 d6 (xs (i + 1))) (cwV 1 hts gL_law_X7_passedOver rfl rfl rfl (by decide +kernel) ⟨Nat.le_of_ble_eq_true rfl, Nat.le_of_ble_eq_true rfl⟩) (xr_rec hK (show obj g H1 (a + 579) 7 _ from hMd.choose_spec.choose_spec.choose_spec.choose_spec.1) rfl) rfl hl.1 rfl (Nat.le_of_ble_eq_true rfl) dL_law_694 ⟨(by show (_ : Nat) ≤ 601024; first | omega | (dsimp only; omega)), (by show (_ : Nat) ≤ 7293034; first | omega | (dsimp only; omega))⟩ hS (fun q h => by have h : a + 579 ≤ q ∧ q < a + 579 + 12 := h; show a ≤ q; omega) (fun r2 H locs hq hz hkp hS => ?_)
    replace hkp := fun (q : Nat) h1 (h2 : ¬ (a + 579 ≤ q ∧ q < a + 579 + 12)) => hkp q h1 h2
    have hOut := hOut.kept (hkp _ hOut.lt (by omega))
    have hD := hD.kept (fun q h1 h2 => hkp q h1 (by omega))
    rcases hq with ⟨-, -, hMd⟩ | ⟨hyes, -⟩
    · skip
      refine lv_istore (lv' := [(6, .int r2), (5, .int 1), (4, .int (nI i)), (3, .ref (a + 591)), (2, .ref (a + 579)), (1, .ref a), (0, .ref b0)]) hx hb dL_law_697 hl (by decide) rfl (fun ls hl => ?_)
      refine lv_aload_n hx hb dL_law_699 rfl (lv_at hl 4 rfl) ?_
      refine xr_Vi (rest := []) ⟨hx, hb, hml, hown, hts⟩ (KK_ok g) hK (c_X7_thrown l g H (a + 579) 1 c0 vs0 ap0 bu0 c vs ap bu cn n Rw ord ch hMd) (cwV 0 hts gL_law_X7_thrown rfl rfl rfl (by decide +kernel) ⟨Nat.le_of_ble_eq_true rfl, Nat.le_of_ble_eq_true rfl⟩) (xr_rec hK (show obj g H (a + 579) 7 _ from hMd.choose_spec.choose_spec.choose_spec.choose_spec.1) rfl) rfl hl.1 rfl (Nat.le_of_ble_eq_true rfl) dL_law_700 ⟨(by show (_ : Nat) ≤ 601024; first | omega | (dsimp only; omega)), (by show (_ : Nat) ≤ 7293034; first | omega | (dsimp only; omega))⟩ hS (fun q h => h.elim) (fun r H locs hq hz hkp hS943 => ?_)
      obtain ⟨rfl, rfl⟩ := hq
      have hS := hS943
      refine lv_iload hx hb dL_law_703 (lv_at hl 1 rfl) ?_
      refine lv_icmp_eq (tgt := 710) hx hb dL_law_705 (by decide) (fun hcmp => ?_) (fun hcmp => ?_)
      · clear hcmp
        refine lv_iload hx hb dL_law_710 (lv_at hl 1 rfl) ?_
        refine lv_if_ne (tgt := 727) hx hb dL_law_712 (by decide) (fun hk9 => ?_) (fun hk9 => ?_)
        · clear hk9
          refine lv_goto (tgt := 767) hx hb dL_law_727 (by decide) ?_
          refine W.widen (k := cs + 1) (n := sl + 6) (by show (_ : Nat) ≤ cs + 1; first | omega | (dsimp only; omega)) (by show (_ : Nat) ≤ sl + 6; first | omega | (dsimp only; omega)) ?_
          exact kk H _ ls ⟨_, _, _, _, _, _, _, _, _, _, _, _, _, _, _, _, _, _, hD, hMd, hAns, hSl, hOut⟩ hS (lv_sub hl [2, 3, 4, 5, 6] rfl)
        · exact absurd hk9 (by decide)
      · exact absurd rfl hcmp
    · exact absurd (hno.symm.trans ((wi_rg (M := 4) (by decide)).symm.trans hyes)) (by decide)
  · skip
    obtain ⟨hC9, hkeep⟩ := hRa
    have hD := hD.kept (fun q h1 h2 => hkeep q h1 (by omega))
    have hyes9 : rg (xs (i + 1)) 4 = true := by
      rcases hC9 with ⟨-, q, -⟩ | ⟨-, m8, f1, f2, f3, -⟩
      · exact q
      · rw [f1]
        exact rg_yes f2 f3 (by decide)
    refine lv_istore (lv' := [(5, .int 0), (4, .int (nI i)), (3, .ref (a + 591)), (2, .ref (a + 579)), (1, .ref a), (0, .ref b0)]) hx hb dL_law_685 hl (by decide) rfl (fun ls hl => ?_)
    refine lv_aload_n hx hb dL_law_687 rfl (lv_at hl 3 rfl) ?_
    refine lv_aload_n hx hb dL_law_688 rfl (lv_at hl 5 rfl) ?_
    refine lv_iload hx hb dL_law_689 (lv_at hl 1 rfl) ?_
    refine lv_iconst (v := 1) hx hb dL_law_691 (by decide) ?_
    refine xr_ti (x' := nI 1) rfl ?_
    refine lv_iadd hx hb dL_law_692 ?_
    refine xr_ti (x' := nI (i + 1)) (nI_add _ _) ?_
    refine va_sld hx hb hX hb0 hbA hS (vp_in_nI (show i + 1 < L by omega) (by omega)) dL_law_693 ?_
    rw [nI_clamp (show i + 1 < 2 ^ 31 by omega)]
    refine xr_Vi (rest := []) ⟨hx, hb, hml, hown, hts⟩ (KK_ok g) hK (c_X7_passedOver l g H1 (a + 579) th c0 vs0 ap0 bu0 c vs ap bu cn n Rw ord ch hMd hcn48 d6 (xs (i + 1))) (cwV 1 hts gL_law_X7_passedOver rfl rfl rfl (by decide +kernel) ⟨Nat.le_of_ble_eq_true rfl, Nat.le_of_ble_eq_true rfl⟩) (xr_rec hK (show obj g H1 (a + 579) 7 _ from hMd.choose_spec.choose_spec.choose_spec.choose_spec.1) rfl) rfl hl.1 rfl (Nat.le_of_ble_eq_true rfl) dL_law_694 ⟨(by show (_ : Nat) ≤ 601024; first | omega | (dsimp only; omega)), (by show (_ : Nat) ≤ 7293034; first | omega | (dsimp only; omega))⟩ hS (fun q h => by have h : a + 579 ≤ q ∧ q < a + 579 + 12 := h; show a ≤ q; omega) (fun r2 H locs hq hz hkp hS => ?_)
    replace hkp := fun (q : Nat) h1 (h2 : ¬ (a + 579 ≤ q ∧ q < a + 579 + 12)) => hkp q h1 h2
    have hOut := hOut.kept (hkp _ hOut.lt (by omega))
    have hD := hD.kept (fun q h1 h2 => hkp q h1 (by omega))
    rcases hq with ⟨hno, -, -⟩ | ⟨-, hMd, hM9⟩
    · exact absurd (hno.symm.trans ((wi_rg (M := 4) (by decide)).trans hyes9)) (by decide)
    · have e9 : r9 = r2 := by
        rcases hC9 with ⟨q1, -, q2⟩ | ⟨q1, m8, f1, f2, f3, hF⟩
        · rcases hM9 with ⟨q3, q4⟩ | ⟨q3, -⟩
          · exact q2.trans q4.symm
          · exact absurd (hAns.2.2.1.trans q1) q3
        · rcases hM9 with ⟨q3, q4⟩ | ⟨q3, m9, e1, e2, e3, hL9⟩
          · exact absurd (hAns.2.2.1.symm.trans q3) q1
          · have q5 : m8 = m9 := (nI_inj (by omega) (by omega)).mp (f1.symm.trans e1)
            subst q5
            exact hAns.po (mod_ap hMd) f2 f3 hF hL9
      refine lv_istore (lv' := [(6, .int r2), (5, .int 0), (4, .int (nI i)), (3, .ref (a + 591)), (2, .ref (a + 579)), (1, .ref a), (0, .ref b0)]) hx hb dL_law_697 hl (by decide) rfl (fun ls hl => ?_)
      refine lv_aload_n hx hb dL_law_699 rfl (lv_at hl 4 rfl) ?_
      refine xr_Vi (rest := []) ⟨hx, hb, hml, hown, hts⟩ (KK_ok g) hK (c_X7_thrown l g H (a + 579) 0 c0 vs0 ap0 bu0 c vs ap bu cn n Rw ord ch hMd) (cwV 0 hts gL_law_X7_thrown rfl rfl rfl (by decide +kernel) ⟨Nat.le_of_ble_eq_true rfl, Nat.le_of_ble_eq_true rfl⟩) (xr_rec hK (show obj g H (a + 579) 7 _ from hMd.choose_spec.choose_spec.choose_spec.choose_spec.1) rfl) rfl hl.1 rfl (Nat.le_of_ble_eq_true rfl) dL_law_700 ⟨(by show (_ : Nat) ≤ 601024; first | omega | (dsimp only; omega)), (by show (_ : Nat) ≤ 7293034; first | omega | (dsimp only; omega))⟩ hS (fun q h => h.elim) (fun r H locs hq hz hkp hS944 => ?_)
      obtain ⟨rfl, rfl⟩ := hq
      have hS := hS944
      refine lv_iload hx hb dL_law_703 (lv_at hl 1 rfl) ?_
      refine lv_icmp_eq (tgt := 710) hx hb dL_law_705 (by decide) (fun hcmp => ?_) (fun hcmp => ?_)
      · clear hcmp
        refine lv_iload hx hb dL_law_710 (lv_at hl 1 rfl) ?_
        refine lv_if_ne (tgt := 727) hx hb dL_law_712 (by decide) (fun hk9 => ?_) (fun hk9 => ?_)
        · exact absurd rfl hk9
        · clear hk9
          refine lv_aload_n hx hb dL_law_715 rfl (lv_at hl 3 rfl) ?_
          refine lv_iconst (v := 0) hx hb dL_law_716 (by decide) ?_
          refine xr_lald hx hb hK.1 hOut 4 rfl (by show ¬ (_ ∨ _); decide) dL_law_717 ?_
          refine lv_iload hx hb dL_law_718 (lv_at hl 0 rfl) ?_
          refine lv_i2l (v := r2.toInt64) hx hb dL_law_720 rfl ?_
          refine W.lcmp hx hb dL_law_721 ?_
          refine lv_if_eq (tgt := 727) hx hb dL_law_722 (by decide) (fun hlc => ?_) (fun hlc => ?_)
          · clear hlc
            refine lv_goto (tgt := 767) hx hb dL_law_727 (by decide) ?_
            refine W.widen (k := cs + 1) (n := sl + 6) (by show (_ : Nat) ≤ cs + 1; first | omega | (dsimp only; omega)) (by show (_ : Nat) ≤ sl + 6; first | omega | (dsimp only; omega)) ?_
            exact kk H _ ls ⟨_, _, _, _, _, _, _, _, _, _, _, _, _, _, _, _, _, _, hD, hMd, hAns, hSl, hOut⟩ hS (lv_sub hl [2, 3, 4, 5, 6] rfl)
          · exact absurd ((lg_cmp_eq _ _).mpr (congrArg Int32.toInt64 (e9))) hlc
      · exact absurd rfl hcmp
