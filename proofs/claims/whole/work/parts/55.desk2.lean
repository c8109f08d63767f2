set_option maxHeartbeats 400000 in
set_option maxRecDepth 100000 in
theorem c_X6_chosen (l : Launch) (g : WG) (H0 : Heap) (a : Nat) (c0 : Nat → Nat) (vs0 : Nat) (ap0 : Nat → Nat) (bu0 : Nat) (c : Nat → Nat) (vs : Nat) (ap : Nat → Nat) (bu : Nat) (n : Nat) (S : PSt) (ow : Int32) (tx : List Nat) (hD : DeskAt g H0 a c0 vs0 ap0 bu0 c vs ap bu n S ow tx) (hQ : PhQ c vs ap n S) (i : Int32) : Ctr l (KK g) yX6_chosen wsX6_chosen { frames := 0, cells := 0, slots := 0, locals := 0 } [.ref a, .int i] H0 eI (fun r H => r = aCh n S i ∧ H = H0) (fun _ => False) := by
  refine xr_enter (cc := cX6_chosen) (maxL := 2) (ret := (some .int)) (by decide) rfl (Nat.le_of_ble_eq_true rfl) ?_
  intro pgm env s mid below meth cde hx hb hr hml hts hown hlocks hnm hH hK ls hl
  subst hH
  have hl : lv_has ls 2 [(0, .ref a), (1, .int i)] := hl
  have hS : va_S (fun _ => False) s.heap s.heap [] := va_S.rf
  obtain ⟨rs, tr, rt, ru, ly, n2, S2, hrt, hO, hT0, hT, hRt, hLk, hSl, hP, hP2, hPr, hp1, hp2⟩ := id hD
  obtain ⟨op, bs, tq, rb, kb, rq, kq, htb, hPO, hBa, hPu, hLa, hEm, hPy, hPi, hRa, hBb, hBs, hTr⟩ := id hP
  obtain ⟨hn16, hpik, hem, hps, hpc, hpay, hco, hBS, hbS, hBb48, hms⟩ := id hQ
  refine lv_iload_n hx hb dX6_chosen_0 rfl (lv_at hl 1 rfl) ?_
  refine lv_if_lt (tgt := 27) hx hb dX6_chosen_1 (by decide) (fun h0 => ?_) (fun h0 => ?_)
  · have h9 : inR i n = false := inR_neg h0
    refine lv_iconst (v := (-1)) hx hb dX6_chosen_27 (by decide) ?_
    exact xr_iret hx hb hr hlocks hS ⟨by unfold aCh; rw [if_neg (by rw [h9]; decide)], rfl⟩ dX6_chosen_28
  · obtain ⟨j, hj, rfl⟩ := nI_of h0
    refine lv_iload_n hx hb dX6_chosen_4 rfl (lv_at hl 1 rfl) ?_
    refine lv_aload_n hx hb dX6_chosen_5 rfl (lv_at hl 0 rfl) ?_
    refine va_get (D := g.1) (ci := 6) (v := .ref rs) (C := RX6) (T := TX6) (N := 7) hx hb hts (by decide +kernel) hown hK.1 (xr_one hO) 0 rfl rfl 5 (by decide) (hts (.fieldLink RX6 45 "SharesDesk" "result" "LSharesDesk$Phase;") (by decide +kernel)) (fun _ h9 => h9) rfl dX6_chosen_6 ?_
    refine va_get (D := g.1) (ci := 1) (v := .int (nI n)) (C := RX1) (T := TX1) (N := 16) hx hb hts (by decide +kernel) hown hK.1 (xr_one hPO) 0 rfl rfl 8 (by decide) (hts (.fieldLink RX6 91 "SharesDesk$Phase" "picked" "I") (by decide +kernel)) (fun _ h9 => h9) rfl dX6_chosen_9 ?_
    refine lv_icmp_ge (tgt := 27) hx hb dX6_chosen_12 (by decide) (fun h4 => ?_) (fun h4 => ?_)
    · have h9 : inR (nI j) n = false := inR_no hj ((nI_leI (by omega) hj).mp h4)
      refine lv_iconst (v := (-1)) hx hb dX6_chosen_27 (by decide) ?_
      exact xr_iret hx hb hr hlocks hS ⟨by unfold aCh; rw [if_neg (by rw [h9]; decide)], rfl⟩ dX6_chosen_28
    · have h8 : j < n := Nat.lt_of_not_le fun h => h4 (nI_le h hj)
      have h9 : inR (nI j) n = true := inR_yes h8 (by omega)
      refine lv_aload_n hx hb dX6_chosen_15 rfl (lv_at hl 0 rfl) ?_
      refine va_get (D := g.1) (ci := 6) (v := .ref rs) (C := RX6) (T := TX6) (N := 7) hx hb hts (by decide +kernel) hown hK.1 (xr_one hO) 0 rfl rfl 5 (by decide) (hts (.fieldLink RX6 45 "SharesDesk" "result" "LSharesDesk$Phase;") (by decide +kernel)) (fun _ h9 => h9) rfl dX6_chosen_16 ?_
      refine va_get (D := g.1) (ci := 1) (v := .ref (rs + 7)) (C := RX1) (T := TX1) (N := 16) hx hb hts (by decide +kernel) hown hK.1 (xr_one hPO) 0 rfl rfl 7 (by decide) (hts (.fieldLink RX6 117 "SharesDesk$Phase" "picks" "[I") (by decide +kernel)) (fun _ h9 => h9) rfl dX6_chosen_19 ?_
      refine lv_iload_n hx hb dX6_chosen_22 rfl (lv_at hl 1 rfl) ?_
      refine xr_rd hx hb hK hPi (show j < 16 by omega) (by decide) dX6_chosen_23 ?_
      refine lv_goto (tgt := 28) hx hb dX6_chosen_24 (by decide) ?_
      exact xr_iret hx hb hr hlocks hS ⟨by unfold aCh; rw [if_pos h9, ix_nI hj], rfl⟩ dX6_chosen_28
set_option maxHeartbeats 400000 in
set_option maxRecDepth 100000 in
theorem c_X6_spent (l : Launch) (g : WG) (H0 : Heap) (a : Nat) (c0 : Nat → Nat) (vs0 : Nat) (ap0 : Nat → Nat) (bu0 : Nat) (c : Nat → Nat) (vs : Nat) (ap : Nat → Nat) (bu : Nat) (n : Nat) (S : PSt) (ow : Int32) (tx : List Nat) (hD : DeskAt g H0 a c0 vs0 ap0 bu0 c vs ap bu n S ow tx) : Ctr l (KK g) yX6_spent wsX6_spent { frames := 0, cells := 0, slots := 0, locals := 0 } [.ref a] H0 eI (fun r H => r = nI (qco S) ∧ H = H0) (fun _ => False) := by
  refine xr_enter (cc := cX6_spent) (maxL := 1) (ret := (some .int)) (by decide) rfl (Nat.le_of_ble_eq_true rfl) ?_
  intro pgm env s mid below meth cde hx hb hr hml hts hown hlocks hnm hH hK ls hl
  subst hH
  have hl : lv_has ls 1 [(0, .ref a)] := hl
  have hS : va_S (fun _ => False) s.heap s.heap [] := va_S.rf
  obtain ⟨rs, tr, rt, ru, ly, n2, S2, hrt, hO, hT0, hT, hRt, hLk, hSl, hP, hP2, hPr, hp1, hp2⟩ := id hD
  obtain ⟨op, bs, tq, rb, kb, rq, kq, htb, hPO, hBa, hPu, hLa, hEm, hPy, hPi, hRa, hBb, hBs, hTr⟩ := id hP
  refine lv_aload_n hx hb dX6_spent_0 rfl (lv_at hl 0 rfl) ?_
  refine va_get (D := g.1) (ci := 6) (v := .ref rs) (C := RX6) (T := TX6) (N := 7) hx hb hts (by decide +kernel) hown hK.1 (xr_one hO) 0 rfl rfl 5 (by decide) (hts (.fieldLink RX6 45 "SharesDesk" "result" "LSharesDesk$Phase;") (by decide +kernel)) (fun _ h9 => h9) rfl dX6_spent_1 ?_
  refine va_get (D := g.1) (ci := 1) (v := .int (nI (qco S))) (C := RX1) (T := TX1) (N := 16) hx hb hts (by decide +kernel) hown hK.1 (xr_one hPO) 0 rfl rfl 10 (by decide) (hts (.fieldLink RX6 120 "SharesDesk$Phase" "cost" "I") (by decide +kernel)) (fun _ h9 => h9) rfl dX6_spent_4 ?_
  exact xr_iret hx hb hr hlocks hS ⟨rfl, rfl⟩ dX6_spent_7
set_option maxHeartbeats 400000 in
set_option maxRecDepth 100000 in
theorem c_X6_served (l : Launch) (g : WG) (H0 : Heap) (a : Nat) (c0 : Nat → Nat) (vs0 : Nat) (ap0 : Nat → Nat) (bu0 : Nat) (c : Nat → Nat) (vs : Nat) (ap : Nat → Nat) (bu : Nat) (n : Nat) (S : PSt) (ow : Int32) (tx : List Nat) (hD : DeskAt g H0 a c0 vs0 ap0 bu0 c vs ap bu n S ow tx) (hQ : PhQ c vs ap n S) (v : Int32) : Ctr l (KK g) yX6_served wsX6_served { frames := 2, cells := 0, slots := 0, locals := 41 } [.ref a, .int v] H0 eI (fun r H => r = aSe vs ap S v ∧ H = H0) (fun _ => False) := by
  refine xr_enter (cc := cX6_served) (maxL := 2) (ret := (some .int)) (by decide) rfl (Nat.le_of_ble_eq_true rfl) ?_
  intro pgm env s mid below meth cde hx hb hr hml hts hown hlocks hnm hH hK ls hl
  subst hH
  have hl : lv_has ls 2 [(0, .ref a), (1, .int v)] := hl
  have hS : va_S (fun _ => False) s.heap s.heap [] := va_S.rf
  obtain ⟨rs, tr, rt, ru, ly, n2, S2, hrt, hO, hT0, hT, hRt, hLk, hSl, hP, hP2, hPr, hp1, hp2⟩ := id hD
  obtain ⟨op, bs, tq, rb, kb, rq, kq, htb, hPO, hBa, hPu, hLa, hEm, hPy, hPi, hRa, hBb, hBs, hTr⟩ := id hP
  obtain ⟨hn16, hpik, hem, hps, hpc, hpay, hco, hBS, hbS, hBb48, hms⟩ := id hQ
  refine lv_aload_n hx hb dX6_served_0 rfl (lv_at hl 0 rfl) ?_
  refine va_get (D := g.1) (ci := 6) (v := .ref (a + 4)) (C := RX6) (T := TX6) (N := 7) hx hb hts (by decide +kernel) hown hK.1 (xr_one hO) 0 rfl rfl 1 (by decide) (hts (.fieldLink RX6 16 "SharesDesk" "past" "LSharesDesk$Town;") (by decide +kernel)) (fun _ h9 => h9) rfl dX6_served_1 ?_
  refine lv_iload_n hx hb dX6_served_4 rfl (lv_at hl 1 rfl) ?_
  refine xr_Vi (rest := []) ⟨hx, hb, hml, hown, hts⟩ (KK_ok g) hK (c_X5_hasVoter l g s.heap (a + 4) c vs ap bu hT v) (cwV 1 hts gX6_served_X5_hasVoter rfl rfl rfl (by decide +kernel) ⟨Nat.le_of_ble_eq_true rfl, Nat.le_of_ble_eq_true rfl⟩) (xr_rec hK hT.1 rfl) rfl hl.1 rfl (Nat.le_of_ble_eq_true rfl) dX6_served_5 ⟨Nat.le_of_ble_eq_true rfl, Nat.le_of_ble_eq_true rfl⟩ hS (fun q h => h.elim) (fun r H locs hq hz hkp hS932 => ?_)
  obtain ⟨rfl, rfl⟩ := hq
  have hS := hS932
  refine lv_if_eq (tgt := 22) hx hb dX6_served_8 (by decide) (fun h0 => ?_) (fun h0 => ?_)
  · have h9 : isV vs v = false := b2i_0.mp h0
    refine lv_iconst (v := 0) hx hb dX6_served_22 (by decide) ?_
    exact xr_iret hx hb hr hlocks hS ⟨by unfold aSe; rw [if_neg (by rw [h9]; decide)], rfl⟩ dX6_served_23
  · have h9 : isV vs v = true := b2i_n0.mp h0
    obtain ⟨j, hj, rfl, hvj, hv0⟩ := isV_of h9
    refine lv_aload_n hx hb dX6_served_11 rfl (lv_at hl 0 rfl) ?_
    refine va_get (D := g.1) (ci := 6) (v := .ref rs) (C := RX6) (T := TX6) (N := 7) hx hb hts (by decide +kernel) hown hK.1 (xr_one hO) 0 rfl rfl 5 (by decide) (hts (.fieldLink RX6 45 "SharesDesk" "result" "LSharesDesk$Phase;") (by decide +kernel)) (fun _ h9 => h9) rfl dX6_served_12 ?_
    refine lv_iload_n hx hb dX6_served_15 rfl (lv_at hl 1 rfl) ?_
    refine xr_Vi (rest := []) ⟨hx, hb, hml, hown, hts⟩ (KK_ok g) hK (c_X1_countServed l g s.heap (a + 4) c vs ap bu hT rs (qpc S) n (qps S) (qco S) op bs tq hPO (by omega) j hj (by omega)) (cwV 1 hts gX6_served_X1_countServed rfl rfl rfl (by decide +kernel) ⟨Nat.le_of_ble_eq_true rfl, Nat.le_of_ble_eq_true rfl⟩) (xr_rec hK hPO rfl) rfl hl.1 rfl (Nat.le_of_ble_eq_true rfl) dX6_served_16 ⟨Nat.le_of_ble_eq_true rfl, Nat.le_of_ble_eq_true rfl⟩ hS (fun q h => h.elim) (fun r H locs hq hz hkp hS933 => ?_)
    obtain ⟨rfl, rfl⟩ := hq
    have hS := hS933
    refine lv_goto (tgt := 23) hx hb dX6_served_19 (by decide) ?_
    exact xr_iret hx hb hr hlocks hS ⟨by unfold aSe; rw [if_pos h9, ix_nI (by omega)], rfl⟩ dX6_served_23
set_option maxHeartbeats 400000 in
set_option maxRecDepth 100000 in
theorem c_X6_keepTown (l : Launch) (g : WG) (H0 : Heap) (a : Nat) (c0 : Nat → Nat) (vs0 : Nat) (ap0 : Nat → Nat) (bu0 : Nat) (c : Nat → Nat) (vs : Nat) (ap : Nat → Nat) (bu : Nat) (n : Nat) (S : PSt) (ow : Int32) (tx : List Nat) (hD : DeskAt g H0 a c0 vs0 ap0 bu0 c vs ap bu n S ow tx) : Ctr l (KK g) yX6_keepTown wsX6_keepTown { frames := 2, cells := 0, slots := 0, locals := 61 } [.ref a] H0 eV (fun _ H => DeskAt g H a c0 vs0 ap0 bu0 c0 vs0 ap0 bu0 n S (-1) ([])) (fun q => a ≤ q ∧ q < a + 579) := by
  refine xr_enter (cc := cX6_keepTown) (maxL := 1) (ret := none) (by decide) rfl (Nat.le_of_ble_eq_true rfl) ?_
  intro pgm env s mid below meth cde hx hb hr hml hts hown hlocks hnm hH hK ls hl
  subst hH
  have hl : lv_has ls 1 [(0, .ref a)] := hl
  have hS : va_S (fun q => a ≤ q ∧ q < a + 579) s.heap s.heap [] := va_S.rf
  obtain ⟨rs, tr, rt, ru, ly, n2, S2, hrt, hO, hT0, hT, hRt, hLk, hSl, hP, hP2, hPr, hp1, hp2⟩ := id hD
  refine lv_aload_n hx hb dX6_keepTown_0 rfl (lv_at hl 0 rfl) ?_
  refine va_get (D := g.1) (ci := 6) (v := .ref (a + 4)) (C := RX6) (T := TX6) (N := 7) hx hb hts (by decide +kernel) hown hK.1 (xr_one hO) 0 rfl rfl 1 (by decide) (hts (.fieldLink RX6 16 "SharesDesk" "past" "LSharesDesk$Town;") (by decide +kernel)) (fun _ h9 => h9) rfl dX6_keepTown_1 ?_
  refine lv_aload_n hx hb dX6_keepTown_4 rfl (lv_at hl 0 rfl) ?_
  refine va_get (D := g.1) (ci := 6) (v := .ref (a + 1)) (C := RX6) (T := TX6) (N := 7) hx hb hts (by decide +kernel) hown hK.1 (xr_one hO) 0 rfl rfl 0 (by decide) (hts (.fieldLink RX6 10 "SharesDesk" "town" "LSharesDesk$Town;") (by decide +kernel)) (fun _ h9 => h9) rfl dX6_keepTown_5 ?_
  refine xr_Vv (rest := []) ⟨hx, hb, hml, hown, hts⟩ (KK_ok g) hK (c_X5_copy l g s.heap (a + 4) (a + 1) c vs ap bu hT c0 vs0 ap0 bu0 hT0 (by omega)) (cwV 1 hts gX6_keepTown_X5_copy rfl rfl rfl (by decide +kernel) ⟨Nat.le_of_ble_eq_true rfl, Nat.le_of_ble_eq_true rfl⟩) (xr_rec hK hT.1 rfl) rfl hl.1 rfl (Nat.le_of_ble_eq_true rfl) dX6_keepTown_8 ⟨Nat.le_of_ble_eq_true rfl, Nat.le_of_ble_eq_true rfl⟩ hS (fun q h => by have h : a + 4 ≤ q ∧ q < a + 4 + 3 := h; show a ≤ q ∧ q < a + 579; omega) (fun _ H locs hq hz hkp hS => ?_)
  replace hkp := fun (q : Nat) h1 (h2 : ¬ (a + 4 ≤ q ∧ q < a + 4 + 3)) => hkp q h1 h2
  replace hO := hO.kept (hkp _ hO.lt (by omega))
  replace hT0 := hT0.kept (fun q hq1 hq2 hq3 => hkp q hq1 (by omega))
  replace hRt := hRt.kept (fun q hq1 hq2 hq3 => hkp q hq1 (by omega))
  replace hLk := hLk.kept (hkp _ hLk.1.lt (by omega)) (hkp _ hLk.2.1.lt (by omega))
  replace hSl := hSl.kept (fun q hq1 hq2 hq3 => hkp q hq1 (by omega))
  replace hP := hP.kept (fun q hq1 hq2 hq3 => hkp q hq1 (by omega))
  replace hP2 := hP2.kept (fun q hq1 hq2 hq3 => hkp q hq1 (by omega))
  replace hPr := hPr.kept (hkp _ hPr.l1 (by omega)) (hkp _ hPr.l2 (by omega))
  have hT : TownAt g H (a + 4) c0 vs0 ap0 bu0 := hq
  refine lv_aload_n hx hb dX6_keepTown_11 rfl (lv_at hl 0 rfl) ?_
  refine va_get (D := g.1) (ci := 6) (v := .ref (a + 14)) (C := RX6) (T := TX6) (N := 7) hx hb hts (by decide +kernel) hown hK.1 (xr_one hO) 0 rfl rfl 4 (by decide) (hts (.fieldLink RX6 36 "SharesDesk" "slip" "LSharesDesk$Slip;") (by decide +kernel)) (fun _ h9 => h9) rfl dX6_keepTown_12 ?_
  refine lv_iconst (v := (-1)) hx hb dX6_keepTown_15 (by decide) ?_
  refine xr_Vv (rest := []) ⟨hx, hb, hml, hown, hts⟩ (KK_ok g) hK (c_X4_clear l g H (a + 14) ow (-1) tx hSl) (cwV 1 hts gX6_keepTown_X4_clear rfl rfl rfl (by decide +kernel) ⟨Nat.le_of_ble_eq_true rfl, Nat.le_of_ble_eq_true rfl⟩) (xr_rec hK hSl.1 rfl) rfl hl.1 rfl (Nat.le_of_ble_eq_true rfl) dX6_keepTown_16 ⟨Nat.le_of_ble_eq_true rfl, Nat.le_of_ble_eq_true rfl⟩ hS (fun q h => by have h : q = a + 14 := h; show a ≤ q ∧ q < a + 579; omega) (fun _ H locs hq hz hkp hS => ?_)
  replace hkp := fun (q : Nat) h1 (h2 : ¬ (q = a + 14)) => hkp q h1 h2
  replace hO := hO.kept (hkp _ hO.lt (by omega))
  replace hT0 := hT0.kept (fun q hq1 hq2 hq3 => hkp q hq1 (by omega))
  replace hRt := hRt.kept (fun q hq1 hq2 hq3 => hkp q hq1 (by omega))
  replace hLk := hLk.kept (hkp _ hLk.1.lt (by omega)) (hkp _ hLk.2.1.lt (by omega))
  replace hP := hP.kept (fun q hq1 hq2 hq3 => hkp q hq1 (by omega))
  replace hP2 := hP2.kept (fun q hq1 hq2 hq3 => hkp q hq1 (by omega))
  replace hPr := hPr.kept (hkp _ hPr.l1 (by omega)) (hkp _ hPr.l2 (by omega))
  replace hT := hT.kept (fun q hq1 hq2 hq3 => hkp q hq1 (by omega))
  have hSl : SlipAt g H (a + 14) (-1) [] := hq
  exact xr_vret hx hb hr hlocks hS ⟨rs, tr, rt, ru, ly, n2, S2, hrt, hO, hT0, hT, hRt, hLk, hSl, hP, hP2, hPr, hp1, hp2⟩ dX6_keepTown_19
set_option maxHeartbeats 400000 in
set_option maxRecDepth 100000 in
theorem c_X6_swapPhases (l : Launch) (g : WG) (H0 : Heap) (a rs tr : Nat) (hO : obj g H0 a 6 [.ref (a + 1), .ref (a + 4), .ref (a + 7), .ref (a + 12), .ref (a + 14), .ref rs, .ref tr]) : Ctr l (KK g) yX6_swapPhases wsX6_swapPhases { frames := 0, cells := 0, slots := 0, locals := 0 } [.ref a] H0 eV (fun _ H => obj g H a 6 [.ref (a + 1), .ref (a + 4), .ref (a + 7), .ref (a + 12), .ref (a + 14), .ref tr, .ref rs]) (fun q => q = a) := by
  refine xr_enter (cc := cX6_swapPhases) (maxL := 2) (ret := none) (by decide) rfl (Nat.le_of_ble_eq_true rfl) ?_
  intro pgm env s mid below meth cde hx hb hr hml hts hown hlocks hnm hH hK ls hl
  subst hH
  have hl : lv_has ls 2 [(0, .ref a)] := hl
  have hS : va_S (fun q => q = a) s.heap s.heap [] := va_S.rf
  refine lv_aload_n hx hb dX6_swapPhases_0 rfl (lv_at hl 0 rfl) ?_
  refine va_get (D := g.1) (ci := 6) (v := .ref rs) (C := RX6) (T := TX6) (N := 7) hx hb hts (by decide +kernel) hown hK.1 (xr_one hO) 0 rfl rfl 5 (by decide) (hts (.fieldLink RX6 45 "SharesDesk" "result" "LSharesDesk$Phase;") (by decide +kernel)) (fun _ h9 => h9) rfl dX6_swapPhases_1 ?_
  refine lv_astore_n (lv' := [(1, .ref rs), (0, .ref a)]) hx hb dX6_swapPhases_4 rfl hl (by decide) rfl (fun ls hl => ?_)
  refine lv_aload_n hx hb dX6_swapPhases_5 rfl (lv_at hl 1 rfl) ?_
  refine lv_aload_n hx hb dX6_swapPhases_6 rfl (lv_at hl 1 rfl) ?_
  refine va_get (D := g.1) (ci := 6) (v := .ref tr) (C := RX6) (T := TX6) (N := 7) hx hb hts (by decide +kernel) hown hK.1 (xr_one hO) 0 rfl rfl 6 (by decide) (hts (.fieldLink RX6 49 "SharesDesk" "trial" "LSharesDesk$Phase;") (by decide +kernel)) (fun _ h9 => h9) rfl dX6_swapPhases_7 ?_
  refine xr_put (ci := 6) (v := .ref tr) (ty := .object "SharesDesk$Phase") (C := RX6) (T := TX6) (N := 7) hx hb hts (by decide +kernel) tyX6 tyX6_ok nmX6 hown hK.1 hO hS rfl rfl 5 (by decide) (hts (.fieldLink RX6 45 "SharesDesk" "result" "LSharesDesk$Phase;") (by decide +kernel)) rfl (by decide +kernel) rfl rfl (Nat.le_of_ble_eq_true rfl) dX6_swapPhases_10 (fun H locs hz hkp hO hS => ?_)
  refine lv_aload_n hx hb dX6_swapPhases_13 rfl (lv_at hl 1 rfl) ?_
  refine lv_aload_n hx hb dX6_swapPhases_14 rfl (lv_at hl 0 rfl) ?_
  refine xr_put (ci := 6) (v := .ref rs) (ty := .object "SharesDesk$Phase") (C := RX6) (T := TX6) (N := 7) hx hb hts (by decide +kernel) tyX6 tyX6_ok nmX6 hown hK.1 hO hS rfl rfl 6 (by decide) (hts (.fieldLink RX6 49 "SharesDesk" "trial" "LSharesDesk$Phase;") (by decide +kernel)) rfl (by decide +kernel) rfl rfl (Nat.le_of_ble_eq_true rfl) dX6_swapPhases_15 (fun H locs hz hkp hO hS => ?_)
  exact xr_vret hx hb hr hlocks hS hO dX6_swapPhases_18
set_option maxHeartbeats 800000 in
set_option maxRecDepth 100000 in
theorem c_X6_run (l : Launch) (g : WG) (H0 : Heap) (a : Nat) (c0 : Nat → Nat) (vs0 : Nat) (ap0 : Nat → Nat) (bu0 : Nat) (c : Nat → Nat) (vs : Nat) (ap : Nat → Nat) (bu : Nat) (n : Nat) (S : PSt) (ow : Int32) (tx : List Nat) (hD : DeskAt g H0 a c0 vs0 ap0 bu0 c vs ap bu n S ow tx) : Ctr l (KK g) yX6_run wsX6_run { frames := 6, cells := 0, slots := 0, locals := 150 } [.ref a] H0 eI (fun r H => ∃ n1 S1, r = nI n1 ∧ Res c0 vs0 ap0 bu0 0 n1 S1 ∧ DeskAt g H a c0 vs0 ap0 bu0 c0 vs0 ap0 bu0 n1 S1 (-1) ([])) (fun q => a ≤ q ∧ q < a + 579) := by
  refine xr_enter (cc := cX6_run) (maxL := 1) (ret := (some .int)) (by decide) rfl (Nat.le_of_ble_eq_true rfl) ?_
  intro pgm env s mid below meth cde hx hb hr hml hts hown hlocks hnm hH hK ls hl
  subst hH
  have hl : lv_has ls 1 [(0, .ref a)] := hl
  have hS : va_S (fun q => a ≤ q ∧ q < a + 579) s.heap s.heap [] := va_S.rf
  refine lv_aload_n hx hb dX6_run_0 rfl (lv_at hl 0 rfl) ?_
  refine xr_Vv (rest := []) ⟨hx, hb, hml, hown, hts⟩ (KK_ok g) hK (c_X6_keepTown l g s.heap a c0 vs0 ap0 bu0 c vs ap bu n S ow tx hD) (cwV 0 hts gX6_run_X6_keepTown rfl rfl rfl (by decide +kernel) ⟨Nat.le_of_ble_eq_true rfl, Nat.le_of_ble_eq_true rfl⟩) (xr_rec hK (show obj g s.heap a 6 _ from hD.choose_spec.choose_spec.choose_spec.choose_spec.choose_spec.choose_spec.choose_spec.2.1) rfl) rfl hl.1 rfl (Nat.le_of_ble_eq_true rfl) dX6_run_1 ⟨Nat.le_of_ble_eq_true rfl, Nat.le_of_ble_eq_true rfl⟩ hS (fun q h => h) (fun _ H locs hq hz hkp hS => ?_)
  obtain ⟨rs, tr, rt, ru, ly, n2, S2, hrt, hO, hT0, hT, hRt, hLk, hSl, hP, hP2, hPr, hp1, hp2⟩ := hq
  obtain ⟨op, bs, tq, rb, kb, rq, kq, htb, hPO, hBa, hPu, hLa, hEm, hPy, hPi, hRa, hBb, hBs, hTr⟩ := id hP
  refine lv_aload_n hx hb dX6_run_4 rfl (lv_at hl 0 rfl) ?_
  refine va_get (D := g.1) (ci := 6) (v := .ref rs) (C := RX6) (T := TX6) (N := 7) hx hb hts (by decide +kernel) hown hK.1 (xr_one hO) 0 rfl rfl 5 (by decide) (hts (.fieldLink RX6 45 "SharesDesk" "result" "LSharesDesk$Phase;") (by decide +kernel)) (fun _ h9 => h9) rfl dX6_run_5 ?_
  refine lv_iconst (v := 0) hx hb dX6_run_8 (by decide) ?_
  refine xr_ti (x' := nI 0) rfl ?_
  refine xr_Vv (rest := []) ⟨hx, hb, hml, hown, hts⟩ (KK_ok g) hK (c_X1_play l g H (a + 4) c0 vs0 ap0 bu0 rs (qpc S) n (qps S) (qco S) op bs tq (qB S) (qpur S) (qlas S) (qemp S) (qpay S) (qpik S) (qrat S) (qbas S) rb kb rq kq hPO hT hBa hPu hLa hEm hPy hPi hRa hBb hBs hTr (by omega) htb 0 (by decide)) (cwV 1 hts gX6_run_X1_play rfl rfl rfl (by decide +kernel) ⟨Nat.le_of_ble_eq_true rfl, Nat.le_of_ble_eq_true rfl⟩) (xr_rec hK hPO rfl) rfl hl.1 rfl (Nat.le_of_ble_eq_true rfl) dX6_run_9 ⟨Nat.le_of_ble_eq_true rfl, Nat.le_of_ble_eq_true rfl⟩ hS (fun q h => by have h : rs ≤ q ∧ q < rs + 280 := h; show a ≤ q ∧ q < a + 579; omega) (fun _ H locs hq hz hkp hS => ?_)
  replace hkp := fun (q : Nat) h1 (h2 : ¬ (rs ≤ q ∧ q < rs + 280)) => hkp q h1 h2
  replace hO := hO.kept (hkp _ hO.lt (by omega))
  replace hT0 := hT0.kept (fun q hq1 hq2 hq3 => hkp q hq1 (by omega))
  replace hT := hT.kept (fun q hq1 hq2 hq3 => hkp q hq1 (by omega))
  replace hRt := hRt.kept (fun q hq1 hq2 hq3 => hkp q hq1 (by omega))
  replace hLk := hLk.kept (hkp _ hLk.1.lt (by omega)) (hkp _ hLk.2.1.lt (by omega))
  replace hSl := hSl.kept (fun q hq1 hq2 hq3 => hkp q hq1 (by omega))
  replace hP2 := hP2.kept (fun q hq1 hq2 hq3 => hkp q hq1 (by omega))
  replace hPr := hPr.kept (hkp _ hPr.l1 (by omega)) (hkp _ hPr.l2 (by omega))
  obtain ⟨n1, pc2, ps2, co2, op2, B2, pur2, las2, emp2, pay2, pik2, rat2, bas2, op3, bs2, tr2, rb2, kb2, rt2, kt2, hn, hRch, hstop, hInv, htb2, hPO, hrest⟩ := hq
  have hP : PhAt g H rs (a + 4) n1 (pc2, ps2, co2, op2, B2, pur2, las2, emp2, pay2, pik2, rat2, bas2) := ⟨op3, bs2, tr2, rb2, kb2, rt2, kt2, htb2, hPO, hrest⟩
  have hres : Res c0 vs0 ap0 bu0 0 n1 (pc2, ps2, co2, op2, B2, pur2, las2, emp2, pay2, pik2, rat2, bas2) := ⟨_, _, _, _, _, _, _, hn, hRch, hstop, hInv⟩
  refine lv_aload_n hx hb dX6_run_12 rfl (lv_at hl 0 rfl) ?_
  refine va_get (D := g.1) (ci := 6) (v := .ref rs) (C := RX6) (T := TX6) (N := 7) hx hb hts (by decide +kernel) hown hK.1 (xr_one hO) 0 rfl rfl 5 (by decide) (hts (.fieldLink RX6 45 "SharesDesk" "result" "LSharesDesk$Phase;") (by decide +kernel)) (fun _ h9 => h9) rfl dX6_run_13 ?_
  refine va_get (D := g.1) (ci := 1) (v := .int (nI n1)) (C := RX1) (T := TX1) (N := 16) hx hb hts (by decide +kernel) hown hK.1 (xr_one hPO) 0 rfl rfl 8 (by decide) (hts (.fieldLink RX6 91 "SharesDesk$Phase" "picked" "I") (by decide +kernel)) (fun _ h9 => h9) rfl dX6_run_16 ?_
  exact xr_iret hx hb hr hlocks hS ⟨n1, _, rfl, hres, ⟨rs, tr, rt, ru, ly, n2, S2, hrt, hO, hT0, hT, hRt, hLk, hSl, hP, hP2, hPr, hp1, hp2⟩⟩ dX6_run_19
set_option maxHeartbeats 800000 in
set_option maxRecDepth 100000 in
theorem c_X6_purse (l : Launch) (g : WG) (H0 : Heap) (a : Nat) (c0 : Nat → Nat) (vs0 : Nat) (ap0 : Nat → Nat) (bu0 : Nat) (c : Nat → Nat) (vs : Nat) (ap : Nat → Nat) (bu : Nat) (n : Nat) (S : PSt) (ow : Int32) (tx : List Nat) (hD : DeskAt g H0 a c0 vs0 ap0 bu0 c vs ap bu n S ow tx) (hQ : PhQ c vs ap n S) (v part word : Int32) : Ctr l (KK g) yX6_purse wsX6_purse { frames := 4, cells := 0, slots := 0, locals := 90 } [.ref a, .int v, .int part, .int word] H0 eI (fun r H => r = aPu vs S v part word ∧ DeskAt g H a c0 vs0 ap0 bu0 c vs ap bu n S ow tx) (fun q => a ≤ q ∧ q < a + 579) := by
  refine xr_enter (cc := cX6_purse) (maxL := 4) (ret := (some .int)) (by decide) rfl (Nat.le_of_ble_eq_true rfl) ?_
  intro pgm env s mid below meth cde hx hb hr hml hts hown hlocks hnm hH hK ls hl
  subst hH
  have hl : lv_has ls 4 [(0, .ref a), (1, .int v), (2, .int part), (3, .int word)] := hl
  have hS : va_S (fun q => a ≤ q ∧ q < a + 579) s.heap s.heap [] := va_S.rf
  obtain ⟨rs, tr, rt, ru, ly, n2, S2, hrt, hO, hT0, hT, hRt, hLk, hSl, hP, hP2, hPr, hp1, hp2⟩ := id hD
  obtain ⟨op, bs, tq, rb, kb, rq, kq, htb, hPO, hBa, hPu, hLa, hEm, hPy, hPi, hRa, hBb, hBs, hTr⟩ := id hP
  obtain ⟨hn16, hpik, hem, hps, hpc, hpay, hco, hBS, hbS, hBb48, hms⟩ := id hQ
  refine lv_aload_n hx hb dX6_purse_0 rfl (lv_at hl 0 rfl) ?_
  refine va_get (D := g.1) (ci := 6) (v := .ref (a + 4)) (C := RX6) (T := TX6) (N := 7) hx hb hts (by decide +kernel) hown hK.1 (xr_one hO) 0 rfl rfl 1 (by decide) (hts (.fieldLink RX6 16 "SharesDesk" "past" "LSharesDesk$Town;") (by decide +kernel)) (fun _ h9 => h9) rfl dX6_purse_1 ?_
  refine lv_iload_n hx hb dX6_purse_4 rfl (lv_at hl 1 rfl) ?_
  refine xr_Vi (rest := []) ⟨hx, hb, hml, hown, hts⟩ (KK_ok g) hK (c_X5_hasVoter l g s.heap (a + 4) c vs ap bu hT v) (cwV 1 hts gX6_purse_X5_hasVoter rfl rfl rfl (by decide +kernel) ⟨Nat.le_of_ble_eq_true rfl, Nat.le_of_ble_eq_true rfl⟩) (xr_rec hK hT.1 rfl) rfl hl.1 rfl (Nat.le_of_ble_eq_true rfl) dX6_purse_5 ⟨Nat.le_of_ble_eq_true rfl, Nat.le_of_ble_eq_true rfl⟩ hS (fun q h => h.elim) (fun r H locs hq hz hkp hS934 => ?_)
  obtain ⟨rfl, rfl⟩ := hq
  have hS := hS934
  refine lv_if_ne (tgt := 13) hx hb dX6_purse_8 (by decide) (fun h0 => ?_) (fun h0 => ?_)
  · have h9 : isV vs v = true := b2i_n0.mp h0
    obtain ⟨j, hj, rfl, hvj, hv0⟩ := isV_of h9
    have hB := hBS (Or.inl hv0)
    refine lv_aload_n hx hb dX6_purse_13 rfl (lv_at hl 0 rfl) ?_
    refine va_get (D := g.1) (ci := 6) (v := .ref (a + 7)) (C := RX6) (T := TX6) (N := 7) hx hb hts (by decide +kernel) hown hK.1 (xr_one hO) 0 rfl rfl 2 (by decide) (hts (.fieldLink RX6 22 "SharesDesk" "ratio" "LSharesDesk$Ratio;") (by decide +kernel)) (fun _ h9 => h9) rfl dX6_purse_14 ?_
    refine lv_aload_n hx hb dX6_purse_17 rfl (lv_at hl 0 rfl) ?_
    refine va_get (D := g.1) (ci := 6) (v := .ref rs) (C := RX6) (T := TX6) (N := 7) hx hb hts (by decide +kernel) hown hK.1 (xr_one hO) 0 rfl rfl 5 (by decide) (hts (.fieldLink RX6 45 "SharesDesk" "result" "LSharesDesk$Phase;") (by decide +kernel)) (fun _ h9 => h9) rfl dX6_purse_18 ?_
    refine va_get (D := g.1) (ci := 1) (v := .ref (rs + 3)) (C := RX1) (T := TX1) (N := 16) hx hb hts (by decide +kernel) hown hK.1 (xr_one hPO) 0 rfl rfl 2 (by decide) (hts (.fieldLink RX6 123 "SharesDesk$Phase" "purses" "[LSharesDesk$Natural;") (by decide +kernel)) (fun _ h9 => h9) rfl dX6_purse_21 ?_
    refine lv_iload_n hx hb dX6_purse_24 rfl (lv_at hl 1 rfl) ?_
    refine xr_pl hx hb hK hPu hj (by decide) dX6_purse_25 ?_
    refine lv_aload_n hx hb dX6_purse_26 rfl (lv_at hl 0 rfl) ?_
    refine va_get (D := g.1) (ci := 6) (v := .ref rs) (C := RX6) (T := TX6) (N := 7) hx hb hts (by decide +kernel) hown hK.1 (xr_one hO) 0 rfl rfl 5 (by decide) (hts (.fieldLink RX6 45 "SharesDesk" "result" "LSharesDesk$Phase;") (by decide +kernel)) (fun _ h9 => h9) rfl dX6_purse_27 ?_
    refine va_get (D := g.1) (ci := 1) (v := .ref (rs + 1)) (C := RX1) (T := TX1) (N := 16) hx hb hts (by decide +kernel) hown hK.1 (xr_one hPO) 0 rfl rfl 1 (by decide) (hts (.fieldLink RX6 127 "SharesDesk$Phase" "base" "LSharesDesk$Natural;") (by decide +kernel)) (fun _ h9 => h9) rfl dX6_purse_30 ?_
    refine xr_Vv (rest := []) ⟨hx, hb, hml, hown, hts⟩ (KK_ok g) hK (c_X2_take l g s.heap (a + 7) rt ru (rs + 24 + 4 * j) (rs + 1) (qpur S j) (qB S) hRt hPr (by omega) (by omega) (hPu.2 j hj) (hBa) (by omega) (by omega) hB.1 hB.2) (cwV 2 hts gX6_purse_X2_take rfl rfl rfl (by decide +kernel) ⟨Nat.le_of_ble_eq_true rfl, Nat.le_of_ble_eq_true rfl⟩) (xr_rec hK hRt.1 rfl) rfl hl.1 rfl (Nat.le_of_ble_eq_true rfl) dX6_purse_33 ⟨Nat.le_of_ble_eq_true rfl, Nat.le_of_ble_eq_true rfl⟩ hS (fun q h => by have h : q = a + 7 + 2 ∨ q = a + 7 + 4 := h; show a ≤ q ∧ q < a + 579; omega) (fun _ H locs hq hz hkp hS => ?_)
    replace hkp := fun (q : Nat) h1 (h2 : ¬ (q = a + 7 + 2 ∨ q = a + 7 + 4)) => hkp q h1 h2
    replace hO := hO.kept (hkp _ hO.lt (by omega))
    replace hT0 := hT0.kept (fun q hq1 hq2 hq3 => hkp q hq1 (by omega))
    replace hT := hT.kept (fun q hq1 hq2 hq3 => hkp q hq1 (by omega))
    replace hLk := hLk.kept (hkp _ hLk.1.lt (by omega)) (hkp _ hLk.2.1.lt (by omega))
    replace hSl := hSl.kept (fun q hq1 hq2 hq3 => hkp q hq1 (by omega))
    replace hP := hP.kept (fun q hq1 hq2 hq3 => hkp q hq1 (by omega))
    replace hP2 := hP2.kept (fun q hq1 hq2 hq3 => hkp q hq1 (by omega))
    replace hPr := hPr.kept (hkp _ hPr.l1 (by omega)) (hkp _ hPr.l2 (by omega))
    have hRt : RatioAt g H (a + 7) ((qpur S j) / Nat.gcd (qpur S j) (qB S)) ((qB S) / Nat.gcd (qpur S j) (qB S)) := hq
    refine lv_aload_n hx hb dX6_purse_36 rfl (lv_at hl 0 rfl) ?_
    refine va_get (D := g.1) (ci := 6) (v := .ref (a + 7)) (C := RX6) (T := TX6) (N := 7) hx hb hts (by decide +kernel) hown hK.1 (xr_one hO) 0 rfl rfl 2 (by decide) (hts (.fieldLink RX6 22 "SharesDesk" "ratio" "LSharesDesk$Ratio;") (by decide +kernel)) (fun _ h9 => h9) rfl dX6_purse_37 ?_
    refine lv_iload_n hx hb dX6_purse_40 rfl (lv_at hl 2 rfl) ?_
    refine lv_iload_n hx hb dX6_purse_41 rfl (lv_at hl 3 rfl) ?_
    refine xr_Vi (rest := []) ⟨hx, hb, hml, hown, hts⟩ (KK_ok g) hK (c_X2_wordOf l g H (a + 7) _ _ part word hRt) (cwV 2 hts gX6_purse_X2_wordOf rfl rfl rfl (by decide +kernel) ⟨Nat.le_of_ble_eq_true rfl, Nat.le_of_ble_eq_true rfl⟩) (xr_rec hK hRt.1 rfl) rfl hl.1 rfl (Nat.le_of_ble_eq_true rfl) dX6_purse_42 ⟨Nat.le_of_ble_eq_true rfl, Nat.le_of_ble_eq_true rfl⟩ hS (fun q h => h.elim) (fun r H locs hq hz hkp hS935 => ?_)
    obtain ⟨rfl, rfl⟩ := hq
    have hS := hS935
    exact xr_iret hx hb hr hlocks hS ⟨by unfold aPu; rw [if_pos h9, ix_nI (by omega)]; rfl, ⟨rs, tr, _, _, ly, n2, S2, hrt, hO, hT0, hT, hRt, hLk, hSl, hP, hP2, hPr, hp1, hp2⟩⟩ dX6_purse_45
  · have h9 : isV vs v = false := b2i_0.mp h0
    refine lv_iconst (v := 0) hx hb dX6_purse_11 (by decide) ?_
    exact xr_iret hx hb hr hlocks hS ⟨by unfold aPu; rw [if_neg (by rw [h9]; decide)], hD⟩ dX6_purse_12
set_option maxHeartbeats 800000 in
set_option maxRecDepth 100000 in
theorem c_X6_rate (l : Launch) (g : WG) (H0 : Heap) (a : Nat) (c0 : Nat → Nat) (vs0 : Nat) (ap0 : Nat → Nat) (bu0 : Nat) (c : Nat → Nat) (vs : Nat) (ap : Nat → Nat) (bu : Nat) (n : Nat) (S : PSt) (ow : Int32) (tx : List Nat) (hD : DeskAt g H0 a c0 vs0 ap0 bu0 c vs ap bu n S ow tx) (hQ : PhQ c vs ap n S) (p part word : Int32) : Ctr l (KK g) yX6_rate wsX6_rate { frames := 4, cells := 0, slots := 0, locals := 90 } [.ref a, .int p, .int part, .int word] H0 eI (fun r H => r = aRa n S p part word ∧ DeskAt g H a c0 vs0 ap0 bu0 c vs ap bu n S ow tx) (fun q => a ≤ q ∧ q < a + 579) := by
  refine xr_enter (cc := cX6_rate) (maxL := 5) (ret := (some .int)) (by decide) rfl (Nat.le_of_ble_eq_true rfl) ?_
  intro pgm env s mid below meth cde hx hb hr hml hts hown hlocks hnm hH hK ls hl
  subst hH
  have hl : lv_has ls 5 [(0, .ref a), (1, .int p), (2, .int part), (3, .int word)] := hl
  have hS : va_S (fun q => a ≤ q ∧ q < a + 579) s.heap s.heap [] := va_S.rf
  obtain ⟨rs, tr, rt, ru, ly, n2, S2, hrt, hO, hT0, hT, hRt, hLk, hSl, hP, hP2, hPr, hp1, hp2⟩ := id hD
  obtain ⟨op, bs, tq, rb, kb, rq, kq, htb, hPO, hBa, hPu, hLa, hEm, hPy, hPi, hRa, hBb, hBs, hTr⟩ := id hP
  obtain ⟨hn16, hpik, hem, hps, hpc, hpay, hco, hBS, hbS, hBb48, hms⟩ := id hQ
  refine lv_aload_n hx hb dX6_rate_0 rfl (lv_at hl 0 rfl) ?_
  refine va_get (D := g.1) (ci := 6) (v := .ref rs) (C := RX6) (T := TX6) (N := 7) hx hb hts (by decide +kernel) hown hK.1 (xr_one hO) 0 rfl rfl 5 (by decide) (hts (.fieldLink RX6 45 "SharesDesk" "result" "LSharesDesk$Phase;") (by decide +kernel)) (fun _ h9 => h9) rfl dX6_rate_1 ?_
  refine lv_iload_n hx hb dX6_rate_4 rfl (lv_at hl 1 rfl) ?_
  refine xr_Vi (rest := []) ⟨hx, hb, hml, hown, hts⟩ (KK_ok g) hK (c_X1_roundOf l g s.heap (a + 4) rs (qpc S) n (qps S) (qco S) op bs tq hPO (qpik S) hn16 hpik hPi p) (cwV 1 hts gX6_rate_X1_roundOf rfl rfl rfl (by decide +kernel) ⟨Nat.le_of_ble_eq_true rfl, Nat.le_of_ble_eq_true rfl⟩) (xr_rec hK hPO rfl) rfl hl.1 rfl (Nat.le_of_ble_eq_true rfl) dX6_rate_5 ⟨Nat.le_of_ble_eq_true rfl, Nat.le_of_ble_eq_true rfl⟩ hS (fun q h => h.elim) (fun r H locs hq hz hkp hS936 => ?_)
  obtain ⟨rfl, rfl⟩ := hq
  have hS := hS936
  refine lv_istore (lv' := [(4, .int (rnd (qpik S) n p)), (0, .ref a), (1, .int p), (2, .int part), (3, .int word)]) hx hb dX6_rate_8 hl (by decide) rfl (fun ls hl => ?_)
  refine lv_iload hx hb dX6_rate_10 (lv_at hl 0 rfl) ?_
  refine lv_iconst (v := (-1)) hx hb dX6_rate_12 (by decide) ?_
  refine lv_icmp_ne (tgt := 18) hx hb dX6_rate_13 (by decide) (fun h0 => ?_) (fun h0 => ?_)
  · rcases rnd_cases (pik := qpik S) (n := n) (i0 := p) with hq | ⟨r, hrn, hre, -, -⟩
    · exact absurd hq.1 h0
    · have hbr := hbS r hrn
      rw [hre] at hl
      refine lv_aload_n hx hb dX6_rate_18 rfl (lv_at hl 1 rfl) ?_
      refine va_get (D := g.1) (ci := 6) (v := .ref (a + 7)) (C := RX6) (T := TX6) (N := 7) hx hb hts (by decide +kernel) hown hK.1 (xr_one hO) 0 rfl rfl 2 (by decide) (hts (.fieldLink RX6 22 "SharesDesk" "ratio" "LSharesDesk$Ratio;") (by decide +kernel)) (fun _ h9 => h9) rfl dX6_rate_19 ?_
      refine lv_aload_n hx hb dX6_rate_22 rfl (lv_at hl 1 rfl) ?_
      refine va_get (D := g.1) (ci := 6) (v := .ref rs) (C := RX6) (T := TX6) (N := 7) hx hb hts (by decide +kernel) hown hK.1 (xr_one hO) 0 rfl rfl 5 (by decide) (hts (.fieldLink RX6 45 "SharesDesk" "result" "LSharesDesk$Phase;") (by decide +kernel)) (fun _ h9 => h9) rfl dX6_rate_23 ?_
      refine va_get (D := g.1) (ci := 1) (v := .ref (rs + 8)) (C := RX1) (T := TX1) (N := 16) hx hb hts (by decide +kernel) hown hK.1 (xr_one hPO) 0 rfl rfl 11 (by decide) (hts (.fieldLink RX6 151 "SharesDesk$Phase" "rates" "[LSharesDesk$Natural;") (by decide +kernel)) (fun _ h9 => h9) rfl dX6_rate_26 ?_
      refine lv_iload hx hb dX6_rate_29 (lv_at hl 0 rfl) ?_
      refine xr_pl hx hb hK hRa (show r < 16 by omega) (by decide) dX6_rate_31 ?_
      refine lv_aload_n hx hb dX6_rate_32 rfl (lv_at hl 1 rfl) ?_
      refine va_get (D := g.1) (ci := 6) (v := .ref rs) (C := RX6) (T := TX6) (N := 7) hx hb hts (by decide +kernel) hown hK.1 (xr_one hO) 0 rfl rfl 5 (by decide) (hts (.fieldLink RX6 45 "SharesDesk" "result" "LSharesDesk$Phase;") (by decide +kernel)) (fun _ h9 => h9) rfl dX6_rate_33 ?_
      refine va_get (D := g.1) (ci := 1) (v := .ref (rs + 9)) (C := RX1) (T := TX1) (N := 16) hx hb hts (by decide +kernel) hown hK.1 (xr_one hPO) 0 rfl rfl 12 (by decide) (hts (.fieldLink RX6 148 "SharesDesk$Phase" "bases" "[LSharesDesk$Natural;") (by decide +kernel)) (fun _ h9 => h9) rfl dX6_rate_36 ?_
      refine lv_iload hx hb dX6_rate_39 (lv_at hl 0 rfl) ?_
      refine xr_pl hx hb hK hBb (show r < 16 by omega) (by decide) dX6_rate_41 ?_
      refine xr_Vv (rest := []) ⟨hx, hb, hml, hown, hts⟩ (KK_ok g) hK (c_X2_take l g s.heap (a + 7) rt ru (rs + 216 + 4 * r) (rs + 218 + 4 * r) (qrat S r) (qbas S r) hRt hPr (by omega) (by omega) (hRa.2 r (by omega)) (hBb.2 r (by omega)) (by omega) (by omega) hbr.1 hbr.2) (cwV 2 hts gX6_rate_X2_take rfl rfl rfl (by decide +kernel) ⟨Nat.le_of_ble_eq_true rfl, Nat.le_of_ble_eq_true rfl⟩) (xr_rec hK hRt.1 rfl) rfl hl.1 rfl (Nat.le_of_ble_eq_true rfl) dX6_rate_42 ⟨Nat.le_of_ble_eq_true rfl, Nat.le_of_ble_eq_true rfl⟩ hS (fun q h => by have h : q = a + 7 + 2 ∨ q = a + 7 + 4 := h; show a ≤ q ∧ q < a + 579; omega) (fun _ H locs hq hz hkp hS => ?_)
      replace hkp := fun (q : Nat) h1 (h2 : ¬ (q = a + 7 + 2 ∨ q = a + 7 + 4)) => hkp q h1 h2
      replace hO := hO.kept (hkp _ hO.lt (by omega))
      replace hT0 := hT0.kept (fun q hq1 hq2 hq3 => hkp q hq1 (by omega))
      replace hT := hT.kept (fun q hq1 hq2 hq3 => hkp q hq1 (by omega))
      replace hLk := hLk.kept (hkp _ hLk.1.lt (by omega)) (hkp _ hLk.2.1.lt (by omega))
      replace hSl := hSl.kept (fun q hq1 hq2 hq3 => hkp q hq1 (by omega))
      replace hP := hP.kept (fun q hq1 hq2 hq3 => hkp q hq1 (by omega))
      replace hP2 := hP2.kept (fun q hq1 hq2 hq3 => hkp q hq1 (by omega))
      replace hPr := hPr.kept (hkp _ hPr.l1 (by omega)) (hkp _ hPr.l2 (by omega))
      have hRt : RatioAt g H (a + 7) ((qrat S r) / Nat.gcd (qrat S r) (qbas S r)) ((qbas S r) / Nat.gcd (qrat S r) (qbas S r)) := hq
      refine lv_aload_n hx hb dX6_rate_45 rfl (lv_at hl 1 rfl) ?_
      refine va_get (D := g.1) (ci := 6) (v := .ref (a + 7)) (C := RX6) (T := TX6) (N := 7) hx hb hts (by decide +kernel) hown hK.1 (xr_one hO) 0 rfl rfl 2 (by decide) (hts (.fieldLink RX6 22 "SharesDesk" "ratio" "LSharesDesk$Ratio;") (by decide +kernel)) (fun _ h9 => h9) rfl dX6_rate_46 ?_
      refine lv_iload_n hx hb dX6_rate_49 rfl (lv_at hl 3 rfl) ?_
      refine lv_iload_n hx hb dX6_rate_50 rfl (lv_at hl 4 rfl) ?_
      refine xr_Vi (rest := []) ⟨hx, hb, hml, hown, hts⟩ (KK_ok g) hK (c_X2_wordOf l g H (a + 7) _ _ part word hRt) (cwV 2 hts gX6_rate_X2_wordOf rfl rfl rfl (by decide +kernel) ⟨Nat.le_of_ble_eq_true rfl, Nat.le_of_ble_eq_true rfl⟩) (xr_rec hK hRt.1 rfl) rfl hl.1 rfl (Nat.le_of_ble_eq_true rfl) dX6_rate_51 ⟨Nat.le_of_ble_eq_true rfl, Nat.le_of_ble_eq_true rfl⟩ hS (fun q h => h.elim) (fun r H locs hq hz hkp hS937 => ?_)
      obtain ⟨rfl, rfl⟩ := hq
      have hS := hS937
      exact xr_iret hx hb hr hlocks hS ⟨by unfold aRa; rw [if_neg h0, hre, ix_nI (by omega)]; rfl, ⟨rs, tr, _, _, ly, n2, S2, hrt, hO, hT0, hT, hRt, hLk, hSl, hP, hP2, hPr, hp1, hp2⟩⟩ dX6_rate_54
  · have h0 := h0
    refine lv_iconst (v := 0) hx hb dX6_rate_16 (by decide) ?_
    exact xr_iret hx hb hr hlocks hS ⟨by unfold aRa; rw [if_pos h0], hD⟩ dX6_rate_17
set_option maxHeartbeats 800000 in
set_option maxRecDepth 100000 in
theorem c_X6_missing (l : Launch) (g : WG) (H0 : Heap) (a : Nat) (c0 : Nat → Nat) (vs0 : Nat) (ap0 : Nat → Nat) (bu0 : Nat) (c : Nat → Nat) (vs : Nat) (ap : Nat → Nat) (bu : Nat) (n : Nat) (S : PSt) (ow : Int32) (tx : List Nat) (hD : DeskAt g H0 a c0 vs0 ap0 bu0 c vs ap bu n S ow tx) (hQ : PhQ c vs ap n S) (p part word : Int32) : Ctr l (KK g) yX6_missing wsX6_missing { frames := 4, cells := 0, slots := 0, locals := 90 } [.ref a, .int p, .int part, .int word] H0 eI (fun r H => r = aMi c ap n S p part word ∧ DeskAt g H a c0 vs0 ap0 bu0 c vs ap bu n S ow tx) (fun q => a ≤ q ∧ q < a + 579) := by
  refine xr_enter (cc := cX6_missing) (maxL := 4) (ret := (some .int)) (by decide) rfl (Nat.le_of_ble_eq_true rfl) ?_
  intro pgm env s mid below meth cde hx hb hr hml hts hown hlocks hnm hH hK ls hl
  subst hH
  have hl : lv_has ls 4 [(0, .ref a), (1, .int p), (2, .int part), (3, .int word)] := hl
  have hS : va_S (fun q => a ≤ q ∧ q < a + 579) s.heap s.heap [] := va_S.rf
  obtain ⟨rs, tr, rt, ru, ly, n2, S2, hrt, hO, hT0, hT, hRt, hLk, hSl, hP, hP2, hPr, hp1, hp2⟩ := id hD
  obtain ⟨op, bs, tq, rb, kb, rq, kq, htb, hPO, hBa, hPu, hLa, hEm, hPy, hPi, hRa, hBb, hBs, hTr⟩ := id hP
  obtain ⟨hn16, hpik, hem, hps, hpc, hpay, hco, hBS, hbS, hBb48, hms⟩ := id hQ
  refine lv_aload_n hx hb dX6_missing_0 rfl (lv_at hl 0 rfl) ?_
  refine va_get (D := g.1) (ci := 6) (v := .ref (a + 4)) (C := RX6) (T := TX6) (N := 7) hx hb hts (by decide +kernel) hown hK.1 (xr_one hO) 0 rfl rfl 1 (by decide) (hts (.fieldLink RX6 16 "SharesDesk" "past" "LSharesDesk$Town;") (by decide +kernel)) (fun _ h9 => h9) rfl dX6_missing_1 ?_
  refine lv_iload_n hx hb dX6_missing_4 rfl (lv_at hl 1 rfl) ?_
  refine xr_Vi (rest := []) ⟨hx, hb, hml, hown, hts⟩ (KK_ok g) hK (c_X5_hasProject l g s.heap (a + 4) c vs ap bu hT p) (cwV 1 hts gX6_missing_X5_hasProject rfl rfl rfl (by decide +kernel) ⟨Nat.le_of_ble_eq_true rfl, Nat.le_of_ble_eq_true rfl⟩) (xr_rec hK hT.1 rfl) rfl hl.1 rfl (Nat.le_of_ble_eq_true rfl) dX6_missing_5 ⟨Nat.le_of_ble_eq_true rfl, Nat.le_of_ble_eq_true rfl⟩ hS (fun q h => h.elim) (fun r H locs hq hz hkp hS938 => ?_)
  obtain ⟨rfl, rfl⟩ := hq
  have hS := hS938
  refine lv_if_eq (tgt := 23) hx hb dX6_missing_8 (by decide) (fun h0 => ?_) (fun h0 => ?_)
  · have h9 : oDr c p = false := b2i_0.mp h0
    refine lv_iconst (v := 0) hx hb dX6_missing_23 (by decide) ?_
    exact xr_iret hx hb hr hlocks hS ⟨by unfold aMi; rw [if_neg (by rw [h9]; simp)], hD⟩ dX6_missing_24
  · have h9 : oDr c p = true := b2i_n0.mp h0
    refine lv_aload_n hx hb dX6_missing_11 rfl (lv_at hl 0 rfl) ?_
    refine va_get (D := g.1) (ci := 6) (v := .ref rs) (C := RX6) (T := TX6) (N := 7) hx hb hts (by decide +kernel) hown hK.1 (xr_one hO) 0 rfl rfl 5 (by decide) (hts (.fieldLink RX6 45 "SharesDesk" "result" "LSharesDesk$Phase;") (by decide +kernel)) (fun _ h9 => h9) rfl dX6_missing_12 ?_
    refine lv_iload_n hx hb dX6_missing_15 rfl (lv_at hl 1 rfl) ?_
    refine xr_Vi (rest := []) ⟨hx, hb, hml, hown, hts⟩ (KK_ok g) hK (c_X1_roundOf l g s.heap (a + 4) rs (qpc S) n (qps S) (qco S) op bs tq hPO (qpik S) hn16 hpik hPi p) (cwV 1 hts gX6_missing_X1_roundOf rfl rfl rfl (by decide +kernel) ⟨Nat.le_of_ble_eq_true rfl, Nat.le_of_ble_eq_true rfl⟩) (xr_rec hK hPO rfl) rfl hl.1 rfl (Nat.le_of_ble_eq_true rfl) dX6_missing_16 ⟨Nat.le_of_ble_eq_true rfl, Nat.le_of_ble_eq_true rfl⟩ hS (fun q h => h.elim) (fun r H locs hq hz hkp hS939 => ?_)
    obtain ⟨rfl, rfl⟩ := hq
    have hS := hS939
    refine lv_iconst (v := (-1)) hx hb dX6_missing_19 (by decide) ?_
    refine lv_icmp_eq (tgt := 25) hx hb dX6_missing_20 (by decide) (fun h1 => ?_) (fun h1 => ?_)
    · have h78 : inR p 16 = true ∧ decide (0 < c (ix p)) = true := by unfold oDr at h9; exact Bool.and_eq_true_iff.mp h9
      obtain ⟨j, hj, rfl⟩ := inR_of h78.1 (by decide)
      have hcj := of_decide_eq_true h78.2
      rw [ix_nI (by omega)] at hcj
      have hB := hBS (Or.inr ⟨j, hj, hcj⟩)
      refine lv_aload_n hx hb dX6_missing_25 rfl (lv_at hl 0 rfl) ?_
      refine va_get (D := g.1) (ci := 6) (v := .ref rs) (C := RX6) (T := TX6) (N := 7) hx hb hts (by decide +kernel) hown hK.1 (xr_one hO) 0 rfl rfl 5 (by decide) (hts (.fieldLink RX6 45 "SharesDesk" "result" "LSharesDesk$Phase;") (by decide +kernel)) (fun _ h9 => h9) rfl dX6_missing_26 ?_
      refine lv_iload_n hx hb dX6_missing_29 rfl (lv_at hl 1 rfl) ?_
      refine lv_aload_n hx hb dX6_missing_30 rfl (lv_at hl 0 rfl) ?_
      refine va_get (D := g.1) (ci := 6) (v := .ref (a + 12)) (C := RX6) (T := TX6) (N := 7) hx hb hts (by decide +kernel) hown hK.1 (xr_one hO) 0 rfl rfl 3 (by decide) (hts (.fieldLink RX6 29 "SharesDesk" "lack" "LSharesDesk$Natural;") (by decide +kernel)) (fun _ h9 => h9) rfl dX6_missing_31 ?_
      refine xr_Vv (rest := []) ⟨hx, hb, hml, hown, hts⟩ (KK_ok g) hK (c_X1_measureLack l g s.heap (a + 4) c vs ap bu hT rs (qpc S) n (qps S) (qco S) op bs tq hPO (by omega) (qpay S) hpc hpay hPy (qB S) hBa (qpur S) hPu (a + 12) ly hLk (by omega) (by omega) hBb48 j hj (hms j hj hcj h1)) (cwV 2 hts gX6_missing_X1_measureLack rfl rfl rfl (by decide +kernel) ⟨Nat.le_of_ble_eq_true rfl, Nat.le_of_ble_eq_true rfl⟩) (xr_rec hK hPO rfl) rfl hl.1 rfl (Nat.le_of_ble_eq_true rfl) dX6_missing_34 ⟨Nat.le_of_ble_eq_true rfl, Nat.le_of_ble_eq_true rfl⟩ hS (fun q h => by have h : q = a + 12 + 1 := h; show a ≤ q ∧ q < a + 579; omega) (fun _ H locs hq hz hkp hS => ?_)
      replace hkp := fun (q : Nat) h1 (h2 : ¬ (q = a + 12 + 1)) => hkp q h1 h2
      replace hO := hO.kept (hkp _ hO.lt (by omega))
      replace hT0 := hT0.kept (fun q hq1 hq2 hq3 => hkp q hq1 (by omega))
      replace hT := hT.kept (fun q hq1 hq2 hq3 => hkp q hq1 (by omega))
      replace hRt := hRt.kept (fun q hq1 hq2 hq3 => hkp q hq1 (by omega))
      replace hSl := hSl.kept (fun q hq1 hq2 hq3 => hkp q hq1 (by omega))
      replace hP := hP.kept (fun q hq1 hq2 hq3 => hkp q hq1 (by omega))
      replace hP2 := hP2.kept (fun q hq1 hq2 hq3 => hkp q hq1 (by omega))
      replace hPr := hPr.kept (hkp _ hPr.l1 (by omega)) (hkp _ hPr.l2 (by omega))
      replace hBa := hBa.kept (hkp _ hBa.1.lt (by omega)) (hkp _ hBa.2.1.lt (by omega))
      replace hPO := hPO.kept (hkp _ hPO.lt (by omega))
      have hLk : NatAt g H (a + 12) (qB S * c j - (supL (qpur S) (qpay S) ap j (qpc S) 0).sum) := hq
      refine lv_aload_n hx hb dX6_missing_37 rfl (lv_at hl 0 rfl) ?_
      refine va_get (D := g.1) (ci := 6) (v := .ref (a + 7)) (C := RX6) (T := TX6) (N := 7) hx hb hts (by decide +kernel) hown hK.1 (xr_one hO) 0 rfl rfl 2 (by decide) (hts (.fieldLink RX6 22 "SharesDesk" "ratio" "LSharesDesk$Ratio;") (by decide +kernel)) (fun _ h9 => h9) rfl dX6_missing_38 ?_
      refine lv_aload_n hx hb dX6_missing_41 rfl (lv_at hl 0 rfl) ?_
      refine va_get (D := g.1) (ci := 6) (v := .ref (a + 12)) (C := RX6) (T := TX6) (N := 7) hx hb hts (by decide +kernel) hown hK.1 (xr_one hO) 0 rfl rfl 3 (by decide) (hts (.fieldLink RX6 29 "SharesDesk" "lack" "LSharesDesk$Natural;") (by decide +kernel)) (fun _ h9 => h9) rfl dX6_missing_42 ?_
      refine lv_aload_n hx hb dX6_missing_45 rfl (lv_at hl 0 rfl) ?_
      refine va_get (D := g.1) (ci := 6) (v := .ref rs) (C := RX6) (T := TX6) (N := 7) hx hb hts (by decide +kernel) hown hK.1 (xr_one hO) 0 rfl rfl 5 (by decide) (hts (.fieldLink RX6 45 "SharesDesk" "result" "LSharesDesk$Phase;") (by decide +kernel)) (fun _ h9 => h9) rfl dX6_missing_46 ?_
      refine va_get (D := g.1) (ci := 1) (v := .ref (rs + 1)) (C := RX1) (T := TX1) (N := 16) hx hb hts (by decide +kernel) hown hK.1 (xr_one hPO) 0 rfl rfl 1 (by decide) (hts (.fieldLink RX6 127 "SharesDesk$Phase" "base" "LSharesDesk$Natural;") (by decide +kernel)) (fun _ h9 => h9) rfl dX6_missing_49 ?_
      refine xr_Vv (rest := []) ⟨hx, hb, hml, hown, hts⟩ (KK_ok g) hK (c_X2_take l g H (a + 7) rt ru (a + 12) (rs + 1) (qB S * c j - (supL (qpur S) (qpay S) ap j (qpc S) 0).sum) (qB S) hRt hPr (by omega) (by omega) (hLk) (hBa) (by omega) (by omega) hB.1 hB.2) (cwV 2 hts gX6_missing_X2_take rfl rfl rfl (by decide +kernel) ⟨Nat.le_of_ble_eq_true rfl, Nat.le_of_ble_eq_true rfl⟩) (xr_rec hK hRt.1 rfl) rfl hl.1 rfl (Nat.le_of_ble_eq_true rfl) dX6_missing_52 ⟨Nat.le_of_ble_eq_true rfl, Nat.le_of_ble_eq_true rfl⟩ hS (fun q h => by have h : q = a + 7 + 2 ∨ q = a + 7 + 4 := h; show a ≤ q ∧ q < a + 579; omega) (fun _ H locs hq hz hkp hS => ?_)
      replace hkp := fun (q : Nat) h1 (h2 : ¬ (q = a + 7 + 2 ∨ q = a + 7 + 4)) => hkp q h1 h2
      replace hO := hO.kept (hkp _ hO.lt (by omega))
      replace hT0 := hT0.kept (fun q hq1 hq2 hq3 => hkp q hq1 (by omega))
      replace hT := hT.kept (fun q hq1 hq2 hq3 => hkp q hq1 (by omega))
      replace hSl := hSl.kept (fun q hq1 hq2 hq3 => hkp q hq1 (by omega))
      replace hP := hP.kept (fun q hq1 hq2 hq3 => hkp q hq1 (by omega))
      replace hP2 := hP2.kept (fun q hq1 hq2 hq3 => hkp q hq1 (by omega))
      replace hPr := hPr.kept (hkp _ hPr.l1 (by omega)) (hkp _ hPr.l2 (by omega))
      replace hBa := hBa.kept (hkp _ hBa.1.lt (by omega)) (hkp _ hBa.2.1.lt (by omega))
      replace hPO := hPO.kept (hkp _ hPO.lt (by omega))
      replace hLk := hLk.kept (hkp _ hLk.1.lt (by omega)) (hkp _ hLk.2.1.lt (by omega))
      have hRt : RatioAt g H (a + 7) ((qB S * c j - (supL (qpur S) (qpay S) ap j (qpc S) 0).sum) / Nat.gcd (qB S * c j - (supL (qpur S) (qpay S) ap j (qpc S) 0).sum) (qB S)) ((qB S) / Nat.gcd (qB S * c j - (supL (qpur S) (qpay S) ap j (qpc S) 0).sum) (qB S)) := hq
      refine lv_aload_n hx hb dX6_missing_55 rfl (lv_at hl 0 rfl) ?_
      refine va_get (D := g.1) (ci := 6) (v := .ref (a + 7)) (C := RX6) (T := TX6) (N := 7) hx hb hts (by decide +kernel) hown hK.1 (xr_one hO) 0 rfl rfl 2 (by decide) (hts (.fieldLink RX6 22 "SharesDesk" "ratio" "LSharesDesk$Ratio;") (by decide +kernel)) (fun _ h9 => h9) rfl dX6_missing_56 ?_
      refine lv_iload_n hx hb dX6_missing_59 rfl (lv_at hl 2 rfl) ?_
      refine lv_iload_n hx hb dX6_missing_60 rfl (lv_at hl 3 rfl) ?_
      refine xr_Vi (rest := []) ⟨hx, hb, hml, hown, hts⟩ (KK_ok g) hK (c_X2_wordOf l g H (a + 7) _ _ part word hRt) (cwV 2 hts gX6_missing_X2_wordOf rfl rfl rfl (by decide +kernel) ⟨Nat.le_of_ble_eq_true rfl, Nat.le_of_ble_eq_true rfl⟩) (xr_rec hK hRt.1 rfl) rfl hl.1 rfl (Nat.le_of_ble_eq_true rfl) dX6_missing_61 ⟨Nat.le_of_ble_eq_true rfl, Nat.le_of_ble_eq_true rfl⟩ hS (fun q h => h.elim) (fun r H locs hq hz hkp hS940 => ?_)
      obtain ⟨rfl, rfl⟩ := hq
      have hS := hS940
      exact xr_iret hx hb hr hlocks hS ⟨by unfold aMi; rw [if_pos ⟨h9, h1⟩, ix_nI (by omega)]; rfl, ⟨rs, tr, _, _, _, n2, S2, hrt, hO, hT0, hT, hRt, hLk, hSl, hP, hP2, hPr, hp1, hp2⟩⟩ dX6_missing_64
    · have h1 := h1
      refine lv_iconst (v := 0) hx hb dX6_missing_23 (by decide) ?_
      exact xr_iret hx hb hr hlocks hS ⟨by unfold aMi; rw [if_neg (fun q => h1 q.2)], hD⟩ dX6_missing_24
