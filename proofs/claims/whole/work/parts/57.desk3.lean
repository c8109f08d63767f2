set_option maxHeartbeats 1000000 in
set_option maxRecDepth 100000 in
theorem c_X6_paid (l : Launch) (g : WG) (H0 : Heap) (a : Nat) (c0 : Nat → Nat) (vs0 : Nat) (ap0 : Nat → Nat) (bu0 : Nat) (c : Nat → Nat) (vs : Nat) (ap : Nat → Nat) (bu : Nat) (n : Nat) (S : PSt) (ow : Int32) (tx : List Nat) (hD : DeskAt g H0 a c0 vs0 ap0 bu0 c vs ap bu n S ow tx) (hQ : PhQ c vs ap n S) (v p part word : Int32) : Ctr l (KK g) yX6_paid wsX6_paid { frames := 4, cells := 0, slots := 0, locals := 90 } [.ref a, .int v, .int p, .int part, .int word] H0 eI (fun r H => r = aPd vs ap n S v p part word ∧ DeskAt g H a c0 vs0 ap0 bu0 c vs ap bu n S ow tx) (fun q => a ≤ q ∧ q < a + 579) := by
  refine xr_enter (cc := cX6_paid) (maxL := 7) (ret := (some .int)) (by decide) rfl (Nat.le_of_ble_eq_true rfl) ?_
  intro pgm env s mid below meth cde hx hb hr hml hts hown hlocks hnm hH hK ls hl
  subst hH
  have hl : lv_has ls 7 [(0, .ref a), (1, .int v), (2, .int p), (3, .int part), (4, .int word)] := hl
  have hS : va_S (fun q => a ≤ q ∧ q < a + 579) s.heap s.heap [] := va_S.rf
  obtain ⟨rs, tr, rt, ru, ly, n2, S2, hrt, hO, hT0, hT, hRt, hLk, hSl, hP, hP2, hPr, hp1, hp2⟩ := id hD
  obtain ⟨op, bs, tq, rb, kb, rq, kq, htb, hPO, hBa, hPu, hLa, hEm, hPy, hPi, hRa, hBb, hBs, hTr⟩ := id hP
  obtain ⟨hn16, hpik, hem, hps, hpc, hpay, hco, hBS, hbS, hBb48, hms⟩ := id hQ
  refine lv_aload_n hx hb dX6_paid_0 rfl (lv_at hl 0 rfl) ?_
  refine va_get (D := g.1) (ci := 6) (v := .ref (a + 4)) (C := RX6) (T := TX6) (N := 7) hx hb hts (by decide +kernel) hown hK.1 (xr_one hO) 0 rfl rfl 1 (by decide) (hts (.fieldLink RX6 16 "SharesDesk" "past" "LSharesDesk$Town;") (by decide +kernel)) (fun _ h9 => h9) rfl dX6_paid_1 ?_
  refine lv_iload_n hx hb dX6_paid_4 rfl (lv_at hl 1 rfl) ?_
  refine xr_Vi (rest := []) ⟨hx, hb, hml, hown, hts⟩ (KK_ok g) hK (c_X5_hasVoter l g s.heap (a + 4) c vs ap bu hT v) (cwV 1 hts gX6_paid_X5_hasVoter rfl rfl rfl (by decide +kernel) ⟨Nat.le_of_ble_eq_true rfl, Nat.le_of_ble_eq_true rfl⟩) (xr_rec hK hT.1 rfl) rfl hl.1 rfl (Nat.le_of_ble_eq_true rfl) dX6_paid_5 ⟨Nat.le_of_ble_eq_true rfl, Nat.le_of_ble_eq_true rfl⟩ hS (fun q h => h.elim) (fun r H locs hq hz hkp hS932 => ?_)
  obtain ⟨rfl, rfl⟩ := hq
  have hS := hS932
  refine lv_if_ne (tgt := 13) hx hb dX6_paid_8 (by decide) (fun h0 => ?_) (fun h0 => ?_)
  · have h9 : isV vs v = true := b2i_n0.mp h0
    obtain ⟨j, hj, rfl, hvj, hv0⟩ := isV_of h9
    refine lv_aload_n hx hb dX6_paid_13 rfl (lv_at hl 0 rfl) ?_
    refine va_get (D := g.1) (ci := 6) (v := .ref rs) (C := RX6) (T := TX6) (N := 7) hx hb hts (by decide +kernel) hown hK.1 (xr_one hO) 0 rfl rfl 5 (by decide) (hts (.fieldLink RX6 45 "SharesDesk" "result" "LSharesDesk$Phase;") (by decide +kernel)) (fun _ h9 => h9) rfl dX6_paid_14 ?_
    refine lv_iload_n hx hb dX6_paid_17 rfl (lv_at hl 2 rfl) ?_
    refine xr_Vi (rest := []) ⟨hx, hb, hml, hown, hts⟩ (KK_ok g) hK (c_X1_roundOf l g s.heap (a + 4) rs (qpc S) n (qps S) (qco S) op bs tq hPO (qpik S) hn16 hpik hPi p) (cwV 1 hts gX6_paid_X1_roundOf rfl rfl rfl (by decide +kernel) ⟨Nat.le_of_ble_eq_true rfl, Nat.le_of_ble_eq_true rfl⟩) (xr_rec hK hPO rfl) rfl hl.1 rfl (Nat.le_of_ble_eq_true rfl) dX6_paid_18 ⟨Nat.le_of_ble_eq_true rfl, Nat.le_of_ble_eq_true rfl⟩ hS (fun q h => h.elim) (fun r H locs hq hz hkp hS933 => ?_)
    obtain ⟨rfl, rfl⟩ := hq
    have hS := hS933
    refine lv_istore (lv' := [(5, .int (rnd (qpik S) n p)), (0, .ref a), (1, .int (nI j)), (2, .int p), (3, .int part), (4, .int word)]) hx hb dX6_paid_21 hl (by decide) rfl (fun ls hl => ?_)
    rcases rnd_cases (pik := qpik S) (n := n) (i0 := p) with ⟨hre, -⟩ | ⟨r, hrn, hre, -, -⟩
    · rw [hre] at hl
      refine lv_aload_n hx hb dX6_paid_23 rfl (lv_at hl 1 rfl) ?_
      refine va_get (D := g.1) (ci := 6) (v := .ref rs) (C := RX6) (T := TX6) (N := 7) hx hb hts (by decide +kernel) hown hK.1 (xr_one hO) 0 rfl rfl 5 (by decide) (hts (.fieldLink RX6 45 "SharesDesk" "result" "LSharesDesk$Phase;") (by decide +kernel)) (fun _ h9 => h9) rfl dX6_paid_24 ?_
      refine lv_iload_n hx hb dX6_paid_27 rfl (lv_at hl 2 rfl) ?_
      refine lv_iload hx hb dX6_paid_28 (lv_at hl 0 rfl) ?_
      refine xr_Vr (rest := []) ⟨hx, hb, hml, hown, hts⟩ (KK_ok g) hK (c_X1_payment_n l g s.heap rs j) (cwV 2 hts gX6_paid_X1_payment rfl rfl rfl (by decide +kernel) ⟨Nat.le_of_ble_eq_true rfl, Nat.le_of_ble_eq_true rfl⟩) (xr_rec hK hPO rfl) rfl hl.1 rfl (Nat.le_of_ble_eq_true rfl) dX6_paid_30 ⟨Nat.le_of_ble_eq_true rfl, Nat.le_of_ble_eq_true rfl⟩ hS (fun q h => h.elim) (fun r H locs hq hz hkp hS934 => ?_)
      obtain ⟨rfl, rfl⟩ := hq
      have hS := hS934
      refine lv_astoreN (lv' := [(6, .null), (5, .int (-1)), (0, .ref a), (1, .int (nI j)), (2, .int p), (3, .int part), (4, .int word)]) hx hb dX6_paid_33 hl (by decide) rfl (fun ls hl => ?_)
      refine lv_aloadN hx hb dX6_paid_35 (lv_at hl 0 rfl) ?_
      refine lv_ifnonnullN hx hb dX6_paid_37 ?_
      refine lv_aload_n hx hb dX6_paid_40 rfl (lv_at hl 2 rfl) ?_
      refine va_get (D := g.1) (ci := 6) (v := .ref (a + 7)) (C := RX6) (T := TX6) (N := 7) hx hb hts (by decide +kernel) hown hK.1 (xr_one hO) 0 rfl rfl 2 (by decide) (hts (.fieldLink RX6 22 "SharesDesk" "ratio" "LSharesDesk$Ratio;") (by decide +kernel)) (fun _ h9 => h9) rfl dX6_paid_41 ?_
      refine xr_Vv (rest := []) ⟨hx, hb, hml, hown, hts⟩ (KK_ok g) hK (c_X2_takeZero l g s.heap (a + 7) rt ru hRt) (cwV 0 hts gX6_paid_X2_takeZero rfl rfl rfl (by decide +kernel) ⟨Nat.le_of_ble_eq_true rfl, Nat.le_of_ble_eq_true rfl⟩) (xr_rec hK hRt.1 rfl) rfl hl.1 rfl (Nat.le_of_ble_eq_true rfl) dX6_paid_44 ⟨Nat.le_of_ble_eq_true rfl, Nat.le_of_ble_eq_true rfl⟩ hS (fun q h => by have h : q = a + 7 + 2 ∨ q = a + 7 + 4 := h; show a ≤ q ∧ q < a + 579; omega) (fun _ H locs hq hz hkp hS => ?_)
      replace hkp := fun (q : Nat) h1 (h2 : ¬ (q = a + 7 + 2 ∨ q = a + 7 + 4)) => hkp q h1 h2
      replace hO := hO.kept (hkp _ hO.lt (by omega))
      replace hT0 := hT0.kept (fun q hq1 hq2 hq3 => hkp q hq1 (by omega))
      replace hT := hT.kept (fun q hq1 hq2 hq3 => hkp q hq1 (by omega))
      replace hLk := hLk.kept (hkp _ hLk.1.lt (by omega)) (hkp _ hLk.2.1.lt (by omega))
      replace hSl := hSl.kept (fun q hq1 hq2 hq3 => hkp q hq1 (by omega))
      replace hP := hP.kept (fun q hq1 hq2 hq3 => hkp q hq1 (by omega))
      replace hP2 := hP2.kept (fun q hq1 hq2 hq3 => hkp q hq1 (by omega))
      replace hPr := hPr.kept (hkp _ hPr.l1 (by omega)) (hkp _ hPr.l2 (by omega))
      have hRt : RatioAt g H (a + 7) 0 1 := hq
      refine lv_goto (tgt := 69) hx hb dX6_paid_47 (by decide) ?_
      refine lv_aload_n hx hb dX6_paid_69 rfl (lv_at hl 2 rfl) ?_
      refine va_get (D := g.1) (ci := 6) (v := .ref (a + 7)) (C := RX6) (T := TX6) (N := 7) hx hb hts (by decide +kernel) hown hK.1 (xr_one hO) 0 rfl rfl 2 (by decide) (hts (.fieldLink RX6 22 "SharesDesk" "ratio" "LSharesDesk$Ratio;") (by decide +kernel)) (fun _ h9 => h9) rfl dX6_paid_70 ?_
      refine lv_iload_n hx hb dX6_paid_73 rfl (lv_at hl 5 rfl) ?_
      refine lv_iload hx hb dX6_paid_74 (lv_at hl 6 rfl) ?_
      refine xr_Vi (rest := []) ⟨hx, hb, hml, hown, hts⟩ (KK_ok g) hK (c_X2_wordOf l g H (a + 7) _ _ part word hRt) (cwV 2 hts gX6_paid_X2_wordOf rfl rfl rfl (by decide +kernel) ⟨Nat.le_of_ble_eq_true rfl, Nat.le_of_ble_eq_true rfl⟩) (xr_rec hK hRt.1 rfl) rfl hl.1 rfl (Nat.le_of_ble_eq_true rfl) dX6_paid_76 ⟨Nat.le_of_ble_eq_true rfl, Nat.le_of_ble_eq_true rfl⟩ hS (fun q h => h.elim) (fun r H locs hq hz hkp hS935 => ?_)
      obtain ⟨rfl, rfl⟩ := hq
      have hS := hS935
      exact xr_iret hx hb hr hlocks hS ⟨by unfold aPd; rw [if_pos h9, if_pos hre], ⟨rs, tr, _, _, ly, n2, S2, hrt, hO, hT0, hT, hRt, hLk, hSl, hP, hP2, hPr, hp1, hp2⟩⟩ dX6_paid_79
    · rw [hre] at hl
      have hbr := hbS r hrn
      have hne : ¬ rnd (qpik S) n p = -1 := by rw [hre]; exact nI_m1 (by omega)
      refine lv_aload_n hx hb dX6_paid_23 rfl (lv_at hl 1 rfl) ?_
      refine va_get (D := g.1) (ci := 6) (v := .ref rs) (C := RX6) (T := TX6) (N := 7) hx hb hts (by decide +kernel) hown hK.1 (xr_one hO) 0 rfl rfl 5 (by decide) (hts (.fieldLink RX6 45 "SharesDesk" "result" "LSharesDesk$Phase;") (by decide +kernel)) (fun _ h9 => h9) rfl dX6_paid_24 ?_
      refine lv_iload_n hx hb dX6_paid_27 rfl (lv_at hl 2 rfl) ?_
      refine lv_iload hx hb dX6_paid_28 (lv_at hl 0 rfl) ?_
      refine xr_Vr (rest := []) ⟨hx, hb, hml, hown, hts⟩ (KK_ok g) hK (c_X1_payment l g s.heap (a + 4) c vs ap bu hT rs (qpc S) n (qps S) (qco S) op bs tq hPO (by omega) (qemp S) (qlas S) (qrat S) (qpik S) hEm hem hLa hRa hPi j r hj (by omega) (hpik _ hrn)) (cwV 2 hts gX6_paid_X1_payment rfl rfl rfl (by decide +kernel) ⟨Nat.le_of_ble_eq_true rfl, Nat.le_of_ble_eq_true rfl⟩) (xr_rec hK hPO rfl) rfl hl.1 rfl (Nat.le_of_ble_eq_true rfl) dX6_paid_30 ⟨Nat.le_of_ble_eq_true rfl, Nat.le_of_ble_eq_true rfl⟩ hS (fun q h => h.elim) (fun r H locs hq hz hkp hS936 => ?_)
      obtain ⟨rfl, rfl⟩ := hq
      have hS := hS936
      by_cases e1 : qemp S j < r ∨ (ap j).testBit (qpik S r) = false
      · rw [show payV rs (qemp S) ap (qpik S) j r = .null by unfold payV; rw [if_pos e1]]
        refine lv_astoreN (lv' := [(6, .null), (5, .int (nI r)), (0, .ref a), (1, .int (nI j)), (2, .int p), (3, .int part), (4, .int word)]) hx hb dX6_paid_33 hl (by decide) rfl (fun ls hl => ?_)
        refine lv_aloadN hx hb dX6_paid_35 (lv_at hl 0 rfl) ?_
        refine lv_ifnonnullN hx hb dX6_paid_37 ?_
        refine lv_aload_n hx hb dX6_paid_40 rfl (lv_at hl 2 rfl) ?_
        refine va_get (D := g.1) (ci := 6) (v := .ref (a + 7)) (C := RX6) (T := TX6) (N := 7) hx hb hts (by decide +kernel) hown hK.1 (xr_one hO) 0 rfl rfl 2 (by decide) (hts (.fieldLink RX6 22 "SharesDesk" "ratio" "LSharesDesk$Ratio;") (by decide +kernel)) (fun _ h9 => h9) rfl dX6_paid_41 ?_
        refine xr_Vv (rest := []) ⟨hx, hb, hml, hown, hts⟩ (KK_ok g) hK (c_X2_takeZero l g s.heap (a + 7) rt ru hRt) (cwV 0 hts gX6_paid_X2_takeZero rfl rfl rfl (by decide +kernel) ⟨Nat.le_of_ble_eq_true rfl, Nat.le_of_ble_eq_true rfl⟩) (xr_rec hK hRt.1 rfl) rfl hl.1 rfl (Nat.le_of_ble_eq_true rfl) dX6_paid_44 ⟨Nat.le_of_ble_eq_true rfl, Nat.le_of_ble_eq_true rfl⟩ hS (fun q h => by have h : q = a + 7 + 2 ∨ q = a + 7 + 4 := h; show a ≤ q ∧ q < a + 579; omega) (fun _ H locs hq hz hkp hS => ?_)
        replace hkp := fun (q : Nat) h1 (h2 : ¬ (q = a + 7 + 2 ∨ q = a + 7 + 4)) => hkp q h1 h2
        replace hO := hO.kept (hkp _ hO.lt (by omega))
        replace hT0 := hT0.kept (fun q hq1 hq2 hq3 => hkp q hq1 (by omega))
        replace hT := hT.kept (fun q hq1 hq2 hq3 => hkp q hq1 (by omega))
        replace hLk := hLk.kept (hkp _ hLk.1.lt (by omega)) (hkp _ hLk.2.1.lt (by omega))
        replace hSl := hSl.kept (fun q hq1 hq2 hq3 => hkp q hq1 (by omega))
        replace hP := hP.kept (fun q hq1 hq2 hq3 => hkp q hq1 (by omega))
        replace hP2 := hP2.kept (fun q hq1 hq2 hq3 => hkp q hq1 (by omega))
        replace hPr := hPr.kept (hkp _ hPr.l1 (by omega)) (hkp _ hPr.l2 (by omega))
        have hRt : RatioAt g H (a + 7) 0 1 := hq
        refine lv_goto (tgt := 69) hx hb dX6_paid_47 (by decide) ?_
        refine lv_aload_n hx hb dX6_paid_69 rfl (lv_at hl 2 rfl) ?_
        refine va_get (D := g.1) (ci := 6) (v := .ref (a + 7)) (C := RX6) (T := TX6) (N := 7) hx hb hts (by decide +kernel) hown hK.1 (xr_one hO) 0 rfl rfl 2 (by decide) (hts (.fieldLink RX6 22 "SharesDesk" "ratio" "LSharesDesk$Ratio;") (by decide +kernel)) (fun _ h9 => h9) rfl dX6_paid_70 ?_
        refine lv_iload_n hx hb dX6_paid_73 rfl (lv_at hl 5 rfl) ?_
        refine lv_iload hx hb dX6_paid_74 (lv_at hl 6 rfl) ?_
        refine xr_Vi (rest := []) ⟨hx, hb, hml, hown, hts⟩ (KK_ok g) hK (c_X2_wordOf l g H (a + 7) _ _ part word hRt) (cwV 2 hts gX6_paid_X2_wordOf rfl rfl rfl (by decide +kernel) ⟨Nat.le_of_ble_eq_true rfl, Nat.le_of_ble_eq_true rfl⟩) (xr_rec hK hRt.1 rfl) rfl hl.1 rfl (Nat.le_of_ble_eq_true rfl) dX6_paid_76 ⟨Nat.le_of_ble_eq_true rfl, Nat.le_of_ble_eq_true rfl⟩ hS (fun q h => h.elim) (fun r H locs hq hz hkp hS937 => ?_)
        obtain ⟨rfl, rfl⟩ := hq
        have hS := hS937
        exact xr_iret hx hb hr hlocks hS ⟨by unfold aPd; rw [if_pos h9, if_neg hne, hre, ix_nI (show j < 2 ^ 31 by omega), ix_nI (show r < 2 ^ 31 by omega), show pyN S ap j r = 0 by unfold pyN; rw [if_pos e1], wQ_0 hbr.1], ⟨rs, tr, _, _, ly, n2, S2, hrt, hO, hT0, hT, hRt, hLk, hSl, hP, hP2, hPr, hp1, hp2⟩⟩ dX6_paid_79
      · by_cases e2 : r = qemp S j
        · rw [show payV rs (qemp S) ap (qpik S) j r = .ref (rs + 26 + 4 * j) by unfold payV; rw [if_neg e1, if_pos e2]]
          refine lv_astore (lv' := [(6, .ref (rs + 26 + 4 * j)), (5, .int (nI r)), (0, .ref a), (1, .int (nI j)), (2, .int p), (3, .int part), (4, .int word)]) hx hb dX6_paid_33 hl (by decide) rfl (fun ls hl => ?_)
          refine lv_aload hx hb dX6_paid_35 (lv_at hl 0 rfl) ?_
          refine lv_ifnonnull (tgt := 50) hx hb dX6_paid_37 (by decide) ?_
          refine lv_aload_n hx hb dX6_paid_50 rfl (lv_at hl 2 rfl) ?_
          refine va_get (D := g.1) (ci := 6) (v := .ref (a + 7)) (C := RX6) (T := TX6) (N := 7) hx hb hts (by decide +kernel) hown hK.1 (xr_one hO) 0 rfl rfl 2 (by decide) (hts (.fieldLink RX6 22 "SharesDesk" "ratio" "LSharesDesk$Ratio;") (by decide +kernel)) (fun _ h9 => h9) rfl dX6_paid_51 ?_
          refine lv_aload hx hb dX6_paid_54 (lv_at hl 0 rfl) ?_
          refine lv_aload_n hx hb dX6_paid_56 rfl (lv_at hl 2 rfl) ?_
          refine va_get (D := g.1) (ci := 6) (v := .ref rs) (C := RX6) (T := TX6) (N := 7) hx hb hts (by decide +kernel) hown hK.1 (xr_one hO) 0 rfl rfl 5 (by decide) (hts (.fieldLink RX6 45 "SharesDesk" "result" "LSharesDesk$Phase;") (by decide +kernel)) (fun _ h9 => h9) rfl dX6_paid_57 ?_
          refine va_get (D := g.1) (ci := 1) (v := .ref (rs + 9)) (C := RX1) (T := TX1) (N := 16) hx hb hts (by decide +kernel) hown hK.1 (xr_one hPO) 0 rfl rfl 12 (by decide) (hts (.fieldLink RX6 148 "SharesDesk$Phase" "bases" "[LSharesDesk$Natural;") (by decide +kernel)) (fun _ h9 => h9) rfl dX6_paid_60 ?_
          refine lv_iload hx hb dX6_paid_63 (lv_at hl 1 rfl) ?_
          refine xr_pl hx hb hK hBb (show r < 16 by omega) (by decide) dX6_paid_65 ?_
          refine xr_Vv (rest := []) ⟨hx, hb, hml, hown, hts⟩ (KK_ok g) hK (c_X2_take l g s.heap (a + 7) rt ru (rs + 26 + 4 * j) (rs + 218 + 4 * r) (qlas S j) (qbas S r) hRt hPr (by omega) (by omega) (hLa.2 j hj) (hBb.2 r (by omega)) (by omega) (by omega) hbr.1 hbr.2) (cwV 2 hts gX6_paid_X2_take rfl rfl rfl (by decide +kernel) ⟨Nat.le_of_ble_eq_true rfl, Nat.le_of_ble_eq_true rfl⟩) (xr_rec hK hRt.1 rfl) rfl hl.1 rfl (Nat.le_of_ble_eq_true rfl) dX6_paid_66 ⟨Nat.le_of_ble_eq_true rfl, Nat.le_of_ble_eq_true rfl⟩ hS (fun q h => by have h : q = a + 7 + 2 ∨ q = a + 7 + 4 := h; show a ≤ q ∧ q < a + 579; omega) (fun _ H locs hq hz hkp hS => ?_)
          replace hkp := fun (q : Nat) h1 (h2 : ¬ (q = a + 7 + 2 ∨ q = a + 7 + 4)) => hkp q h1 h2
          replace hO := hO.kept (hkp _ hO.lt (by omega))
          replace hT0 := hT0.kept (fun q hq1 hq2 hq3 => hkp q hq1 (by omega))
          replace hT := hT.kept (fun q hq1 hq2 hq3 => hkp q hq1 (by omega))
          replace hLk := hLk.kept (hkp _ hLk.1.lt (by omega)) (hkp _ hLk.2.1.lt (by omega))
          replace hSl := hSl.kept (fun q hq1 hq2 hq3 => hkp q hq1 (by omega))
          replace hP := hP.kept (fun q hq1 hq2 hq3 => hkp q hq1 (by omega))
          replace hP2 := hP2.kept (fun q hq1 hq2 hq3 => hkp q hq1 (by omega))
          replace hPr := hPr.kept (hkp _ hPr.l1 (by omega)) (hkp _ hPr.l2 (by omega))
          have hRt : RatioAt g H (a + 7) ((qlas S j) / Nat.gcd (qlas S j) (qbas S r)) ((qbas S r) / Nat.gcd (qlas S j) (qbas S r)) := hq
          refine lv_aload_n hx hb dX6_paid_69 rfl (lv_at hl 2 rfl) ?_
          refine va_get (D := g.1) (ci := 6) (v := .ref (a + 7)) (C := RX6) (T := TX6) (N := 7) hx hb hts (by decide +kernel) hown hK.1 (xr_one hO) 0 rfl rfl 2 (by decide) (hts (.fieldLink RX6 22 "SharesDesk" "ratio" "LSharesDesk$Ratio;") (by decide +kernel)) (fun _ h9 => h9) rfl dX6_paid_70 ?_
          refine lv_iload_n hx hb dX6_paid_73 rfl (lv_at hl 5 rfl) ?_
          refine lv_iload hx hb dX6_paid_74 (lv_at hl 6 rfl) ?_
          refine xr_Vi (rest := []) ⟨hx, hb, hml, hown, hts⟩ (KK_ok g) hK (c_X2_wordOf l g H (a + 7) _ _ part word hRt) (cwV 2 hts gX6_paid_X2_wordOf rfl rfl rfl (by decide +kernel) ⟨Nat.le_of_ble_eq_true rfl, Nat.le_of_ble_eq_true rfl⟩) (xr_rec hK hRt.1 rfl) rfl hl.1 rfl (Nat.le_of_ble_eq_true rfl) dX6_paid_76 ⟨Nat.le_of_ble_eq_true rfl, Nat.le_of_ble_eq_true rfl⟩ hS (fun q h => h.elim) (fun r H locs hq hz hkp hS938 => ?_)
          obtain ⟨rfl, rfl⟩ := hq
          have hS := hS938
          exact xr_iret hx hb hr hlocks hS ⟨by unfold aPd; rw [if_pos h9, if_neg hne, hre, ix_nI (show j < 2 ^ 31 by omega), ix_nI (show r < 2 ^ 31 by omega), show pyN S ap j r = qlas S j by unfold pyN; rw [if_neg e1, if_pos e2]]; rfl, ⟨rs, tr, _, _, ly, n2, S2, hrt, hO, hT0, hT, hRt, hLk, hSl, hP, hP2, hPr, hp1, hp2⟩⟩ dX6_paid_79
        · rw [show payV rs (qemp S) ap (qpik S) j r = .ref (rs + 216 + 4 * r) by unfold payV; rw [if_neg e1, if_neg e2]]
          refine lv_astore (lv' := [(6, .ref (rs + 216 + 4 * r)), (5, .int (nI r)), (0, .ref a), (1, .int (nI j)), (2, .int p), (3, .int part), (4, .int word)]) hx hb dX6_paid_33 hl (by decide) rfl (fun ls hl => ?_)
          refine lv_aload hx hb dX6_paid_35 (lv_at hl 0 rfl) ?_
          refine lv_ifnonnull (tgt := 50) hx hb dX6_paid_37 (by decide) ?_
          refine lv_aload_n hx hb dX6_paid_50 rfl (lv_at hl 2 rfl) ?_
          refine va_get (D := g.1) (ci := 6) (v := .ref (a + 7)) (C := RX6) (T := TX6) (N := 7) hx hb hts (by decide +kernel) hown hK.1 (xr_one hO) 0 rfl rfl 2 (by decide) (hts (.fieldLink RX6 22 "SharesDesk" "ratio" "LSharesDesk$Ratio;") (by decide +kernel)) (fun _ h9 => h9) rfl dX6_paid_51 ?_
          refine lv_aload hx hb dX6_paid_54 (lv_at hl 0 rfl) ?_
          refine lv_aload_n hx hb dX6_paid_56 rfl (lv_at hl 2 rfl) ?_
          refine va_get (D := g.1) (ci := 6) (v := .ref rs) (C := RX6) (T := TX6) (N := 7) hx hb hts (by decide +kernel) hown hK.1 (xr_one hO) 0 rfl rfl 5 (by decide) (hts (.fieldLink RX6 45 "SharesDesk" "result" "LSharesDesk$Phase;") (by decide +kernel)) (fun _ h9 => h9) rfl dX6_paid_57 ?_
          refine va_get (D := g.1) (ci := 1) (v := .ref (rs + 9)) (C := RX1) (T := TX1) (N := 16) hx hb hts (by decide +kernel) hown hK.1 (xr_one hPO) 0 rfl rfl 12 (by decide) (hts (.fieldLink RX6 148 "SharesDesk$Phase" "bases" "[LSharesDesk$Natural;") (by decide +kernel)) (fun _ h9 => h9) rfl dX6_paid_60 ?_
          refine lv_iload hx hb dX6_paid_63 (lv_at hl 1 rfl) ?_
          refine xr_pl hx hb hK hBb (show r < 16 by omega) (by decide) dX6_paid_65 ?_
          refine xr_Vv (rest := []) ⟨hx, hb, hml, hown, hts⟩ (KK_ok g) hK (c_X2_take l g s.heap (a + 7) rt ru (rs + 216 + 4 * r) (rs + 218 + 4 * r) (qrat S r) (qbas S r) hRt hPr (by omega) (by omega) (hRa.2 r (by omega)) (hBb.2 r (by omega)) (by omega) (by omega) hbr.1 hbr.2) (cwV 2 hts gX6_paid_X2_take rfl rfl rfl (by decide +kernel) ⟨Nat.le_of_ble_eq_true rfl, Nat.le_of_ble_eq_true rfl⟩) (xr_rec hK hRt.1 rfl) rfl hl.1 rfl (Nat.le_of_ble_eq_true rfl) dX6_paid_66 ⟨Nat.le_of_ble_eq_true rfl, Nat.le_of_ble_eq_true rfl⟩ hS (fun q h => by have h : q = a + 7 + 2 ∨ q = a + 7 + 4 := h; show a ≤ q ∧ q < a + 579; omega) (fun _ H locs hq hz hkp hS => ?_)
          replace hkp := fun (q : Nat) h1 (h2 : ¬ (q = a + 7 + 2 ∨ q = a + 7 + 4)) => hkp q h1 h2
          replace hO := hO.kept (hkp _ hO.lt (by omega))
          replace hT0 := hT0.kept (fun q hq1 hq2 hq3 => hkp q hq1 (by omega))
          replace hT := hT.kept (fun q hq1 hq2 hq3 => hkp q hq1 (by omega))
          replace hLk := hLk.kept (hkp _ hLk.1.lt (by omega)) (hkp _ hLk.2.1.lt (by omega))
          replace hSl := hSl.kept (fun q hq1 hq2 hq3 => hkp q hq1 (by omega))
          replace hP := hP.kept (fun q hq1 hq2 hq3 => hkp q hq1 (by omega))
          replace hP2 := hP2.kept (fun q hq1 hq2 hq3 => hkp q hq1 (by omega))
          replace hPr := hPr.kept (hkp _ hPr.l1 (by omega)) (hkp _ hPr.l2 (by omega))
          have hRt : RatioAt g H (a + 7) ((qrat S r) / Nat.gcd (qrat S r) (qbas S r)) ((qbas S r) / Nat.gcd (qrat S r) (qbas S r)) := hq
          refine lv_aload_n hx hb dX6_paid_69 rfl (lv_at hl 2 rfl) ?_
          refine va_get (D := g.1) (ci := 6) (v := .ref (a + 7)) (C := RX6) (T := TX6) (N := 7) hx hb hts (by decide +kernel) hown hK.1 (xr_one hO) 0 rfl rfl 2 (by decide) (hts (.fieldLink RX6 22 "SharesDesk" "ratio" "LSharesDesk$Ratio;") (by decide +kernel)) (fun _ h9 => h9) rfl dX6_paid_70 ?_
          refine lv_iload_n hx hb dX6_paid_73 rfl (lv_at hl 5 rfl) ?_
          refine lv_iload hx hb dX6_paid_74 (lv_at hl 6 rfl) ?_
          refine xr_Vi (rest := []) ⟨hx, hb, hml, hown, hts⟩ (KK_ok g) hK (c_X2_wordOf l g H (a + 7) _ _ part word hRt) (cwV 2 hts gX6_paid_X2_wordOf rfl rfl rfl (by decide +kernel) ⟨Nat.le_of_ble_eq_true rfl, Nat.le_of_ble_eq_true rfl⟩) (xr_rec hK hRt.1 rfl) rfl hl.1 rfl (Nat.le_of_ble_eq_true rfl) dX6_paid_76 ⟨Nat.le_of_ble_eq_true rfl, Nat.le_of_ble_eq_true rfl⟩ hS (fun q h => h.elim) (fun r H locs hq hz hkp hS939 => ?_)
          obtain ⟨rfl, rfl⟩ := hq
          have hS := hS939
          exact xr_iret hx hb hr hlocks hS ⟨by unfold aPd; rw [if_pos h9, if_neg hne, hre, ix_nI (show j < 2 ^ 31 by omega), ix_nI (show r < 2 ^ 31 by omega), show pyN S ap j r = qrat S r by unfold pyN; rw [if_neg e1, if_neg e2]]; rfl, ⟨rs, tr, _, _, ly, n2, S2, hrt, hO, hT0, hT, hRt, hLk, hSl, hP, hP2, hPr, hp1, hp2⟩⟩ dX6_paid_79
  · have h9 : isV vs v = false := b2i_0.mp h0
    refine lv_iconst (v := 0) hx hb dX6_paid_11 (by decide) ?_
    exact xr_iret hx hb hr hlocks hS ⟨by unfold aPd; rw [if_neg (by rw [h9]; decide)], hD⟩ dX6_paid_12
set_option maxHeartbeats 1000000 in
set_option maxRecDepth 100000 in
theorem c_X6_deservesMore (l : Launch) (g : WG) (H0 : Heap) (a : Nat) (c0 : Nat → Nat) (vs0 : Nat) (ap0 : Nat → Nat) (bu0 : Nat) (c : Nat → Nat) (vs : Nat) (ap : Nat → Nat) (bu : Nat) (n : Nat) (S : PSt) (ow : Int32) (tx : List Nat) (hD : DeskAt g H0 a c0 vs0 ap0 bu0 c vs ap bu n S ow tx) (hQ : PhQ c vs ap n S) (st mm : Nat) (hst : st < 2 ^ 16) (hmm : mm < 2 ^ 31) : Ctr l (KK g) yX6_deservesMore wsX6_deservesMore { frames := 2, cells := 0, slots := 0, locals := 41 } [.ref a, .int (nI st), .int (nI mm), .int (nI (cnt vs 48))] H0 eI (fun r H => r = b2i (aDm c vs ap bu (qps S) st mm) ∧ H = H0) (fun _ => False) := by
  refine xr_enter (cc := cX6_deservesMore) (maxL := 6) (ret := (some .boolean)) (by decide) rfl (Nat.le_of_ble_eq_true rfl) ?_
  intro pgm env s mid below meth cde hx hb hr hml hts hown hlocks hnm hH hK ls hl
  subst hH
  have hl : lv_has ls 6 [(0, .ref a), (1, .int (nI st)), (2, .int (nI mm)), (3, .int (nI (cnt vs 48)))] := hl
  have hS : va_S (fun _ => False) s.heap s.heap [] := va_S.rf
  obtain ⟨rs, tr, rt, ru, ly, n2, S2, hrt, hO, hT0, hT, hRt, hLk, hSl, hP, hP2, hPr, hp1, hp2⟩ := id hD
  obtain ⟨op, bs, tq, rb, kb, rq, kq, htb, hPO, hBa, hPu, hLa, hEm, hPy, hPi, hRa, hBb, hBs, hTr⟩ := id hP
  obtain ⟨hn16, hpik, hem, hps, hpc, hpay, hco, hBS, hbS, hBb48, hms⟩ := id hQ
  obtain ⟨hTO, hcs, hap, hcb, hvb, hab, hbb⟩ := id hT
  have loop : ∀ (k v : Nat), v + k = 48 → ∀ (locs : List Loc), va_S (fun _ => False) s.heap s.heap locs → ∀ ls : Array Slot, lv_has ls 6 [(5, .int (nI v)), (4, .int (nI (grp vs ap (qps S) st mm v))), (0, .ref a), (1, .int (nI st)), (2, .int (nI mm)), (3, .int (nI (cnt vs 48)))] → W pgm l env { frames := 2, cells := 0, slots := 0, locals := 41 } s mid ([.ref a, .int (nI st), .int (nI mm), .int (nI (cnt vs 48))] : List Value).toArray below meth cde s.heap locs 0 0 (MQ below (xr_Post eI (fun r H => r = b2i (aDm c vs ap bu (qps S) st mm) ∧ H = s.heap) (fun _ => False)) ([.ref a, .int (nI st), .int (nI mm), .int (nI (cnt vs 48))] : List Value).toArray s ({ frames := 2, cells := 0, slots := 0, locals := 41 } : Room).cells ({ frames := 2, cells := 0, slots := 0, locals := 41 } : Room).slots (fun _ => False)) (F0 mid 6 ls []) := by
    intro k
    induction k with
    | zero =>
      intro v h1 locs hS ls hl
      have e : v = 48 := by omega
      subst e
      have hg48 := grp_le vs ap (qps S) st mm 48
      have hc48 := cnt_le vs 48
      have hcl := costOf_le (st := st) hcb 16 (Nat.le_refl _)
      have hm1 : grp vs ap (qps S) st mm 48 * bu ≤ 48 * 10000000 := Nat.mul_le_mul hg48 hbb.2
      have hm2 : cnt vs 48 * costOf c st 16 ≤ 48 * 16000000 := Nat.mul_le_mul hc48 hcl
      refine lv_iload hx hb dX6_deservesMore_6 (lv_at hl 0 rfl) ?_
      refine lv_bipush (v := 48) hx hb dX6_deservesMore_8 (by decide) ?_
      refine lv_icmp_ge (tgt := 63) hx hb dX6_deservesMore_10 (by decide) (fun hc => ?_) (fun hc => ?_)
      · clear hc
        refine lv_iload hx hb dX6_deservesMore_63 (lv_at hl 1 rfl) ?_
        refine lv_i2l (v := lN (grp vs ap (qps S) st mm 48)) hx hb dX6_deservesMore_65 (nI_l (by omega)) ?_
        refine lv_aload_n hx hb dX6_deservesMore_66 rfl (lv_at hl 2 rfl) ?_
        refine va_get (D := g.1) (ci := 6) (v := .ref (a + 4)) (C := RX6) (T := TX6) (N := 7) hx hb hts (by decide +kernel) hown hK.1 (xr_one hO) 0 rfl rfl 1 (by decide) (hts (.fieldLink RX6 16 "SharesDesk" "past" "LSharesDesk$Town;") (by decide +kernel)) (fun _ h9 => h9) rfl dX6_deservesMore_67 ?_
        refine va_get (D := g.1) (ci := 5) (v := .int (nI bu)) (C := RX5) (T := TX5) (N := 4) hx hb hts (by decide +kernel) hown hK.1 (xr_one hTO) 0 rfl rfl 3 (by decide) (hts (.fieldLink RX6 65 "SharesDesk$Town" "budget" "I") (by decide +kernel)) (fun _ h9 => h9) rfl dX6_deservesMore_70 ?_
        refine lv_i2l (v := lN bu) hx hb dX6_deservesMore_73 (nI_l (by omega)) ?_
        refine lv_lmul hx hb dX6_deservesMore_74 ?_
        refine xr_tl (x' := lN (grp vs ap (qps S) st mm 48 * bu)) (lN_mul _ _) ?_
        refine lv_iload_n hx hb dX6_deservesMore_75 rfl (lv_at hl 5 rfl) ?_
        refine lv_i2l (v := lN (cnt vs 48)) hx hb dX6_deservesMore_76 (nI_l (by omega)) ?_
        refine lv_aload_n hx hb dX6_deservesMore_77 rfl (lv_at hl 2 rfl) ?_
        refine va_get (D := g.1) (ci := 6) (v := .ref (a + 4)) (C := RX6) (T := TX6) (N := 7) hx hb hts (by decide +kernel) hown hK.1 (xr_one hO) 0 rfl rfl 1 (by decide) (hts (.fieldLink RX6 16 "SharesDesk" "past" "LSharesDesk$Town;") (by decide +kernel)) (fun _ h9 => h9) rfl dX6_deservesMore_78 ?_
        refine lv_iload_n hx hb dX6_deservesMore_81 rfl (lv_at hl 3 rfl) ?_
        refine xr_Vi (rest := [.long (lN (cnt vs 48)), .long (lN (grp vs ap (qps S) st mm 48 * bu))]) ⟨hx, hb, hml, hown, hts⟩ (KK_ok g) hK (c_X5_costOf l g s.heap (a + 4) c vs ap bu hT st hst) (cwV 1 hts gX6_deservesMore_X5_costOf rfl rfl rfl (by decide +kernel) ⟨Nat.le_of_ble_eq_true rfl, Nat.le_of_ble_eq_true rfl⟩) (xr_rec hK hTO rfl) rfl hl.1 rfl (Nat.le_of_ble_eq_true rfl) dX6_deservesMore_82 ⟨Nat.le_of_ble_eq_true rfl, Nat.le_of_ble_eq_true rfl⟩ hS (fun q h => h.elim) (fun r H locs hq hz hkp hS940 => ?_)
        obtain ⟨rfl, rfl⟩ := hq
        have hS := hS940
        refine lv_i2l (v := lN (costOf c st 16)) hx hb dX6_deservesMore_85 (nI_l (by omega)) ?_
        refine lv_lmul hx hb dX6_deservesMore_86 ?_
        refine xr_tl (x' := lN (cnt vs 48 * costOf c st 16)) (lN_mul _ _) ?_
        refine W.lcmp hx hb dX6_deservesMore_87 ?_
        refine lv_if_lt (tgt := 95) hx hb dX6_deservesMore_88 (by decide) (fun hc => ?_) (fun hc => ?_)
        · have h9 : ¬ cnt vs 48 * costOf c st 16 ≤ grp vs ap (qps S) st mm 48 * bu := Nat.not_le.mpr ((pk_lLT (by omega) (by omega)).mp ((lg_cmp_lt _ _).mp hc))
          refine lv_iconst (v := 0) hx hb dX6_deservesMore_95 (by decide) ?_
          exact xr_zret hx hb hr rfl hlocks hS ⟨by unfold aDm; rw [decide_eq_false h9]; rfl, rfl⟩ dX6_deservesMore_96
        · have h9 : cnt vs 48 * costOf c st 16 ≤ grp vs ap (qps S) st mm 48 * bu := Nat.le_of_not_lt fun q => hc ((lg_cmp_lt _ _).mpr ((pk_lLT (by omega) (by omega)).mpr q))
          refine lv_iconst (v := 1) hx hb dX6_deservesMore_91 (by decide) ?_
          refine lv_goto (tgt := 96) hx hb dX6_deservesMore_92 (by decide) ?_
          exact xr_zret hx hb hr rfl hlocks hS ⟨by unfold aDm; rw [decide_eq_true h9]; rfl, rfl⟩ dX6_deservesMore_96
      · exact absurd (by decide) hc
    | succ k ih =>
      intro v h1 locs hS ls hl
      have hav := hab v (by omega)
      have hcs32 := cnt_le (ap v &&& qps S) 32
      refine lv_iload hx hb dX6_deservesMore_6 (lv_at hl 0 rfl) ?_
      refine lv_bipush (v := 48) hx hb dX6_deservesMore_8 (by decide) ?_
      refine lv_icmp_ge (tgt := 63) hx hb dX6_deservesMore_10 (by decide) (fun hc => ?_) (fun hc => ?_)
      · exact absurd ((nI_leI (a := 48) (b := v) (by decide) (by omega)).mp hc) (by omega)
      · clear hc
        refine lv_aload_n hx hb dX6_deservesMore_13 rfl (lv_at hl 2 rfl) ?_
        refine va_get (D := g.1) (ci := 6) (v := .ref (a + 4)) (C := RX6) (T := TX6) (N := 7) hx hb hts (by decide +kernel) hown hK.1 (xr_one hO) 0 rfl rfl 1 (by decide) (hts (.fieldLink RX6 16 "SharesDesk" "past" "LSharesDesk$Town;") (by decide +kernel)) (fun _ h9 => h9) rfl dX6_deservesMore_14 ?_
        refine lv_iload hx hb dX6_deservesMore_17 (lv_at hl 0 rfl) ?_
        refine xr_Vi (rest := []) ⟨hx, hb, hml, hown, hts⟩ (KK_ok g) hK (c_X5_hasVoter l g s.heap (a + 4) c vs ap bu hT (nI v)) (cwV 1 hts gX6_deservesMore_X5_hasVoter rfl rfl rfl (by decide +kernel) ⟨Nat.le_of_ble_eq_true rfl, Nat.le_of_ble_eq_true rfl⟩) (xr_rec hK hTO rfl) rfl hl.1 rfl (Nat.le_of_ble_eq_true rfl) dX6_deservesMore_19 ⟨Nat.le_of_ble_eq_true rfl, Nat.le_of_ble_eq_true rfl⟩ hS (fun q h => h.elim) (fun r H locs hq hz hkp hS941 => ?_)
        obtain ⟨rfl, rfl⟩ := hq
        have hS := hS941
        rw [inR_yes (show v < 48 by omega) (by decide), ix_nI (show v < 2 ^ 31 by omega), Bool.true_and]
        refine lv_if_eq (tgt := 57) hx hb dX6_deservesMore_22 (by decide) (fun h2 => ?_) (fun h2 => ?_)
        · have h9 := b2i_0.mp h2
          refine lv_iinc (v := nI (v + 1)) (lv' := [(5, .int (nI (v + 1))), (4, .int (nI (grp vs ap (qps S) st mm v))), (0, .ref a), (1, .int (nI st)), (2, .int (nI mm)), (3, .int (nI (cnt vs 48)))]) hx hb dX6_deservesMore_57 hl (k := 0) rfl (nI_1 v) (by decide) rfl (fun ls hl => ?_)
          refine lv_goto (tgt := 6) hx hb dX6_deservesMore_60 (by decide) ?_
          exact ih (v + 1) (by omega) _ hS ls (by rw [grp_n (fun q => by rw [h9] at q; exact absurd q.1 (by decide))]; exact lv_sub hl [0, 1, 2, 3, 4, 5] rfl)
        · have h9 := b2i_n0.mp h2
          refine lv_aload_n hx hb dX6_deservesMore_25 rfl (lv_at hl 2 rfl) ?_
          refine va_get (D := g.1) (ci := 6) (v := .ref (a + 4)) (C := RX6) (T := TX6) (N := 7) hx hb hts (by decide +kernel) hown hK.1 (xr_one hO) 0 rfl rfl 1 (by decide) (hts (.fieldLink RX6 16 "SharesDesk" "past" "LSharesDesk$Town;") (by decide +kernel)) (fun _ h9 => h9) rfl dX6_deservesMore_26 ?_
          refine va_get (D := g.1) (ci := 5) (v := .ref (a + 4 + 2)) (C := RX5) (T := TX5) (N := 4) hx hb hts (by decide +kernel) hown hK.1 (xr_one hTO) 0 rfl rfl 2 (by decide) (hts (.fieldLink RX6 79 "SharesDesk$Town" "approvals" "[I") (by decide +kernel)) (fun _ h9 => h9) rfl dX6_deservesMore_29 ?_
          refine lv_iload hx hb dX6_deservesMore_32 (lv_at hl 0 rfl) ?_
          refine xr_rd hx hb hK hap (show v < 48 by omega) (by decide) dX6_deservesMore_34 ?_
          refine lv_iload_n hx hb dX6_deservesMore_35 rfl (lv_at hl 3 rfl) ?_
          refine lv_iand hx hb dX6_deservesMore_36 ?_
          refine xr_ti (x' := nI (ap v &&& st)) (nx_and2 _ _) ?_
          refine lv_iload_n hx hb dX6_deservesMore_37 rfl (lv_at hl 3 rfl) ?_
          refine lv_icmp_ne (tgt := 57) hx hb dX6_deservesMore_38 (by decide) (fun h3 => ?_) (fun h3 => ?_)
          all_goals have hal : ap v &&& st < 2 ^ 16 := Nat.lt_of_le_of_lt Nat.and_le_left hav
          · have h8 : ¬ ap v &&& st = st := fun q => h3 (by rw [q])
            refine lv_iinc (v := nI (v + 1)) (lv' := [(5, .int (nI (v + 1))), (4, .int (nI (grp vs ap (qps S) st mm v))), (0, .ref a), (1, .int (nI st)), (2, .int (nI mm)), (3, .int (nI (cnt vs 48)))]) hx hb dX6_deservesMore_57 hl (k := 0) rfl (nI_1 v) (by decide) rfl (fun ls hl => ?_)
            refine lv_goto (tgt := 6) hx hb dX6_deservesMore_60 (by decide) ?_
            exact ih (v + 1) (by omega) _ hS ls (by rw [grp_n (fun q => h8 q.2.1)]; exact lv_sub hl [0, 1, 2, 3, 4, 5] rfl)
          · have h8 : ap v &&& st = st := (nI_inj (by omega) (by omega)).mp h3
            refine lv_aload_n hx hb dX6_deservesMore_41 rfl (lv_at hl 2 rfl) ?_
            refine va_get (D := g.1) (ci := 6) (v := .ref rs) (C := RX6) (T := TX6) (N := 7) hx hb hts (by decide +kernel) hown hK.1 (xr_one hO) 0 rfl rfl 5 (by decide) (hts (.fieldLink RX6 45 "SharesDesk" "result" "LSharesDesk$Phase;") (by decide +kernel)) (fun _ h9 => h9) rfl dX6_deservesMore_42 ?_
            refine lv_iload hx hb dX6_deservesMore_45 (lv_at hl 0 rfl) ?_
            refine xr_Vi (rest := []) ⟨hx, hb, hml, hown, hts⟩ (KK_ok g) hK (c_X1_countServed l g s.heap (a + 4) c vs ap bu hT rs (qpc S) n (qps S) (qco S) op bs tq hPO (by omega) v (by omega) (by omega)) (cwV 1 hts gX6_deservesMore_X1_countServed rfl rfl rfl (by decide +kernel) ⟨Nat.le_of_ble_eq_true rfl, Nat.le_of_ble_eq_true rfl⟩) (xr_rec hK hPO rfl) rfl hl.1 rfl (Nat.le_of_ble_eq_true rfl) dX6_deservesMore_47 ⟨Nat.le_of_ble_eq_true rfl, Nat.le_of_ble_eq_true rfl⟩ hS (fun q h => h.elim) (fun r H locs hq hz hkp hS942 => ?_)
            obtain ⟨rfl, rfl⟩ := hq
            have hS := hS942
            refine lv_iload_n hx hb dX6_deservesMore_50 rfl (lv_at hl 4 rfl) ?_
            refine lv_icmp_ge (tgt := 57) hx hb dX6_deservesMore_51 (by decide) (fun h4 => ?_) (fun h4 => ?_)
            · have h7 : mm ≤ cnt (ap v &&& qps S) 32 := (nI_leI hmm (by omega)).mp h4
              refine lv_iinc (v := nI (v + 1)) (lv' := [(5, .int (nI (v + 1))), (4, .int (nI (grp vs ap (qps S) st mm v))), (0, .ref a), (1, .int (nI st)), (2, .int (nI mm)), (3, .int (nI (cnt vs 48)))]) hx hb dX6_deservesMore_57 hl (k := 0) rfl (nI_1 v) (by decide) rfl (fun ls hl => ?_)
              refine lv_goto (tgt := 6) hx hb dX6_deservesMore_60 (by decide) ?_
              exact ih (v + 1) (by omega) _ hS ls (by rw [grp_n (fun q => absurd q.2.2 (by omega))]; exact lv_sub hl [0, 1, 2, 3, 4, 5] rfl)
            · have h7 : cnt (ap v &&& qps S) 32 < mm := Nat.lt_of_not_le fun q => h4 (nI_le q (by omega))
              refine lv_iinc (v := nI (grp vs ap (qps S) st mm v + 1)) (lv' := [(4, .int (nI (grp vs ap (qps S) st mm v + 1))), (5, .int (nI v)), (0, .ref a), (1, .int (nI st)), (2, .int (nI mm)), (3, .int (nI (cnt vs 48)))]) hx hb dX6_deservesMore_54 hl (k := 1) rfl (nI_1 _) (by decide) rfl (fun ls hl => ?_)
              refine lv_iinc (v := nI (v + 1)) (lv' := [(5, .int (nI (v + 1))), (4, .int (nI (grp vs ap (qps S) st mm v + 1))), (0, .ref a), (1, .int (nI st)), (2, .int (nI mm)), (3, .int (nI (cnt vs 48)))]) hx hb dX6_deservesMore_57 hl (k := 1) rfl (nI_1 v) (by decide) rfl (fun ls hl => ?_)
              refine lv_goto (tgt := 6) hx hb dX6_deservesMore_60 (by decide) ?_
              exact ih (v + 1) (by omega) _ hS ls (by rw [grp_y ⟨h9, h8, h7⟩]; exact lv_sub hl [0, 1, 2, 3, 4, 5] rfl)
  refine lv_iconst (v := 0) hx hb dX6_deservesMore_0 (by decide) ?_
  refine xr_ti (x' := nI (grp vs ap (qps S) st mm 0)) rfl ?_
  refine lv_istore (lv' := [(4, .int (nI (grp vs ap (qps S) st mm 0))), (0, .ref a), (1, .int (nI st)), (2, .int (nI mm)), (3, .int (nI (cnt vs 48)))]) hx hb dX6_deservesMore_1 hl (by decide) rfl (fun ls hl => ?_)
  refine lv_iconst (v := 0) hx hb dX6_deservesMore_3 (by decide) ?_
  refine xr_ti (x' := nI 0) rfl ?_
  refine lv_istore (lv' := [(5, .int (nI 0)), (4, .int (nI (grp vs ap (qps S) st mm 0))), (0, .ref a), (1, .int (nI st)), (2, .int (nI mm)), (3, .int (nI (cnt vs 48)))]) hx hb dX6_deservesMore_4 hl (by decide) rfl (fun ls hl => ?_)
  exact loop 48 0 (by omega) [] hS ls (lv_sub hl [0, 1, 2, 3, 4, 5] rfl)
set_option maxHeartbeats 1000000 in
set_option maxRecDepth 100000 in
theorem c_X6_writeSlip (l : Launch) (g : WG) (H0 : Heap) (a : Nat) (c0 : Nat → Nat) (vs0 : Nat) (ap0 : Nat → Nat) (bu0 : Nat) (c : Nat → Nat) (vs : Nat) (ap : Nat → Nat) (bu : Nat) (n : Nat) (S : PSt) (ow : Int32) (tx : List Nat) (hD : DeskAt g H0 a c0 vs0 ap0 bu0 c vs ap bu n S ow tx) (hQ : PhQ c vs ap n S) (j : Nat) (hj : j < 48) (hv0 : vs ≠ 0) : Ctr l (KK g) yX6_writeSlip wsX6_writeSlip { frames := 4, cells := 0, slots := 0, locals := 105 } [.ref a, .int (nI j)] H0 eV (fun _ H => DeskAt g H a c0 vs0 ap0 bu0 c vs ap bu n S (nI j) (rcT S ap n j)) (fun q => a ≤ q ∧ q < a + 579) := by
  refine xr_enter (cc := cX6_writeSlip) (maxL := 4) (ret := none) (by decide) rfl (Nat.le_of_ble_eq_true rfl) ?_
  intro pgm env s mid below meth cde hx hb hr hml hts hown hlocks hnm hH hK ls hl
  subst hH
  have hl : lv_has ls 4 [(0, .ref a), (1, .int (nI j))] := hl
  have hS : va_S (fun q => a ≤ q ∧ q < a + 579) s.heap s.heap [] := va_S.rf
  obtain ⟨rs, tr, rt, ru, ly, n2, S2, hrt, hO, hT0, hT, hRt, hLk, hSl, hP, hP2, hPr, hp1, hp2⟩ := id hD
  obtain ⟨hn16, hpik, hem, hps, hpc, hpay, hco, hBS, hbS, hBb48, hms⟩ := id hQ
  have hB := hBS (Or.inl hv0)
  have loop : ∀ (k r : Nat), r + k = n → ∀ (H : Heap) (locs : List Loc) (rt ru : Nat), obj g H a 6 [.ref (a + 1), .ref (a + 4), .ref (a + 7), .ref (a + 12), .ref (a + 14), .ref rs, .ref tr] → TownAt g H (a + 1) c0 vs0 ap0 bu0 → TownAt g H (a + 4) c vs ap bu → RatioAt g H (a + 7) rt ru → NatAt g H (a + 12) ly → SlipAt g H (a + 14) (nI j) (sTx S ap j r) → PhAt g H rs (a + 4) n S → PhAt g H tr (a + 4) n2 S2 → PrimesAt g H → va_S (fun q => a ≤ q ∧ q < a + 579) s.heap H locs → ∀ ls : Array Slot, lv_has ls 4 [(2, .int (nI r)), (0, .ref a), (1, .int (nI j))] → W pgm l env { frames := 4, cells := 0, slots := 0, locals := 105 } s mid ([.ref a, .int (nI j)] : List Value).toArray below meth cde H locs 0 0 (MQ below (xr_Post eV (fun _ H => DeskAt g H a c0 vs0 ap0 bu0 c vs ap bu n S (nI j) (rcT S ap n j)) (fun q => a ≤ q ∧ q < a + 579)) ([.ref a, .int (nI j)] : List Value).toArray s ({ frames := 4, cells := 0, slots := 0, locals := 105 } : Room).cells ({ frames := 4, cells := 0, slots := 0, locals := 105 } : Room).slots (fun q => a ≤ q ∧ q < a + 579)) (F0 mid 10 ls []) := by
    intro k
    induction k with
    | zero =>
      intro r h1 H locs rt ru hO hT0 hT hRt hLk hSl hP hP2 hPr hS ls hl
      have e : r = n := by omega
      subst e
      have hlen := sTx_len S ap j r
      have hf1 := fTx_len (qpur S j) (qB S)
      obtain ⟨op, bs, tq, rb, kb, rq, kq, htb, hPO, hBa, hPu, hLa, hEm, hPy, hPi, hRa, hBb, hBs, hTr⟩ := id hP
      refine lv_iload_n hx hb dX6_writeSlip_10 rfl (lv_at hl 0 rfl) ?_
      refine lv_aload_n hx hb dX6_writeSlip_11 rfl (lv_at hl 1 rfl) ?_
      refine va_get (D := g.1) (ci := 6) (v := .ref rs) (C := RX6) (T := TX6) (N := 7) hx hb hts (by decide +kernel) hown hK.1 (xr_one hO) 0 rfl rfl 5 (by decide) (hts (.fieldLink RX6 45 "SharesDesk" "result" "LSharesDesk$Phase;") (by decide +kernel)) (fun _ h9 => h9) rfl dX6_writeSlip_12 ?_
      refine va_get (D := g.1) (ci := 1) (v := .int (nI r)) (C := RX1) (T := TX1) (N := 16) hx hb hts (by decide +kernel) hown hK.1 (xr_one hPO) 0 rfl rfl 8 (by decide) (hts (.fieldLink RX6 91 "SharesDesk$Phase" "picked" "I") (by decide +kernel)) (fun _ h9 => h9) rfl dX6_writeSlip_15 ?_
      refine lv_icmp_ge (tgt := 94) hx hb dX6_writeSlip_18 (by decide) (fun hc => ?_) (fun hc => ?_)
      · clear hc
        refine lv_aload_n hx hb dX6_writeSlip_94 rfl (lv_at hl 1 rfl) ?_
        refine va_get (D := g.1) (ci := 6) (v := .ref (a + 7)) (C := RX6) (T := TX6) (N := 7) hx hb hts (by decide +kernel) hown hK.1 (xr_one hO) 0 rfl rfl 2 (by decide) (hts (.fieldLink RX6 22 "SharesDesk" "ratio" "LSharesDesk$Ratio;") (by decide +kernel)) (fun _ h9 => h9) rfl dX6_writeSlip_95 ?_
        refine lv_aload_n hx hb dX6_writeSlip_98 rfl (lv_at hl 1 rfl) ?_
        refine va_get (D := g.1) (ci := 6) (v := .ref rs) (C := RX6) (T := TX6) (N := 7) hx hb hts (by decide +kernel) hown hK.1 (xr_one hO) 0 rfl rfl 5 (by decide) (hts (.fieldLink RX6 45 "SharesDesk" "result" "LSharesDesk$Phase;") (by decide +kernel)) (fun _ h9 => h9) rfl dX6_writeSlip_99 ?_
        refine va_get (D := g.1) (ci := 1) (v := .ref (rs + 3)) (C := RX1) (T := TX1) (N := 16) hx hb hts (by decide +kernel) hown hK.1 (xr_one hPO) 0 rfl rfl 2 (by decide) (hts (.fieldLink RX6 123 "SharesDesk$Phase" "purses" "[LSharesDesk$Natural;") (by decide +kernel)) (fun _ h9 => h9) rfl dX6_writeSlip_102 ?_
        refine lv_iload_n hx hb dX6_writeSlip_105 rfl (lv_at hl 2 rfl) ?_
        refine xr_pl hx hb hK hPu hj (by decide) dX6_writeSlip_106 ?_
        refine lv_aload_n hx hb dX6_writeSlip_107 rfl (lv_at hl 1 rfl) ?_
        refine va_get (D := g.1) (ci := 6) (v := .ref rs) (C := RX6) (T := TX6) (N := 7) hx hb hts (by decide +kernel) hown hK.1 (xr_one hO) 0 rfl rfl 5 (by decide) (hts (.fieldLink RX6 45 "SharesDesk" "result" "LSharesDesk$Phase;") (by decide +kernel)) (fun _ h9 => h9) rfl dX6_writeSlip_108 ?_
        refine va_get (D := g.1) (ci := 1) (v := .ref (rs + 1)) (C := RX1) (T := TX1) (N := 16) hx hb hts (by decide +kernel) hown hK.1 (xr_one hPO) 0 rfl rfl 1 (by decide) (hts (.fieldLink RX6 127 "SharesDesk$Phase" "base" "LSharesDesk$Natural;") (by decide +kernel)) (fun _ h9 => h9) rfl dX6_writeSlip_111 ?_
        refine xr_Vv (rest := []) ⟨hx, hb, hml, hown, hts⟩ (KK_ok g) hK (c_X2_take l g H (a + 7) rt ru (rs + 24 + 4 * j) (rs + 1) (qpur S j) (qB S) hRt hPr (by omega) (by omega) (hPu.2 j hj) (hBa) (by omega) (by omega) hB.1 hB.2) (cwV 2 hts gX6_writeSlip_X2_take rfl rfl rfl (by decide +kernel) ⟨Nat.le_of_ble_eq_true rfl, Nat.le_of_ble_eq_true rfl⟩) (xr_rec hK hRt.1 rfl) rfl hl.1 rfl (Nat.le_of_ble_eq_true rfl) dX6_writeSlip_114 ⟨Nat.le_of_ble_eq_true rfl, Nat.le_of_ble_eq_true rfl⟩ hS (fun q h => by have h : q = a + 7 + 2 ∨ q = a + 7 + 4 := h; show a ≤ q ∧ q < a + 579; omega) (fun _ H locs hq hz hkp hS => ?_)
        replace hkp := fun (q : Nat) h1 (h2 : ¬ (q = a + 7 + 2 ∨ q = a + 7 + 4)) => hkp q h1 h2
        replace hO := hO.kept (hkp _ hO.lt (by omega))
        replace hT0 := hT0.kept (fun q hq1 hq2 hq3 => hkp q hq1 (by omega))
        replace hT := hT.kept (fun q hq1 hq2 hq3 => hkp q hq1 (by omega))
        replace hLk := hLk.kept (hkp _ hLk.1.lt (by omega)) (hkp _ hLk.2.1.lt (by omega))
        replace hSl := hSl.kept (fun q hq1 hq2 hq3 => hkp q hq1 (by omega))
        replace hP := hP.kept (fun q hq1 hq2 hq3 => hkp q hq1 (by omega))
        replace hP2 := hP2.kept (fun q hq1 hq2 hq3 => hkp q hq1 (by omega))
        replace hPr := hPr.kept (hkp _ hPr.l1 (by omega)) (hkp _ hPr.l2 (by omega))
        replace hPO := hPO.kept (hkp _ hPO.lt (by omega))
        replace hBa := hBa.kept (hkp _ hBa.1.lt (by omega)) (hkp _ hBa.2.1.lt (by omega))
        replace hPu := hPu.kept (hkp _ hPu.1.lt (by omega)) (fun v hv => hkp _ (hPu.2 v hv).1.lt (by omega)) (fun v hv => hkp _ (hPu.2 v hv).2.1.lt (by omega))
        replace hLa := hLa.kept (hkp _ hLa.1.lt (by omega)) (fun v hv => hkp _ (hLa.2 v hv).1.lt (by omega)) (fun v hv => hkp _ (hLa.2 v hv).2.1.lt (by omega))
        replace hEm := hEm.kept (hkp _ hEm.lt (by omega))
        replace hPy := hPy.kept (hkp _ hPy.lt (by omega))
        replace hPi := hPi.kept (hkp _ hPi.lt (by omega))
        replace hRa := hRa.kept (hkp _ hRa.1.lt (by omega)) (fun v hv => hkp _ (hRa.2 v hv).1.lt (by omega)) (fun v hv => hkp _ (hRa.2 v hv).2.1.lt (by omega))
        replace hBb := hBb.kept (hkp _ hBb.1.lt (by omega)) (fun v hv => hkp _ (hBb.2 v hv).1.lt (by omega)) (fun v hv => hkp _ (hBb.2 v hv).2.1.lt (by omega))
        have hRt : RatioAt g H (a + 7) ((qpur S j) / Nat.gcd (qpur S j) (qB S)) ((qB S) / Nat.gcd (qpur S j) (qB S)) := hq
        refine lv_aload_n hx hb dX6_writeSlip_117 rfl (lv_at hl 1 rfl) ?_
        refine va_get (D := g.1) (ci := 6) (v := .ref (a + 14)) (C := RX6) (T := TX6) (N := 7) hx hb hts (by decide +kernel) hown hK.1 (xr_one hO) 0 rfl rfl 4 (by decide) (hts (.fieldLink RX6 36 "SharesDesk" "slip" "LSharesDesk$Slip;") (by decide +kernel)) (fun _ h9 => h9) rfl dX6_writeSlip_118 ?_
        refine lv_bipush (v := 61) hx hb dX6_writeSlip_121 (by decide) ?_
        refine xr_ti (x' := nI 61) rfl ?_
        refine xr_Vv (rest := []) ⟨hx, hb, hml, hown, hts⟩ (KK_ok g) hK (c_X4_put l g H (a + 14) (nI j) 61 (sTx S ap j r) hSl (by omega) (by decide)) (cwV 1 hts gX6_writeSlip_X4_put rfl rfl rfl (by decide +kernel) ⟨Nat.le_of_ble_eq_true rfl, Nat.le_of_ble_eq_true rfl⟩) (xr_rec hK hSl.1 rfl) rfl hl.1 rfl (Nat.le_of_ble_eq_true rfl) dX6_writeSlip_123 ⟨Nat.le_of_ble_eq_true rfl, Nat.le_of_ble_eq_true rfl⟩ hS (fun q h => by have h : q = a + 14 ∨ q = a + 14 + 1 := h; show a ≤ q ∧ q < a + 579; omega) (fun _ H locs hq hz hkp hS => ?_)
        replace hkp := fun (q : Nat) h1 (h2 : ¬ (q = a + 14 ∨ q = a + 14 + 1)) => hkp q h1 h2
        replace hO := hO.kept (hkp _ hO.lt (by omega))
        replace hT0 := hT0.kept (fun q hq1 hq2 hq3 => hkp q hq1 (by omega))
        replace hT := hT.kept (fun q hq1 hq2 hq3 => hkp q hq1 (by omega))
        replace hLk := hLk.kept (hkp _ hLk.1.lt (by omega)) (hkp _ hLk.2.1.lt (by omega))
        replace hP := hP.kept (fun q hq1 hq2 hq3 => hkp q hq1 (by omega))
        replace hP2 := hP2.kept (fun q hq1 hq2 hq3 => hkp q hq1 (by omega))
        replace hPr := hPr.kept (hkp _ hPr.l1 (by omega)) (hkp _ hPr.l2 (by omega))
        replace hPO := hPO.kept (hkp _ hPO.lt (by omega))
        replace hBa := hBa.kept (hkp _ hBa.1.lt (by omega)) (hkp _ hBa.2.1.lt (by omega))
        replace hPu := hPu.kept (hkp _ hPu.1.lt (by omega)) (fun v hv => hkp _ (hPu.2 v hv).1.lt (by omega)) (fun v hv => hkp _ (hPu.2 v hv).2.1.lt (by omega))
        replace hLa := hLa.kept (hkp _ hLa.1.lt (by omega)) (fun v hv => hkp _ (hLa.2 v hv).1.lt (by omega)) (fun v hv => hkp _ (hLa.2 v hv).2.1.lt (by omega))
        replace hEm := hEm.kept (hkp _ hEm.lt (by omega))
        replace hPy := hPy.kept (hkp _ hPy.lt (by omega))
        replace hPi := hPi.kept (hkp _ hPi.lt (by omega))
        replace hRa := hRa.kept (hkp _ hRa.1.lt (by omega)) (fun v hv => hkp _ (hRa.2 v hv).1.lt (by omega)) (fun v hv => hkp _ (hRa.2 v hv).2.1.lt (by omega))
        replace hBb := hBb.kept (hkp _ hBb.1.lt (by omega)) (fun v hv => hkp _ (hBb.2 v hv).1.lt (by omega)) (fun v hv => hkp _ (hBb.2 v hv).2.1.lt (by omega))
        replace hRt := hRt.kept (fun q hq1 hq2 hq3 => hkp q hq1 (by omega))
        have hSl : SlipAt g H (a + 14) (nI j) ((sTx S ap j r) ++ [61]) := hq
        refine lv_aload_n hx hb dX6_writeSlip_126 rfl (lv_at hl 1 rfl) ?_
        refine va_get (D := g.1) (ci := 6) (v := .ref (a + 14)) (C := RX6) (T := TX6) (N := 7) hx hb hts (by decide +kernel) hown hK.1 (xr_one hO) 0 rfl rfl 4 (by decide) (hts (.fieldLink RX6 36 "SharesDesk" "slip" "LSharesDesk$Slip;") (by decide +kernel)) (fun _ h9 => h9) rfl dX6_writeSlip_127 ?_
        refine lv_aload_n hx hb dX6_writeSlip_130 rfl (lv_at hl 1 rfl) ?_
        refine va_get (D := g.1) (ci := 6) (v := .ref (a + 7)) (C := RX6) (T := TX6) (N := 7) hx hb hts (by decide +kernel) hown hK.1 (xr_one hO) 0 rfl rfl 2 (by decide) (hts (.fieldLink RX6 22 "SharesDesk" "ratio" "LSharesDesk$Ratio;") (by decide +kernel)) (fun _ h9 => h9) rfl dX6_writeSlip_131 ?_
        refine xr_Vv (rest := []) ⟨hx, hb, hml, hown, hts⟩ (KK_ok g) hK (c_X4_putRatio l g H (a + 14) (nI j) (a + 7) _ _ (sTx S ap j r ++ [61]) hSl hRt (by omega) (by simp; omega)) (cwV 1 hts gX6_writeSlip_X4_putRatio rfl rfl rfl (by decide +kernel) ⟨Nat.le_of_ble_eq_true rfl, Nat.le_of_ble_eq_true rfl⟩) (xr_rec hK hSl.1 rfl) rfl hl.1 rfl (Nat.le_of_ble_eq_true rfl) dX6_writeSlip_134 ⟨Nat.le_of_ble_eq_true rfl, Nat.le_of_ble_eq_true rfl⟩ hS (fun q h => by have h : a + 14 ≤ q ∧ q < a + 14 + 5 := h; show a ≤ q ∧ q < a + 579; omega) (fun _ H locs hq hz hkp hS => ?_)
        replace hkp := fun (q : Nat) h1 (h2 : ¬ (a + 14 ≤ q ∧ q < a + 14 + 5)) => hkp q h1 h2
        replace hO := hO.kept (hkp _ hO.lt (by omega))
        replace hT0 := hT0.kept (fun q hq1 hq2 hq3 => hkp q hq1 (by omega))
        replace hT := hT.kept (fun q hq1 hq2 hq3 => hkp q hq1 (by omega))
        replace hLk := hLk.kept (hkp _ hLk.1.lt (by omega)) (hkp _ hLk.2.1.lt (by omega))
        replace hP := hP.kept (fun q hq1 hq2 hq3 => hkp q hq1 (by omega))
        replace hP2 := hP2.kept (fun q hq1 hq2 hq3 => hkp q hq1 (by omega))
        replace hPr := hPr.kept (hkp _ hPr.l1 (by omega)) (hkp _ hPr.l2 (by omega))
        replace hPO := hPO.kept (hkp _ hPO.lt (by omega))
        replace hBa := hBa.kept (hkp _ hBa.1.lt (by omega)) (hkp _ hBa.2.1.lt (by omega))
        replace hPu := hPu.kept (hkp _ hPu.1.lt (by omega)) (fun v hv => hkp _ (hPu.2 v hv).1.lt (by omega)) (fun v hv => hkp _ (hPu.2 v hv).2.1.lt (by omega))
        replace hLa := hLa.kept (hkp _ hLa.1.lt (by omega)) (fun v hv => hkp _ (hLa.2 v hv).1.lt (by omega)) (fun v hv => hkp _ (hLa.2 v hv).2.1.lt (by omega))
        replace hEm := hEm.kept (hkp _ hEm.lt (by omega))
        replace hPy := hPy.kept (hkp _ hPy.lt (by omega))
        replace hPi := hPi.kept (hkp _ hPi.lt (by omega))
        replace hRa := hRa.kept (hkp _ hRa.1.lt (by omega)) (fun v hv => hkp _ (hRa.2 v hv).1.lt (by omega)) (fun v hv => hkp _ (hRa.2 v hv).2.1.lt (by omega))
        replace hBb := hBb.kept (hkp _ hBb.1.lt (by omega)) (fun v hv => hkp _ (hBb.2 v hv).1.lt (by omega)) (fun v hv => hkp _ (hBb.2 v hv).2.1.lt (by omega))
        replace hRt := hRt.kept (fun q hq1 hq2 hq3 => hkp q hq1 (by omega))
        have hSl : SlipAt g H (a + 14) (nI j) ((sTx S ap j r ++ [61]) ++ fTx (qpur S j) (qB S)) := hq
        refine lv_aload_n hx hb dX6_writeSlip_137 rfl (lv_at hl 1 rfl) ?_
        refine va_get (D := g.1) (ci := 6) (v := .ref (a + 14)) (C := RX6) (T := TX6) (N := 7) hx hb hts (by decide +kernel) hown hK.1 (xr_one hO) 0 rfl rfl 4 (by decide) (hts (.fieldLink RX6 36 "SharesDesk" "slip" "LSharesDesk$Slip;") (by decide +kernel)) (fun _ h9 => h9) rfl dX6_writeSlip_138 ?_
        refine lv_bipush (v := 46) hx hb dX6_writeSlip_141 (by decide) ?_
        refine xr_ti (x' := nI 46) rfl ?_
        refine xr_Vv (rest := []) ⟨hx, hb, hml, hown, hts⟩ (KK_ok g) hK (c_X4_put l g H (a + 14) (nI j) 46 (sTx S ap j r ++ [61] ++ fTx (qpur S j) (qB S)) hSl (by simp; omega) (by decide)) (cwV 1 hts gX6_writeSlip_X4_put rfl rfl rfl (by decide +kernel) ⟨Nat.le_of_ble_eq_true rfl, Nat.le_of_ble_eq_true rfl⟩) (xr_rec hK hSl.1 rfl) rfl hl.1 rfl (Nat.le_of_ble_eq_true rfl) dX6_writeSlip_143 ⟨Nat.le_of_ble_eq_true rfl, Nat.le_of_ble_eq_true rfl⟩ hS (fun q h => by have h : q = a + 14 ∨ q = a + 14 + 1 := h; show a ≤ q ∧ q < a + 579; omega) (fun _ H locs hq hz hkp hS => ?_)
        replace hkp := fun (q : Nat) h1 (h2 : ¬ (q = a + 14 ∨ q = a + 14 + 1)) => hkp q h1 h2
        replace hO := hO.kept (hkp _ hO.lt (by omega))
        replace hT0 := hT0.kept (fun q hq1 hq2 hq3 => hkp q hq1 (by omega))
        replace hT := hT.kept (fun q hq1 hq2 hq3 => hkp q hq1 (by omega))
        replace hLk := hLk.kept (hkp _ hLk.1.lt (by omega)) (hkp _ hLk.2.1.lt (by omega))
        replace hP := hP.kept (fun q hq1 hq2 hq3 => hkp q hq1 (by omega))
        replace hP2 := hP2.kept (fun q hq1 hq2 hq3 => hkp q hq1 (by omega))
        replace hPr := hPr.kept (hkp _ hPr.l1 (by omega)) (hkp _ hPr.l2 (by omega))
        replace hPO := hPO.kept (hkp _ hPO.lt (by omega))
        replace hBa := hBa.kept (hkp _ hBa.1.lt (by omega)) (hkp _ hBa.2.1.lt (by omega))
        replace hPu := hPu.kept (hkp _ hPu.1.lt (by omega)) (fun v hv => hkp _ (hPu.2 v hv).1.lt (by omega)) (fun v hv => hkp _ (hPu.2 v hv).2.1.lt (by omega))
        replace hLa := hLa.kept (hkp _ hLa.1.lt (by omega)) (fun v hv => hkp _ (hLa.2 v hv).1.lt (by omega)) (fun v hv => hkp _ (hLa.2 v hv).2.1.lt (by omega))
        replace hEm := hEm.kept (hkp _ hEm.lt (by omega))
        replace hPy := hPy.kept (hkp _ hPy.lt (by omega))
        replace hPi := hPi.kept (hkp _ hPi.lt (by omega))
        replace hRa := hRa.kept (hkp _ hRa.1.lt (by omega)) (fun v hv => hkp _ (hRa.2 v hv).1.lt (by omega)) (fun v hv => hkp _ (hRa.2 v hv).2.1.lt (by omega))
        replace hBb := hBb.kept (hkp _ hBb.1.lt (by omega)) (fun v hv => hkp _ (hBb.2 v hv).1.lt (by omega)) (fun v hv => hkp _ (hBb.2 v hv).2.1.lt (by omega))
        replace hRt := hRt.kept (fun q hq1 hq2 hq3 => hkp q hq1 (by omega))
        have hSl : SlipAt g H (a + 14) (nI j) ((sTx S ap j r ++ [61] ++ fTx (qpur S j) (qB S)) ++ [46]) := hq
        exact xr_vret hx hb hr hlocks hS (by rw [show rcT S ap r j = sTx S ap j r ++ [61] ++ fTx (qpur S j) (qB S) ++ [46] by unfold rcT; simp]; exact ⟨rs, tr, _, _, ly, n2, S2, hrt, hO, hT0, hT, hRt, hLk, hSl, hP, hP2, hPr, hp1, hp2⟩) dX6_writeSlip_146
      · exact absurd (nI_le (Nat.le_refl r) (by omega)) hc
    | succ k ih =>
      intro r h1 H locs rt ru hO hT0 hT hRt hLk hSl hP hP2 hPr hS ls hl
      have hlen := sTx_len S ap j r
      have hf1 := fTx_len (pyN S ap j r) (qbas S r)
      have hrn : r < n := by omega
      have hbr := hbS r hrn
      have hp16 := hpik r hrn
      obtain ⟨op, bs, tq, rb, kb, rq, kq, htb, hPO, hBa, hPu, hLa, hEm, hPy, hPi, hRa, hBb, hBs, hTr⟩ := id hP
      refine lv_iload_n hx hb dX6_writeSlip_10 rfl (lv_at hl 0 rfl) ?_
      refine lv_aload_n hx hb dX6_writeSlip_11 rfl (lv_at hl 1 rfl) ?_
      refine va_get (D := g.1) (ci := 6) (v := .ref rs) (C := RX6) (T := TX6) (N := 7) hx hb hts (by decide +kernel) hown hK.1 (xr_one hO) 0 rfl rfl 5 (by decide) (hts (.fieldLink RX6 45 "SharesDesk" "result" "LSharesDesk$Phase;") (by decide +kernel)) (fun _ h9 => h9) rfl dX6_writeSlip_12 ?_
      refine va_get (D := g.1) (ci := 1) (v := .int (nI n)) (C := RX1) (T := TX1) (N := 16) hx hb hts (by decide +kernel) hown hK.1 (xr_one hPO) 0 rfl rfl 8 (by decide) (hts (.fieldLink RX6 91 "SharesDesk$Phase" "picked" "I") (by decide +kernel)) (fun _ h9 => h9) rfl dX6_writeSlip_15 ?_
      refine lv_icmp_ge (tgt := 94) hx hb dX6_writeSlip_18 (by decide) (fun hc => ?_) (fun hc => ?_)
      · exact absurd ((nI_leI (a := n) (b := r) (by omega) (by omega)).mp hc) (by omega)
      · clear hc
        refine lv_aload_n hx hb dX6_writeSlip_21 rfl (lv_at hl 1 rfl) ?_
        refine va_get (D := g.1) (ci := 6) (v := .ref rs) (C := RX6) (T := TX6) (N := 7) hx hb hts (by decide +kernel) hown hK.1 (xr_one hO) 0 rfl rfl 5 (by decide) (hts (.fieldLink RX6 45 "SharesDesk" "result" "LSharesDesk$Phase;") (by decide +kernel)) (fun _ h9 => h9) rfl dX6_writeSlip_22 ?_
        refine lv_iload_n hx hb dX6_writeSlip_25 rfl (lv_at hl 2 rfl) ?_
        refine lv_iload_n hx hb dX6_writeSlip_26 rfl (lv_at hl 0 rfl) ?_
        refine xr_Vr (rest := []) ⟨hx, hb, hml, hown, hts⟩ (KK_ok g) hK (c_X1_payment l g H (a + 4) c vs ap bu hT rs (qpc S) n (qps S) (qco S) op bs tq hPO (by omega) (qemp S) (qlas S) (qrat S) (qpik S) hEm hem hLa hRa hPi j r hj (by omega) (hpik _ hrn)) (cwV 2 hts gX6_writeSlip_X1_payment rfl rfl rfl (by decide +kernel) ⟨Nat.le_of_ble_eq_true rfl, Nat.le_of_ble_eq_true rfl⟩) (xr_rec hK hPO rfl) rfl hl.1 rfl (Nat.le_of_ble_eq_true rfl) dX6_writeSlip_27 ⟨Nat.le_of_ble_eq_true rfl, Nat.le_of_ble_eq_true rfl⟩ hS (fun q h => h.elim) (fun r H locs hq hz hkp hS943 => ?_)
        obtain ⟨rfl, rfl⟩ := hq
        have hS := hS943
        by_cases e1 : qemp S j < r ∨ (ap j).testBit (qpik S r) = false
        · rw [show payV rs (qemp S) ap (qpik S) j r = .null by unfold payV; rw [if_pos e1]]
          refine lv_astore_nN (lv' := [(3, .null), (2, .int (nI r)), (0, .ref a), (1, .int (nI j))]) hx hb dX6_writeSlip_30 rfl hl (by decide) rfl (fun ls hl => ?_)
          refine lv_aload_nN hx hb dX6_writeSlip_31 rfl (lv_at hl 0 rfl) ?_
          refine lv_ifnullN (tgt := 88) hx hb dX6_writeSlip_32 (by decide) ?_
          refine lv_iinc (v := nI (r + 1)) (lv' := [(2, .int (nI (r + 1))), (3, .null), (0, .ref a), (1, .int (nI j))]) hx hb dX6_writeSlip_88 hl (k := 1) rfl (nI_1 r) (by decide) rfl (fun ls hl => ?_)
          refine lv_goto (tgt := 10) hx hb dX6_writeSlip_91 (by decide) ?_
          exact ih (r + 1) (by omega) H locs rt ru hO hT0 hT hRt hLk (by rw [sTx, show enT S ap j r = [] by unfold enT; rw [if_pos e1], List.append_nil]; exact hSl) hP hP2 hPr hS ls (lv_sub hl [0, 2, 3] rfl)
        · by_cases e2 : r = qemp S j
          · rw [show payV rs (qemp S) ap (qpik S) j r = .ref (rs + 26 + 4 * j) by unfold payV; rw [if_neg e1, if_pos e2]]
            have epy : pyN S ap j r = qlas S j := by unfold pyN; rw [if_neg e1, if_pos e2]
            rw [epy] at hf1
            refine lv_astore_n (lv' := [(3, .ref (rs + 26 + 4 * j)), (2, .int (nI r)), (0, .ref a), (1, .int (nI j))]) hx hb dX6_writeSlip_30 rfl hl (by decide) rfl (fun ls hl => ?_)
            refine lv_aload_n hx hb dX6_writeSlip_31 rfl (lv_at hl 0 rfl) ?_
            refine lv_ifnull hx hb dX6_writeSlip_32 ?_
            refine lv_aload_n hx hb dX6_writeSlip_35 rfl (lv_at hl 2 rfl) ?_
            refine va_get (D := g.1) (ci := 6) (v := .ref (a + 7)) (C := RX6) (T := TX6) (N := 7) hx hb hts (by decide +kernel) hown hK.1 (xr_one hO) 0 rfl rfl 2 (by decide) (hts (.fieldLink RX6 22 "SharesDesk" "ratio" "LSharesDesk$Ratio;") (by decide +kernel)) (fun _ h9 => h9) rfl dX6_writeSlip_36 ?_
            refine lv_aload_n hx hb dX6_writeSlip_39 rfl (lv_at hl 0 rfl) ?_
            refine lv_aload_n hx hb dX6_writeSlip_40 rfl (lv_at hl 2 rfl) ?_
            refine va_get (D := g.1) (ci := 6) (v := .ref rs) (C := RX6) (T := TX6) (N := 7) hx hb hts (by decide +kernel) hown hK.1 (xr_one hO) 0 rfl rfl 5 (by decide) (hts (.fieldLink RX6 45 "SharesDesk" "result" "LSharesDesk$Phase;") (by decide +kernel)) (fun _ h9 => h9) rfl dX6_writeSlip_41 ?_
            refine va_get (D := g.1) (ci := 1) (v := .ref (rs + 9)) (C := RX1) (T := TX1) (N := 16) hx hb hts (by decide +kernel) hown hK.1 (xr_one hPO) 0 rfl rfl 12 (by decide) (hts (.fieldLink RX6 148 "SharesDesk$Phase" "bases" "[LSharesDesk$Natural;") (by decide +kernel)) (fun _ h9 => h9) rfl dX6_writeSlip_44 ?_
            refine lv_iload_n hx hb dX6_writeSlip_47 rfl (lv_at hl 1 rfl) ?_
            refine xr_pl hx hb hK hBb (show r < 16 by omega) (by decide) dX6_writeSlip_48 ?_
            refine xr_Vv (rest := []) ⟨hx, hb, hml, hown, hts⟩ (KK_ok g) hK (c_X2_take l g H (a + 7) rt ru (rs + 26 + 4 * j) (rs + 218 + 4 * r) (qlas S j) (qbas S r) hRt hPr (by omega) (by omega) (hLa.2 j hj) (hBb.2 r (by omega)) (by omega) (by omega) hbr.1 hbr.2) (cwV 2 hts gX6_writeSlip_X2_take rfl rfl rfl (by decide +kernel) ⟨Nat.le_of_ble_eq_true rfl, Nat.le_of_ble_eq_true rfl⟩) (xr_rec hK hRt.1 rfl) rfl hl.1 rfl (Nat.le_of_ble_eq_true rfl) dX6_writeSlip_49 ⟨Nat.le_of_ble_eq_true rfl, Nat.le_of_ble_eq_true rfl⟩ hS (fun q h => by have h : q = a + 7 + 2 ∨ q = a + 7 + 4 := h; show a ≤ q ∧ q < a + 579; omega) (fun _ H locs hq hz hkp hS => ?_)
            replace hkp := fun (q : Nat) h1 (h2 : ¬ (q = a + 7 + 2 ∨ q = a + 7 + 4)) => hkp q h1 h2
            replace hO := hO.kept (hkp _ hO.lt (by omega))
            replace hT0 := hT0.kept (fun q hq1 hq2 hq3 => hkp q hq1 (by omega))
            replace hT := hT.kept (fun q hq1 hq2 hq3 => hkp q hq1 (by omega))
            replace hLk := hLk.kept (hkp _ hLk.1.lt (by omega)) (hkp _ hLk.2.1.lt (by omega))
            replace hSl := hSl.kept (fun q hq1 hq2 hq3 => hkp q hq1 (by omega))
            replace hP := hP.kept (fun q hq1 hq2 hq3 => hkp q hq1 (by omega))
            replace hP2 := hP2.kept (fun q hq1 hq2 hq3 => hkp q hq1 (by omega))
            replace hPr := hPr.kept (hkp _ hPr.l1 (by omega)) (hkp _ hPr.l2 (by omega))
            replace hPO := hPO.kept (hkp _ hPO.lt (by omega))
            replace hBa := hBa.kept (hkp _ hBa.1.lt (by omega)) (hkp _ hBa.2.1.lt (by omega))
            replace hPu := hPu.kept (hkp _ hPu.1.lt (by omega)) (fun v hv => hkp _ (hPu.2 v hv).1.lt (by omega)) (fun v hv => hkp _ (hPu.2 v hv).2.1.lt (by omega))
            replace hLa := hLa.kept (hkp _ hLa.1.lt (by omega)) (fun v hv => hkp _ (hLa.2 v hv).1.lt (by omega)) (fun v hv => hkp _ (hLa.2 v hv).2.1.lt (by omega))
            replace hEm := hEm.kept (hkp _ hEm.lt (by omega))
            replace hPy := hPy.kept (hkp _ hPy.lt (by omega))
            replace hPi := hPi.kept (hkp _ hPi.lt (by omega))
            replace hRa := hRa.kept (hkp _ hRa.1.lt (by omega)) (fun v hv => hkp _ (hRa.2 v hv).1.lt (by omega)) (fun v hv => hkp _ (hRa.2 v hv).2.1.lt (by omega))
            replace hBb := hBb.kept (hkp _ hBb.1.lt (by omega)) (fun v hv => hkp _ (hBb.2 v hv).1.lt (by omega)) (fun v hv => hkp _ (hBb.2 v hv).2.1.lt (by omega))
            have hRt : RatioAt g H (a + 7) ((qlas S j) / Nat.gcd (qlas S j) (qbas S r)) ((qbas S r) / Nat.gcd (qlas S j) (qbas S r)) := hq
            refine lv_aload_n hx hb dX6_writeSlip_52 rfl (lv_at hl 2 rfl) ?_
            refine va_get (D := g.1) (ci := 6) (v := .ref (a + 14)) (C := RX6) (T := TX6) (N := 7) hx hb hts (by decide +kernel) hown hK.1 (xr_one hO) 0 rfl rfl 4 (by decide) (hts (.fieldLink RX6 36 "SharesDesk" "slip" "LSharesDesk$Slip;") (by decide +kernel)) (fun _ h9 => h9) rfl dX6_writeSlip_53 ?_
            refine lv_aload_n hx hb dX6_writeSlip_56 rfl (lv_at hl 2 rfl) ?_
            refine va_get (D := g.1) (ci := 6) (v := .ref rs) (C := RX6) (T := TX6) (N := 7) hx hb hts (by decide +kernel) hown hK.1 (xr_one hO) 0 rfl rfl 5 (by decide) (hts (.fieldLink RX6 45 "SharesDesk" "result" "LSharesDesk$Phase;") (by decide +kernel)) (fun _ h9 => h9) rfl dX6_writeSlip_57 ?_
            refine va_get (D := g.1) (ci := 1) (v := .ref (rs + 7)) (C := RX1) (T := TX1) (N := 16) hx hb hts (by decide +kernel) hown hK.1 (xr_one hPO) 0 rfl rfl 7 (by decide) (hts (.fieldLink RX6 117 "SharesDesk$Phase" "picks" "[I") (by decide +kernel)) (fun _ h9 => h9) rfl dX6_writeSlip_60 ?_
            refine lv_iload_n hx hb dX6_writeSlip_63 rfl (lv_at hl 1 rfl) ?_
            refine xr_rd hx hb hK hPi (show r < 16 by omega) (by decide) dX6_writeSlip_64 ?_
            refine xr_Vv (rest := []) ⟨hx, hb, hml, hown, hts⟩ (KK_ok g) hK (c_X4_putProject l g H (a + 14) (nI j) (qpik S r) (sTx S ap j r) hSl (by omega) (by omega)) (cwV 1 hts gX6_writeSlip_X4_putProject rfl rfl rfl (by decide +kernel) ⟨Nat.le_of_ble_eq_true rfl, Nat.le_of_ble_eq_true rfl⟩) (xr_rec hK hSl.1 rfl) rfl hl.1 rfl (Nat.le_of_ble_eq_true rfl) dX6_writeSlip_65 ⟨Nat.le_of_ble_eq_true rfl, Nat.le_of_ble_eq_true rfl⟩ hS (fun q h => by have h : q = a + 14 ∨ q = a + 14 + 1 := h; show a ≤ q ∧ q < a + 579; omega) (fun _ H locs hq hz hkp hS => ?_)
            replace hkp := fun (q : Nat) h1 (h2 : ¬ (q = a + 14 ∨ q = a + 14 + 1)) => hkp q h1 h2
            replace hO := hO.kept (hkp _ hO.lt (by omega))
            replace hT0 := hT0.kept (fun q hq1 hq2 hq3 => hkp q hq1 (by omega))
            replace hT := hT.kept (fun q hq1 hq2 hq3 => hkp q hq1 (by omega))
            replace hLk := hLk.kept (hkp _ hLk.1.lt (by omega)) (hkp _ hLk.2.1.lt (by omega))
            replace hP := hP.kept (fun q hq1 hq2 hq3 => hkp q hq1 (by omega))
            replace hP2 := hP2.kept (fun q hq1 hq2 hq3 => hkp q hq1 (by omega))
            replace hPr := hPr.kept (hkp _ hPr.l1 (by omega)) (hkp _ hPr.l2 (by omega))
            replace hPO := hPO.kept (hkp _ hPO.lt (by omega))
            replace hBa := hBa.kept (hkp _ hBa.1.lt (by omega)) (hkp _ hBa.2.1.lt (by omega))
            replace hPu := hPu.kept (hkp _ hPu.1.lt (by omega)) (fun v hv => hkp _ (hPu.2 v hv).1.lt (by omega)) (fun v hv => hkp _ (hPu.2 v hv).2.1.lt (by omega))
            replace hLa := hLa.kept (hkp _ hLa.1.lt (by omega)) (fun v hv => hkp _ (hLa.2 v hv).1.lt (by omega)) (fun v hv => hkp _ (hLa.2 v hv).2.1.lt (by omega))
            replace hEm := hEm.kept (hkp _ hEm.lt (by omega))
            replace hPy := hPy.kept (hkp _ hPy.lt (by omega))
            replace hPi := hPi.kept (hkp _ hPi.lt (by omega))
            replace hRa := hRa.kept (hkp _ hRa.1.lt (by omega)) (fun v hv => hkp _ (hRa.2 v hv).1.lt (by omega)) (fun v hv => hkp _ (hRa.2 v hv).2.1.lt (by omega))
            replace hBb := hBb.kept (hkp _ hBb.1.lt (by omega)) (fun v hv => hkp _ (hBb.2 v hv).1.lt (by omega)) (fun v hv => hkp _ (hBb.2 v hv).2.1.lt (by omega))
            replace hRt := hRt.kept (fun q hq1 hq2 hq3 => hkp q hq1 (by omega))
            have hSl : SlipAt g H (a + 14) (nI j) (sTx S ap j r ++ [48 + qpik S r / 10, 48 + qpik S r % 10, 32]) := hq
            refine lv_aload_n hx hb dX6_writeSlip_68 rfl (lv_at hl 2 rfl) ?_
            refine va_get (D := g.1) (ci := 6) (v := .ref (a + 14)) (C := RX6) (T := TX6) (N := 7) hx hb hts (by decide +kernel) hown hK.1 (xr_one hO) 0 rfl rfl 4 (by decide) (hts (.fieldLink RX6 36 "SharesDesk" "slip" "LSharesDesk$Slip;") (by decide +kernel)) (fun _ h9 => h9) rfl dX6_writeSlip_69 ?_
            refine lv_aload_n hx hb dX6_writeSlip_72 rfl (lv_at hl 2 rfl) ?_
            refine va_get (D := g.1) (ci := 6) (v := .ref (a + 7)) (C := RX6) (T := TX6) (N := 7) hx hb hts (by decide +kernel) hown hK.1 (xr_one hO) 0 rfl rfl 2 (by decide) (hts (.fieldLink RX6 22 "SharesDesk" "ratio" "LSharesDesk$Ratio;") (by decide +kernel)) (fun _ h9 => h9) rfl dX6_writeSlip_73 ?_
            refine xr_Vv (rest := []) ⟨hx, hb, hml, hown, hts⟩ (KK_ok g) hK (c_X4_putRatio l g H (a + 14) (nI j) (a + 7) _ _ (sTx S ap j r ++ [48 + qpik S r / 10, 48 + qpik S r % 10, 32]) hSl hRt (by omega) (by simp; omega)) (cwV 1 hts gX6_writeSlip_X4_putRatio rfl rfl rfl (by decide +kernel) ⟨Nat.le_of_ble_eq_true rfl, Nat.le_of_ble_eq_true rfl⟩) (xr_rec hK hSl.1 rfl) rfl hl.1 rfl (Nat.le_of_ble_eq_true rfl) dX6_writeSlip_76 ⟨Nat.le_of_ble_eq_true rfl, Nat.le_of_ble_eq_true rfl⟩ hS (fun q h => by have h : a + 14 ≤ q ∧ q < a + 14 + 5 := h; show a ≤ q ∧ q < a + 579; omega) (fun _ H locs hq hz hkp hS => ?_)
            replace hkp := fun (q : Nat) h1 (h2 : ¬ (a + 14 ≤ q ∧ q < a + 14 + 5)) => hkp q h1 h2
            replace hO := hO.kept (hkp _ hO.lt (by omega))
            replace hT0 := hT0.kept (fun q hq1 hq2 hq3 => hkp q hq1 (by omega))
            replace hT := hT.kept (fun q hq1 hq2 hq3 => hkp q hq1 (by omega))
            replace hLk := hLk.kept (hkp _ hLk.1.lt (by omega)) (hkp _ hLk.2.1.lt (by omega))
            replace hP := hP.kept (fun q hq1 hq2 hq3 => hkp q hq1 (by omega))
            replace hP2 := hP2.kept (fun q hq1 hq2 hq3 => hkp q hq1 (by omega))
            replace hPr := hPr.kept (hkp _ hPr.l1 (by omega)) (hkp _ hPr.l2 (by omega))
            replace hPO := hPO.kept (hkp _ hPO.lt (by omega))
            replace hBa := hBa.kept (hkp _ hBa.1.lt (by omega)) (hkp _ hBa.2.1.lt (by omega))
            replace hPu := hPu.kept (hkp _ hPu.1.lt (by omega)) (fun v hv => hkp _ (hPu.2 v hv).1.lt (by omega)) (fun v hv => hkp _ (hPu.2 v hv).2.1.lt (by omega))
            replace hLa := hLa.kept (hkp _ hLa.1.lt (by omega)) (fun v hv => hkp _ (hLa.2 v hv).1.lt (by omega)) (fun v hv => hkp _ (hLa.2 v hv).2.1.lt (by omega))
            replace hEm := hEm.kept (hkp _ hEm.lt (by omega))
            replace hPy := hPy.kept (hkp _ hPy.lt (by omega))
            replace hPi := hPi.kept (hkp _ hPi.lt (by omega))
            replace hRa := hRa.kept (hkp _ hRa.1.lt (by omega)) (fun v hv => hkp _ (hRa.2 v hv).1.lt (by omega)) (fun v hv => hkp _ (hRa.2 v hv).2.1.lt (by omega))
            replace hBb := hBb.kept (hkp _ hBb.1.lt (by omega)) (fun v hv => hkp _ (hBb.2 v hv).1.lt (by omega)) (fun v hv => hkp _ (hBb.2 v hv).2.1.lt (by omega))
            replace hRt := hRt.kept (fun q hq1 hq2 hq3 => hkp q hq1 (by omega))
            have hSl : SlipAt g H (a + 14) (nI j) ((sTx S ap j r ++ [48 + qpik S r / 10, 48 + qpik S r % 10, 32]) ++ fTx (qlas S j) (qbas S r)) := hq
            refine lv_aload_n hx hb dX6_writeSlip_79 rfl (lv_at hl 2 rfl) ?_
            refine va_get (D := g.1) (ci := 6) (v := .ref (a + 14)) (C := RX6) (T := TX6) (N := 7) hx hb hts (by decide +kernel) hown hK.1 (xr_one hO) 0 rfl rfl 4 (by decide) (hts (.fieldLink RX6 36 "SharesDesk" "slip" "LSharesDesk$Slip;") (by decide +kernel)) (fun _ h9 => h9) rfl dX6_writeSlip_80 ?_
            refine lv_bipush (v := 59) hx hb dX6_writeSlip_83 (by decide) ?_
            refine xr_ti (x' := nI 59) rfl ?_
            refine xr_Vv (rest := []) ⟨hx, hb, hml, hown, hts⟩ (KK_ok g) hK (c_X4_put l g H (a + 14) (nI j) 59 (sTx S ap j r ++ [48 + qpik S r / 10, 48 + qpik S r % 10, 32] ++ fTx (qlas S j) (qbas S r)) hSl (by simp; omega) (by decide)) (cwV 1 hts gX6_writeSlip_X4_put rfl rfl rfl (by decide +kernel) ⟨Nat.le_of_ble_eq_true rfl, Nat.le_of_ble_eq_true rfl⟩) (xr_rec hK hSl.1 rfl) rfl hl.1 rfl (Nat.le_of_ble_eq_true rfl) dX6_writeSlip_85 ⟨Nat.le_of_ble_eq_true rfl, Nat.le_of_ble_eq_true rfl⟩ hS (fun q h => by have h : q = a + 14 ∨ q = a + 14 + 1 := h; show a ≤ q ∧ q < a + 579; omega) (fun _ H locs hq hz hkp hS => ?_)
            replace hkp := fun (q : Nat) h1 (h2 : ¬ (q = a + 14 ∨ q = a + 14 + 1)) => hkp q h1 h2
            replace hO := hO.kept (hkp _ hO.lt (by omega))
            replace hT0 := hT0.kept (fun q hq1 hq2 hq3 => hkp q hq1 (by omega))
            replace hT := hT.kept (fun q hq1 hq2 hq3 => hkp q hq1 (by omega))
            replace hLk := hLk.kept (hkp _ hLk.1.lt (by omega)) (hkp _ hLk.2.1.lt (by omega))
            replace hP := hP.kept (fun q hq1 hq2 hq3 => hkp q hq1 (by omega))
            replace hP2 := hP2.kept (fun q hq1 hq2 hq3 => hkp q hq1 (by omega))
            replace hPr := hPr.kept (hkp _ hPr.l1 (by omega)) (hkp _ hPr.l2 (by omega))
            replace hPO := hPO.kept (hkp _ hPO.lt (by omega))
            replace hBa := hBa.kept (hkp _ hBa.1.lt (by omega)) (hkp _ hBa.2.1.lt (by omega))
            replace hPu := hPu.kept (hkp _ hPu.1.lt (by omega)) (fun v hv => hkp _ (hPu.2 v hv).1.lt (by omega)) (fun v hv => hkp _ (hPu.2 v hv).2.1.lt (by omega))
            replace hLa := hLa.kept (hkp _ hLa.1.lt (by omega)) (fun v hv => hkp _ (hLa.2 v hv).1.lt (by omega)) (fun v hv => hkp _ (hLa.2 v hv).2.1.lt (by omega))
            replace hEm := hEm.kept (hkp _ hEm.lt (by omega))
            replace hPy := hPy.kept (hkp _ hPy.lt (by omega))
            replace hPi := hPi.kept (hkp _ hPi.lt (by omega))
            replace hRa := hRa.kept (hkp _ hRa.1.lt (by omega)) (fun v hv => hkp _ (hRa.2 v hv).1.lt (by omega)) (fun v hv => hkp _ (hRa.2 v hv).2.1.lt (by omega))
            replace hBb := hBb.kept (hkp _ hBb.1.lt (by omega)) (fun v hv => hkp _ (hBb.2 v hv).1.lt (by omega)) (fun v hv => hkp _ (hBb.2 v hv).2.1.lt (by omega))
            replace hRt := hRt.kept (fun q hq1 hq2 hq3 => hkp q hq1 (by omega))
            have hSl : SlipAt g H (a + 14) (nI j) ((sTx S ap j r ++ [48 + qpik S r / 10, 48 + qpik S r % 10, 32] ++ fTx (qlas S j) (qbas S r)) ++ [59]) := hq
            refine lv_iinc (v := nI (r + 1)) (lv' := [(2, .int (nI (r + 1))), (3, .ref (rs + 26 + 4 * j)), (0, .ref a), (1, .int (nI j))]) hx hb dX6_writeSlip_88 hl (k := 1) rfl (nI_1 r) (by decide) rfl (fun ls hl => ?_)
            refine lv_goto (tgt := 10) hx hb dX6_writeSlip_91 (by decide) ?_
            exact ih (r + 1) (by omega) H locs _ _ hO hT0 hT hRt hLk (by rw [sTx, show enT S ap j r = [48 + qpik S r / 10, 48 + qpik S r % 10, 32] ++ (fTx (qlas S j) (qbas S r) ++ [59]) by unfold enT; rw [if_neg e1, epy], ← List.append_assoc, ← List.append_assoc]; exact hSl) hP hP2 hPr hS ls (lv_sub hl [0, 2, 3] rfl)
          · rw [show payV rs (qemp S) ap (qpik S) j r = .ref (rs + 216 + 4 * r) by unfold payV; rw [if_neg e1, if_neg e2]]
            have epy : pyN S ap j r = qrat S r := by unfold pyN; rw [if_neg e1, if_neg e2]
            rw [epy] at hf1
            refine lv_astore_n (lv' := [(3, .ref (rs + 216 + 4 * r)), (2, .int (nI r)), (0, .ref a), (1, .int (nI j))]) hx hb dX6_writeSlip_30 rfl hl (by decide) rfl (fun ls hl => ?_)
            refine lv_aload_n hx hb dX6_writeSlip_31 rfl (lv_at hl 0 rfl) ?_
            refine lv_ifnull hx hb dX6_writeSlip_32 ?_
            refine lv_aload_n hx hb dX6_writeSlip_35 rfl (lv_at hl 2 rfl) ?_
            refine va_get (D := g.1) (ci := 6) (v := .ref (a + 7)) (C := RX6) (T := TX6) (N := 7) hx hb hts (by decide +kernel) hown hK.1 (xr_one hO) 0 rfl rfl 2 (by decide) (hts (.fieldLink RX6 22 "SharesDesk" "ratio" "LSharesDesk$Ratio;") (by decide +kernel)) (fun _ h9 => h9) rfl dX6_writeSlip_36 ?_
            refine lv_aload_n hx hb dX6_writeSlip_39 rfl (lv_at hl 0 rfl) ?_
            refine lv_aload_n hx hb dX6_writeSlip_40 rfl (lv_at hl 2 rfl) ?_
            refine va_get (D := g.1) (ci := 6) (v := .ref rs) (C := RX6) (T := TX6) (N := 7) hx hb hts (by decide +kernel) hown hK.1 (xr_one hO) 0 rfl rfl 5 (by decide) (hts (.fieldLink RX6 45 "SharesDesk" "result" "LSharesDesk$Phase;") (by decide +kernel)) (fun _ h9 => h9) rfl dX6_writeSlip_41 ?_
            refine va_get (D := g.1) (ci := 1) (v := .ref (rs + 9)) (C := RX1) (T := TX1) (N := 16) hx hb hts (by decide +kernel) hown hK.1 (xr_one hPO) 0 rfl rfl 12 (by decide) (hts (.fieldLink RX6 148 "SharesDesk$Phase" "bases" "[LSharesDesk$Natural;") (by decide +kernel)) (fun _ h9 => h9) rfl dX6_writeSlip_44 ?_
            refine lv_iload_n hx hb dX6_writeSlip_47 rfl (lv_at hl 1 rfl) ?_
            refine xr_pl hx hb hK hBb (show r < 16 by omega) (by decide) dX6_writeSlip_48 ?_
            refine xr_Vv (rest := []) ⟨hx, hb, hml, hown, hts⟩ (KK_ok g) hK (c_X2_take l g H (a + 7) rt ru (rs + 216 + 4 * r) (rs + 218 + 4 * r) (qrat S r) (qbas S r) hRt hPr (by omega) (by omega) (hRa.2 r (by omega)) (hBb.2 r (by omega)) (by omega) (by omega) hbr.1 hbr.2) (cwV 2 hts gX6_writeSlip_X2_take rfl rfl rfl (by decide +kernel) ⟨Nat.le_of_ble_eq_true rfl, Nat.le_of_ble_eq_true rfl⟩) (xr_rec hK hRt.1 rfl) rfl hl.1 rfl (Nat.le_of_ble_eq_true rfl) dX6_writeSlip_49 ⟨Nat.le_of_ble_eq_true rfl, Nat.le_of_ble_eq_true rfl⟩ hS (fun q h => by have h : q = a + 7 + 2 ∨ q = a + 7 + 4 := h; show a ≤ q ∧ q < a + 579; omega) (fun _ H locs hq hz hkp hS => ?_)
            replace hkp := fun (q : Nat) h1 (h2 : ¬ (q = a + 7 + 2 ∨ q = a + 7 + 4)) => hkp q h1 h2
            replace hO := hO.kept (hkp _ hO.lt (by omega))
            replace hT0 := hT0.kept (fun q hq1 hq2 hq3 => hkp q hq1 (by omega))
            replace hT := hT.kept (fun q hq1 hq2 hq3 => hkp q hq1 (by omega))
            replace hLk := hLk.kept (hkp _ hLk.1.lt (by omega)) (hkp _ hLk.2.1.lt (by omega))
            replace hSl := hSl.kept (fun q hq1 hq2 hq3 => hkp q hq1 (by omega))
            replace hP := hP.kept (fun q hq1 hq2 hq3 => hkp q hq1 (by omega))
            replace hP2 := hP2.kept (fun q hq1 hq2 hq3 => hkp q hq1 (by omega))
            replace hPr := hPr.kept (hkp _ hPr.l1 (by omega)) (hkp _ hPr.l2 (by omega))
            replace hPO := hPO.kept (hkp _ hPO.lt (by omega))
            replace hBa := hBa.kept (hkp _ hBa.1.lt (by omega)) (hkp _ hBa.2.1.lt (by omega))
            replace hPu := hPu.kept (hkp _ hPu.1.lt (by omega)) (fun v hv => hkp _ (hPu.2 v hv).1.lt (by omega)) (fun v hv => hkp _ (hPu.2 v hv).2.1.lt (by omega))
            replace hLa := hLa.kept (hkp _ hLa.1.lt (by omega)) (fun v hv => hkp _ (hLa.2 v hv).1.lt (by omega)) (fun v hv => hkp _ (hLa.2 v hv).2.1.lt (by omega))
            replace hEm := hEm.kept (hkp _ hEm.lt (by omega))
            replace hPy := hPy.kept (hkp _ hPy.lt (by omega))
            replace hPi := hPi.kept (hkp _ hPi.lt (by omega))
            replace hRa := hRa.kept (hkp _ hRa.1.lt (by omega)) (fun v hv => hkp _ (hRa.2 v hv).1.lt (by omega)) (fun v hv => hkp _ (hRa.2 v hv).2.1.lt (by omega))
            replace hBb := hBb.kept (hkp _ hBb.1.lt (by omega)) (fun v hv => hkp _ (hBb.2 v hv).1.lt (by omega)) (fun v hv => hkp _ (hBb.2 v hv).2.1.lt (by omega))
            have hRt : RatioAt g H (a + 7) ((qrat S r) / Nat.gcd (qrat S r) (qbas S r)) ((qbas S r) / Nat.gcd (qrat S r) (qbas S r)) := hq
            refine lv_aload_n hx hb dX6_writeSlip_52 rfl (lv_at hl 2 rfl) ?_
            refine va_get (D := g.1) (ci := 6) (v := .ref (a + 14)) (C := RX6) (T := TX6) (N := 7) hx hb hts (by decide +kernel) hown hK.1 (xr_one hO) 0 rfl rfl 4 (by decide) (hts (.fieldLink RX6 36 "SharesDesk" "slip" "LSharesDesk$Slip;") (by decide +kernel)) (fun _ h9 => h9) rfl dX6_writeSlip_53 ?_
            refine lv_aload_n hx hb dX6_writeSlip_56 rfl (lv_at hl 2 rfl) ?_
            refine va_get (D := g.1) (ci := 6) (v := .ref rs) (C := RX6) (T := TX6) (N := 7) hx hb hts (by decide +kernel) hown hK.1 (xr_one hO) 0 rfl rfl 5 (by decide) (hts (.fieldLink RX6 45 "SharesDesk" "result" "LSharesDesk$Phase;") (by decide +kernel)) (fun _ h9 => h9) rfl dX6_writeSlip_57 ?_
            refine va_get (D := g.1) (ci := 1) (v := .ref (rs + 7)) (C := RX1) (T := TX1) (N := 16) hx hb hts (by decide +kernel) hown hK.1 (xr_one hPO) 0 rfl rfl 7 (by decide) (hts (.fieldLink RX6 117 "SharesDesk$Phase" "picks" "[I") (by decide +kernel)) (fun _ h9 => h9) rfl dX6_writeSlip_60 ?_
            refine lv_iload_n hx hb dX6_writeSlip_63 rfl (lv_at hl 1 rfl) ?_
            refine xr_rd hx hb hK hPi (show r < 16 by omega) (by decide) dX6_writeSlip_64 ?_
            refine xr_Vv (rest := []) ⟨hx, hb, hml, hown, hts⟩ (KK_ok g) hK (c_X4_putProject l g H (a + 14) (nI j) (qpik S r) (sTx S ap j r) hSl (by omega) (by omega)) (cwV 1 hts gX6_writeSlip_X4_putProject rfl rfl rfl (by decide +kernel) ⟨Nat.le_of_ble_eq_true rfl, Nat.le_of_ble_eq_true rfl⟩) (xr_rec hK hSl.1 rfl) rfl hl.1 rfl (Nat.le_of_ble_eq_true rfl) dX6_writeSlip_65 ⟨Nat.le_of_ble_eq_true rfl, Nat.le_of_ble_eq_true rfl⟩ hS (fun q h => by have h : q = a + 14 ∨ q = a + 14 + 1 := h; show a ≤ q ∧ q < a + 579; omega) (fun _ H locs hq hz hkp hS => ?_)
            replace hkp := fun (q : Nat) h1 (h2 : ¬ (q = a + 14 ∨ q = a + 14 + 1)) => hkp q h1 h2
            replace hO := hO.kept (hkp _ hO.lt (by omega))
            replace hT0 := hT0.kept (fun q hq1 hq2 hq3 => hkp q hq1 (by omega))
            replace hT := hT.kept (fun q hq1 hq2 hq3 => hkp q hq1 (by omega))
            replace hLk := hLk.kept (hkp _ hLk.1.lt (by omega)) (hkp _ hLk.2.1.lt (by omega))
            replace hP := hP.kept (fun q hq1 hq2 hq3 => hkp q hq1 (by omega))
            replace hP2 := hP2.kept (fun q hq1 hq2 hq3 => hkp q hq1 (by omega))
            replace hPr := hPr.kept (hkp _ hPr.l1 (by omega)) (hkp _ hPr.l2 (by omega))
            replace hPO := hPO.kept (hkp _ hPO.lt (by omega))
            replace hBa := hBa.kept (hkp _ hBa.1.lt (by omega)) (hkp _ hBa.2.1.lt (by omega))
            replace hPu := hPu.kept (hkp _ hPu.1.lt (by omega)) (fun v hv => hkp _ (hPu.2 v hv).1.lt (by omega)) (fun v hv => hkp _ (hPu.2 v hv).2.1.lt (by omega))
            replace hLa := hLa.kept (hkp _ hLa.1.lt (by omega)) (fun v hv => hkp _ (hLa.2 v hv).1.lt (by omega)) (fun v hv => hkp _ (hLa.2 v hv).2.1.lt (by omega))
            replace hEm := hEm.kept (hkp _ hEm.lt (by omega))
            replace hPy := hPy.kept (hkp _ hPy.lt (by omega))
            replace hPi := hPi.kept (hkp _ hPi.lt (by omega))
            replace hRa := hRa.kept (hkp _ hRa.1.lt (by omega)) (fun v hv => hkp _ (hRa.2 v hv).1.lt (by omega)) (fun v hv => hkp _ (hRa.2 v hv).2.1.lt (by omega))
            replace hBb := hBb.kept (hkp _ hBb.1.lt (by omega)) (fun v hv => hkp _ (hBb.2 v hv).1.lt (by omega)) (fun v hv => hkp _ (hBb.2 v hv).2.1.lt (by omega))
            replace hRt := hRt.kept (fun q hq1 hq2 hq3 => hkp q hq1 (by omega))
            have hSl : SlipAt g H (a + 14) (nI j) (sTx S ap j r ++ [48 + qpik S r / 10, 48 + qpik S r % 10, 32]) := hq
            refine lv_aload_n hx hb dX6_writeSlip_68 rfl (lv_at hl 2 rfl) ?_
            refine va_get (D := g.1) (ci := 6) (v := .ref (a + 14)) (C := RX6) (T := TX6) (N := 7) hx hb hts (by decide +kernel) hown hK.1 (xr_one hO) 0 rfl rfl 4 (by decide) (hts (.fieldLink RX6 36 "SharesDesk" "slip" "LSharesDesk$Slip;") (by decide +kernel)) (fun _ h9 => h9) rfl dX6_writeSlip_69 ?_
            refine lv_aload_n hx hb dX6_writeSlip_72 rfl (lv_at hl 2 rfl) ?_
            refine va_get (D := g.1) (ci := 6) (v := .ref (a + 7)) (C := RX6) (T := TX6) (N := 7) hx hb hts (by decide +kernel) hown hK.1 (xr_one hO) 0 rfl rfl 2 (by decide) (hts (.fieldLink RX6 22 "SharesDesk" "ratio" "LSharesDesk$Ratio;") (by decide +kernel)) (fun _ h9 => h9) rfl dX6_writeSlip_73 ?_
            refine xr_Vv (rest := []) ⟨hx, hb, hml, hown, hts⟩ (KK_ok g) hK (c_X4_putRatio l g H (a + 14) (nI j) (a + 7) _ _ (sTx S ap j r ++ [48 + qpik S r / 10, 48 + qpik S r % 10, 32]) hSl hRt (by omega) (by simp; omega)) (cwV 1 hts gX6_writeSlip_X4_putRatio rfl rfl rfl (by decide +kernel) ⟨Nat.le_of_ble_eq_true rfl, Nat.le_of_ble_eq_true rfl⟩) (xr_rec hK hSl.1 rfl) rfl hl.1 rfl (Nat.le_of_ble_eq_true rfl) dX6_writeSlip_76 ⟨Nat.le_of_ble_eq_true rfl, Nat.le_of_ble_eq_true rfl⟩ hS (fun q h => by have h : a + 14 ≤ q ∧ q < a + 14 + 5 := h; show a ≤ q ∧ q < a + 579; omega) (fun _ H locs hq hz hkp hS => ?_)
            replace hkp := fun (q : Nat) h1 (h2 : ¬ (a + 14 ≤ q ∧ q < a + 14 + 5)) => hkp q h1 h2
            replace hO := hO.kept (hkp _ hO.lt (by omega))
            replace hT0 := hT0.kept (fun q hq1 hq2 hq3 => hkp q hq1 (by omega))
            replace hT := hT.kept (fun q hq1 hq2 hq3 => hkp q hq1 (by omega))
            replace hLk := hLk.kept (hkp _ hLk.1.lt (by omega)) (hkp _ hLk.2.1.lt (by omega))
            replace hP := hP.kept (fun q hq1 hq2 hq3 => hkp q hq1 (by omega))
            replace hP2 := hP2.kept (fun q hq1 hq2 hq3 => hkp q hq1 (by omega))
            replace hPr := hPr.kept (hkp _ hPr.l1 (by omega)) (hkp _ hPr.l2 (by omega))
            replace hPO := hPO.kept (hkp _ hPO.lt (by omega))
            replace hBa := hBa.kept (hkp _ hBa.1.lt (by omega)) (hkp _ hBa.2.1.lt (by omega))
            replace hPu := hPu.kept (hkp _ hPu.1.lt (by omega)) (fun v hv => hkp _ (hPu.2 v hv).1.lt (by omega)) (fun v hv => hkp _ (hPu.2 v hv).2.1.lt (by omega))
            replace hLa := hLa.kept (hkp _ hLa.1.lt (by omega)) (fun v hv => hkp _ (hLa.2 v hv).1.lt (by omega)) (fun v hv => hkp _ (hLa.2 v hv).2.1.lt (by omega))
            replace hEm := hEm.kept (hkp _ hEm.lt (by omega))
            replace hPy := hPy.kept (hkp _ hPy.lt (by omega))
            replace hPi := hPi.kept (hkp _ hPi.lt (by omega))
            replace hRa := hRa.kept (hkp _ hRa.1.lt (by omega)) (fun v hv => hkp _ (hRa.2 v hv).1.lt (by omega)) (fun v hv => hkp _ (hRa.2 v hv).2.1.lt (by omega))
            replace hBb := hBb.kept (hkp _ hBb.1.lt (by omega)) (fun v hv => hkp _ (hBb.2 v hv).1.lt (by omega)) (fun v hv => hkp _ (hBb.2 v hv).2.1.lt (by omega))
            replace hRt := hRt.kept (fun q hq1 hq2 hq3 => hkp q hq1 (by omega))
            have hSl : SlipAt g H (a + 14) (nI j) ((sTx S ap j r ++ [48 + qpik S r / 10, 48 + qpik S r % 10, 32]) ++ fTx (qrat S r) (qbas S r)) := hq
            refine lv_aload_n hx hb dX6_writeSlip_79 rfl (lv_at hl 2 rfl) ?_
            refine va_get (D := g.1) (ci := 6) (v := .ref (a + 14)) (C := RX6) (T := TX6) (N := 7) hx hb hts (by decide +kernel) hown hK.1 (xr_one hO) 0 rfl rfl 4 (by decide) (hts (.fieldLink RX6 36 "SharesDesk" "slip" "LSharesDesk$Slip;") (by decide +kernel)) (fun _ h9 => h9) rfl dX6_writeSlip_80 ?_
            refine lv_bipush (v := 59) hx hb dX6_writeSlip_83 (by decide) ?_
            refine xr_ti (x' := nI 59) rfl ?_
            refine xr_Vv (rest := []) ⟨hx, hb, hml, hown, hts⟩ (KK_ok g) hK (c_X4_put l g H (a + 14) (nI j) 59 (sTx S ap j r ++ [48 + qpik S r / 10, 48 + qpik S r % 10, 32] ++ fTx (qrat S r) (qbas S r)) hSl (by simp; omega) (by decide)) (cwV 1 hts gX6_writeSlip_X4_put rfl rfl rfl (by decide +kernel) ⟨Nat.le_of_ble_eq_true rfl, Nat.le_of_ble_eq_true rfl⟩) (xr_rec hK hSl.1 rfl) rfl hl.1 rfl (Nat.le_of_ble_eq_true rfl) dX6_writeSlip_85 ⟨Nat.le_of_ble_eq_true rfl, Nat.le_of_ble_eq_true rfl⟩ hS (fun q h => by have h : q = a + 14 ∨ q = a + 14 + 1 := h; show a ≤ q ∧ q < a + 579; omega) (fun _ H locs hq hz hkp hS => ?_)
            replace hkp := fun (q : Nat) h1 (h2 : ¬ (q = a + 14 ∨ q = a + 14 + 1)) => hkp q h1 h2
            replace hO := hO.kept (hkp _ hO.lt (by omega))
            replace hT0 := hT0.kept (fun q hq1 hq2 hq3 => hkp q hq1 (by omega))
            replace hT := hT.kept (fun q hq1 hq2 hq3 => hkp q hq1 (by omega))
            replace hLk := hLk.kept (hkp _ hLk.1.lt (by omega)) (hkp _ hLk.2.1.lt (by omega))
            replace hP := hP.kept (fun q hq1 hq2 hq3 => hkp q hq1 (by omega))
            replace hP2 := hP2.kept (fun q hq1 hq2 hq3 => hkp q hq1 (by omega))
            replace hPr := hPr.kept (hkp _ hPr.l1 (by omega)) (hkp _ hPr.l2 (by omega))
            replace hPO := hPO.kept (hkp _ hPO.lt (by omega))
            replace hBa := hBa.kept (hkp _ hBa.1.lt (by omega)) (hkp _ hBa.2.1.lt (by omega))
            replace hPu := hPu.kept (hkp _ hPu.1.lt (by omega)) (fun v hv => hkp _ (hPu.2 v hv).1.lt (by omega)) (fun v hv => hkp _ (hPu.2 v hv).2.1.lt (by omega))
            replace hLa := hLa.kept (hkp _ hLa.1.lt (by omega)) (fun v hv => hkp _ (hLa.2 v hv).1.lt (by omega)) (fun v hv => hkp _ (hLa.2 v hv).2.1.lt (by omega))
            replace hEm := hEm.kept (hkp _ hEm.lt (by omega))
            replace hPy := hPy.kept (hkp _ hPy.lt (by omega))
            replace hPi := hPi.kept (hkp _ hPi.lt (by omega))
            replace hRa := hRa.kept (hkp _ hRa.1.lt (by omega)) (fun v hv => hkp _ (hRa.2 v hv).1.lt (by omega)) (fun v hv => hkp _ (hRa.2 v hv).2.1.lt (by omega))
            replace hBb := hBb.kept (hkp _ hBb.1.lt (by omega)) (fun v hv => hkp _ (hBb.2 v hv).1.lt (by omega)) (fun v hv => hkp _ (hBb.2 v hv).2.1.lt (by omega))
            replace hRt := hRt.kept (fun q hq1 hq2 hq3 => hkp q hq1 (by omega))
            have hSl : SlipAt g H (a + 14) (nI j) ((sTx S ap j r ++ [48 + qpik S r / 10, 48 + qpik S r % 10, 32] ++ fTx (qrat S r) (qbas S r)) ++ [59]) := hq
            refine lv_iinc (v := nI (r + 1)) (lv' := [(2, .int (nI (r + 1))), (3, .ref (rs + 216 + 4 * r)), (0, .ref a), (1, .int (nI j))]) hx hb dX6_writeSlip_88 hl (k := 1) rfl (nI_1 r) (by decide) rfl (fun ls hl => ?_)
            refine lv_goto (tgt := 10) hx hb dX6_writeSlip_91 (by decide) ?_
            exact ih (r + 1) (by omega) H locs _ _ hO hT0 hT hRt hLk (by rw [sTx, show enT S ap j r = [48 + qpik S r / 10, 48 + qpik S r % 10, 32] ++ (fTx (qrat S r) (qbas S r) ++ [59]) by unfold enT; rw [if_neg e1, epy], ← List.append_assoc, ← List.append_assoc]; exact hSl) hP hP2 hPr hS ls (lv_sub hl [0, 2, 3] rfl)
  refine lv_aload_n hx hb dX6_writeSlip_0 rfl (lv_at hl 0 rfl) ?_
  refine va_get (D := g.1) (ci := 6) (v := .ref (a + 14)) (C := RX6) (T := TX6) (N := 7) hx hb hts (by decide +kernel) hown hK.1 (xr_one hO) 0 rfl rfl 4 (by decide) (hts (.fieldLink RX6 36 "SharesDesk" "slip" "LSharesDesk$Slip;") (by decide +kernel)) (fun _ h9 => h9) rfl dX6_writeSlip_1 ?_
  refine lv_iload_n hx hb dX6_writeSlip_4 rfl (lv_at hl 1 rfl) ?_
  refine xr_Vv (rest := []) ⟨hx, hb, hml, hown, hts⟩ (KK_ok g) hK (c_X4_clear l g s.heap (a + 14) ow (nI j) tx hSl) (cwV 1 hts gX6_writeSlip_X4_clear rfl rfl rfl (by decide +kernel) ⟨Nat.le_of_ble_eq_true rfl, Nat.le_of_ble_eq_true rfl⟩) (xr_rec hK hSl.1 rfl) rfl hl.1 rfl (Nat.le_of_ble_eq_true rfl) dX6_writeSlip_5 ⟨Nat.le_of_ble_eq_true rfl, Nat.le_of_ble_eq_true rfl⟩ hS (fun q h => by have h : q = a + 14 := h; show a ≤ q ∧ q < a + 579; omega) (fun _ H locs hq hz hkp hS => ?_)
  replace hkp := fun (q : Nat) h1 (h2 : ¬ (q = a + 14)) => hkp q h1 h2
  replace hO := hO.kept (hkp _ hO.lt (by omega))
  replace hT0 := hT0.kept (fun q hq1 hq2 hq3 => hkp q hq1 (by omega))
  replace hT := hT.kept (fun q hq1 hq2 hq3 => hkp q hq1 (by omega))
  replace hRt := hRt.kept (fun q hq1 hq2 hq3 => hkp q hq1 (by omega))
  replace hLk := hLk.kept (hkp _ hLk.1.lt (by omega)) (hkp _ hLk.2.1.lt (by omega))
  replace hP := hP.kept (fun q hq1 hq2 hq3 => hkp q hq1 (by omega))
  replace hP2 := hP2.kept (fun q hq1 hq2 hq3 => hkp q hq1 (by omega))
  replace hPr := hPr.kept (hkp _ hPr.l1 (by omega)) (hkp _ hPr.l2 (by omega))
  have hSl : SlipAt g H (a + 14) (nI j) [] := hq
  refine lv_iconst (v := 0) hx hb dX6_writeSlip_8 (by decide) ?_
  refine xr_ti (x' := nI 0) rfl ?_
  refine lv_istore_n (lv' := [(2, .int (nI 0)), (0, .ref a), (1, .int (nI j))]) hx hb dX6_writeSlip_9 rfl hl (by decide) rfl (fun ls hl => ?_)
  exact loop n 0 (by omega) H locs rt ru hO hT0 hT hRt hLk hSl hP hP2 hPr hS ls (lv_sub hl [0, 1, 2] rfl)
set_option maxHeartbeats 800000 in
set_option maxRecDepth 100000 in
theorem c_X6_receipt (l : Launch) (g : WG) (H0 : Heap) (a : Nat) (c0 : Nat → Nat) (vs0 : Nat) (ap0 : Nat → Nat) (bu0 : Nat) (c : Nat → Nat) (vs : Nat) (ap : Nat → Nat) (bu : Nat) (n : Nat) (S : PSt) (ow : Int32) (tx : List Nat) (hD : DeskAt g H0 a c0 vs0 ap0 bu0 c vs ap bu n S ow tx) (hQ : PhQ c vs ap n S) (hSI : SlOK ap n S ow tx) (v k : Int32) : Ctr l (KK g) yX6_receipt wsX6_receipt { frames := 5, cells := 0, slots := 0, locals := 128 } [.ref a, .int v, .int k] H0 eI (fun r H => r = aRe vs ap n S v k ∧ ∃ ow1 tx1, SlOK ap n S ow1 tx1 ∧ DeskAt g H a c0 vs0 ap0 bu0 c vs ap bu n S ow1 tx1) (fun q => a ≤ q ∧ q < a + 579) := by
  refine xr_enter (cc := cX6_receipt) (maxL := 3) (ret := (some .int)) (by decide) rfl (Nat.le_of_ble_eq_true rfl) ?_
  intro pgm env s mid below meth cde hx hb hr hml hts hown hlocks hnm hH hK ls hl
  subst hH
  have hl : lv_has ls 3 [(0, .ref a), (1, .int v), (2, .int k)] := hl
  have hS : va_S (fun q => a ≤ q ∧ q < a + 579) s.heap s.heap [] := va_S.rf
  obtain ⟨rs, tr, rt, ru, ly, n2, S2, hrt, hO, hT0, hT, hRt, hLk, hSl, hP, hP2, hPr, hp1, hp2⟩ := id hD
  refine lv_aload_n hx hb dX6_receipt_0 rfl (lv_at hl 0 rfl) ?_
  refine va_get (D := g.1) (ci := 6) (v := .ref (a + 4)) (C := RX6) (T := TX6) (N := 7) hx hb hts (by decide +kernel) hown hK.1 (xr_one hO) 0 rfl rfl 1 (by decide) (hts (.fieldLink RX6 16 "SharesDesk" "past" "LSharesDesk$Town;") (by decide +kernel)) (fun _ h9 => h9) rfl dX6_receipt_1 ?_
  refine lv_iload_n hx hb dX6_receipt_4 rfl (lv_at hl 1 rfl) ?_
  refine xr_Vi (rest := []) ⟨hx, hb, hml, hown, hts⟩ (KK_ok g) hK (c_X5_hasVoter l g s.heap (a + 4) c vs ap bu hT v) (cwV 1 hts gX6_receipt_X5_hasVoter rfl rfl rfl (by decide +kernel) ⟨Nat.le_of_ble_eq_true rfl, Nat.le_of_ble_eq_true rfl⟩) (xr_rec hK hT.1 rfl) rfl hl.1 rfl (Nat.le_of_ble_eq_true rfl) dX6_receipt_5 ⟨Nat.le_of_ble_eq_true rfl, Nat.le_of_ble_eq_true rfl⟩ hS (fun q h => h.elim) (fun r H locs hq hz hkp hS944 => ?_)
  obtain ⟨rfl, rfl⟩ := hq
  have hS := hS944
  refine lv_if_ne (tgt := 13) hx hb dX6_receipt_8 (by decide) (fun h0 => ?_) (fun h0 => ?_)
  · have h9 : isV vs v = true := b2i_n0.mp h0
    obtain ⟨j, hj, rfl, hvj, hv0⟩ := isV_of h9
    refine lv_aload_n hx hb dX6_receipt_13 rfl (lv_at hl 0 rfl) ?_
    refine va_get (D := g.1) (ci := 6) (v := .ref (a + 14)) (C := RX6) (T := TX6) (N := 7) hx hb hts (by decide +kernel) hown hK.1 (xr_one hO) 0 rfl rfl 4 (by decide) (hts (.fieldLink RX6 36 "SharesDesk" "slip" "LSharesDesk$Slip;") (by decide +kernel)) (fun _ h9 => h9) rfl dX6_receipt_14 ?_
    refine va_get (D := g.1) (ci := 4) (v := .int ow) (C := RX4) (T := TX4) (N := 5) hx hb hts (by decide +kernel) hown hK.1 (xr_one hSl.1) 0 rfl rfl 0 (by decide) (hts (.fieldLink RX6 174 "SharesDesk$Slip" "owner" "I") (by decide +kernel)) (fun _ h9 => h9) rfl dX6_receipt_17 ?_
    refine lv_iload_n hx hb dX6_receipt_20 rfl (lv_at hl 1 rfl) ?_
    refine lv_icmp_eq (tgt := 29) hx hb dX6_receipt_21 (by decide) (fun h1 => ?_) (fun h1 => ?_)
    · have htx := hSI j hj h1
      refine lv_aload_n hx hb dX6_receipt_29 rfl (lv_at hl 0 rfl) ?_
      refine va_get (D := g.1) (ci := 6) (v := .ref (a + 14)) (C := RX6) (T := TX6) (N := 7) hx hb hts (by decide +kernel) hown hK.1 (xr_one hO) 0 rfl rfl 4 (by decide) (hts (.fieldLink RX6 36 "SharesDesk" "slip" "LSharesDesk$Slip;") (by decide +kernel)) (fun _ h9 => h9) rfl dX6_receipt_30 ?_
      refine lv_iload_n hx hb dX6_receipt_33 rfl (lv_at hl 2 rfl) ?_
      refine lv_iconst (v := (-1)) hx hb dX6_receipt_34 (by decide) ?_
      refine xr_Vi (rest := []) ⟨hx, hb, hml, hown, hts⟩ (KK_ok g) hK (c_X4_charOr l g s.heap (a + 14) ow k (-1) tx hSl) (cwV 2 hts gX6_receipt_X4_charOr rfl rfl rfl (by decide +kernel) ⟨Nat.le_of_ble_eq_true rfl, Nat.le_of_ble_eq_true rfl⟩) (xr_rec hK hSl.1 rfl) rfl hl.1 rfl (Nat.le_of_ble_eq_true rfl) dX6_receipt_35 ⟨Nat.le_of_ble_eq_true rfl, Nat.le_of_ble_eq_true rfl⟩ hS (fun q h => h.elim) (fun r H locs hq hz hkp hS945 => ?_)
      obtain ⟨rfl, rfl⟩ := hq
      have hS := hS945
      subst htx
      exact xr_iret hx hb hr hlocks hS ⟨by unfold aRe; rw [if_pos h9, ix_nI (by omega)], ow, _, hSI, hD⟩ dX6_receipt_38
    · have h1 := h1
      refine lv_aload_n hx hb dX6_receipt_24 rfl (lv_at hl 0 rfl) ?_
      refine lv_iload_n hx hb dX6_receipt_25 rfl (lv_at hl 1 rfl) ?_
      refine xr_Vv (rest := []) ⟨hx, hb, hml, hown, hts⟩ (KK_ok g) hK (c_X6_writeSlip l g s.heap a c0 vs0 ap0 bu0 c vs ap bu n S ow tx hD hQ j hj hv0) (cwV 1 hts gX6_receipt_X6_writeSlip rfl rfl rfl (by decide +kernel) ⟨Nat.le_of_ble_eq_true rfl, Nat.le_of_ble_eq_true rfl⟩) (xr_rec hK hO rfl) rfl hl.1 rfl (Nat.le_of_ble_eq_true rfl) dX6_receipt_26 ⟨Nat.le_of_ble_eq_true rfl, Nat.le_of_ble_eq_true rfl⟩ hS (fun q h => h) (fun _ H locs hq hz hkp hS => ?_)
      have hD2 : DeskAt g H a c0 vs0 ap0 bu0 c vs ap bu n S (nI j) (rcT S ap n j) := hq
      obtain ⟨rs, tr, rt, ru, ly, n2, S2, hrt, hO, hT0, hT, hRt, hLk, hSl, hP, hP2, hPr, hp1, hp2⟩ := id hD2
      refine lv_aload_n hx hb dX6_receipt_29 rfl (lv_at hl 0 rfl) ?_
      refine va_get (D := g.1) (ci := 6) (v := .ref (a + 14)) (C := RX6) (T := TX6) (N := 7) hx hb hts (by decide +kernel) hown hK.1 (xr_one hO) 0 rfl rfl 4 (by decide) (hts (.fieldLink RX6 36 "SharesDesk" "slip" "LSharesDesk$Slip;") (by decide +kernel)) (fun _ h9 => h9) rfl dX6_receipt_30 ?_
      refine lv_iload_n hx hb dX6_receipt_33 rfl (lv_at hl 2 rfl) ?_
      refine lv_iconst (v := (-1)) hx hb dX6_receipt_34 (by decide) ?_
      refine xr_Vi (rest := []) ⟨hx, hb, hml, hown, hts⟩ (KK_ok g) hK (c_X4_charOr l g H (a + 14) (nI j) k (-1) (rcT S ap n j) hSl) (cwV 2 hts gX6_receipt_X4_charOr rfl rfl rfl (by decide +kernel) ⟨Nat.le_of_ble_eq_true rfl, Nat.le_of_ble_eq_true rfl⟩) (xr_rec hK hSl.1 rfl) rfl hl.1 rfl (Nat.le_of_ble_eq_true rfl) dX6_receipt_35 ⟨Nat.le_of_ble_eq_true rfl, Nat.le_of_ble_eq_true rfl⟩ hS (fun q h => h.elim) (fun r H locs hq hz hkp hS946 => ?_)
      obtain ⟨rfl, rfl⟩ := hq
      have hS := hS946
      exact xr_iret hx hb hr hlocks hS ⟨by unfold aRe; rw [if_pos h9, ix_nI (by omega)], nI j, _, fun i hi hij => by rw [(nI_inj (show j < 2 ^ 32 by omega) (by omega)).mp hij], hD2⟩ dX6_receipt_38
  · have h9 : isV vs v = false := b2i_0.mp h0
    refine lv_iconst (v := (-1)) hx hb dX6_receipt_11 (by decide) ?_
    exact xr_iret hx hb hr hlocks hS ⟨by unfold aRe; rw [if_neg (by rw [h9]; decide)], ow, tx, hSI, hD⟩ dX6_receipt_12
