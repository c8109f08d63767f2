set_option maxHeartbeats 400000 in
set_option maxRecDepth 100000 in
theorem c_X6_project (l : Launch) (g : WG) (H0 : Heap) (a : Nat) (c0 : Nat → Nat) (vs0 : Nat) (ap0 : Nat → Nat) (bu0 : Nat) (c : Nat → Nat) (vs : Nat) (ap : Nat → Nat) (bu : Nat) (n : Nat) (S : PSt) (ow : Int32) (tx : List Nat) (hD : DeskAt g H0 a c0 vs0 ap0 bu0 c vs ap bu n S ow tx) (p k : Int32) : Ctr l (KK g) yX6_project wsX6_project { frames := 1, cells := 0, slots := 0, locals := 20 } [.ref a, .int p, .int k] H0 eI (fun r H => r = b2i (oPj p k) ∧ DeskAt g H a (cPj c0 p k) vs0 ap0 bu0 c vs ap bu n S ow tx) (fun q => a ≤ q ∧ q < a + 579) := by
  refine xr_enter (cc := cX6_project) (maxL := 3) (ret := (some .boolean)) (by decide) rfl (Nat.le_of_ble_eq_true rfl) ?_
  intro pgm env s mid below meth cde hx hb hr hml hts hown hlocks hnm hH hK ls hl
  subst hH
  have hl : lv_has ls 3 [(0, .ref a), (1, .int p), (2, .int k)] := hl
  have hS : va_S (fun q => a ≤ q ∧ q < a + 579) s.heap s.heap [] := va_S.rf
  obtain ⟨rs, tr, rt, ru, ly, n2, S2, hrt, hO, hT0, hT, hRt, hLk, hSl, hP, hP2, hPr, hp1, hp2⟩ := id hD
  refine lv_iload_n hx hb dX6_project_0 rfl (lv_at hl 1 rfl) ?_
  refine xr_Si (rest := []) ⟨hx, hb, hml, hown, hts⟩ (KK_ok g) hK (c_X6_isProjectNumber l g s.heap p) (cwS 1 hts gX6_project_X6_isProjectNumber rfl rfl rfl (by decide +kernel) ⟨Nat.le_of_ble_eq_true rfl, Nat.le_of_ble_eq_true rfl⟩) rfl hl.1 rfl (Nat.le_of_ble_eq_true rfl) dX6_project_1 ⟨Nat.le_of_ble_eq_true rfl, Nat.le_of_ble_eq_true rfl⟩ hS (fun q h => h.elim) (fun r H locs hq hz hkp hS925 => ?_)
  obtain ⟨rfl, rfl⟩ := hq
  have hS := hS925
  refine lv_if_eq (tgt := 18) hx hb dX6_project_4 (by decide) (fun h0 => ?_) (fun h0 => ?_)
  · have h9 := b2i_0.mp h0
    refine lv_iconst (v := 0) hx hb dX6_project_18 (by decide) ?_
    exact xr_zret hx hb hr rfl hlocks hS ⟨by rw [show oPj p k = false by unfold oPj; rw [h9]; simp]; rfl, by unfold cPj; rw [if_neg (by unfold oPj; rw [h9]; simp)]; exact hD⟩ dX6_project_19
  · have h9 := b2i_n0.mp h0
    refine lv_iload_n hx hb dX6_project_7 rfl (lv_at hl 2 rfl) ?_
    refine lv_iconst (v := 1) hx hb dX6_project_8 (by decide) ?_
    refine lv_icmp_lt (tgt := 18) hx hb dX6_project_9 (by decide) (fun h1 => ?_) (fun h1 => ?_)
    · have h8 : rg k 1000000 = false := rg_lo h1
      refine lv_iconst (v := 0) hx hb dX6_project_18 (by decide) ?_
      exact xr_zret hx hb hr rfl hlocks hS ⟨by rw [show oPj p k = false by unfold oPj; rw [h8]; simp]; rfl, by unfold cPj; rw [if_neg (by unfold oPj; rw [h8]; simp)]; exact hD⟩ dX6_project_19
    · have h1 := h1
      refine lv_iload_n hx hb dX6_project_12 rfl (lv_at hl 2 rfl) ?_
      refine lv_ldc (v := (1000000)) hx hb hown (hts (.constant RX6 56 (1000000)) (by decide +kernel)) dX6_project_13 ?_
      refine lv_icmp_le (tgt := 20) hx hb dX6_project_15 (by decide) (fun h2 => ?_) (fun h2 => ?_)
      · obtain ⟨h8, j, hj1, hj2, hj3, rfl⟩ := rg_ok (M := 1000000) (by decide) h1 h2
        obtain ⟨i, hi, rfl⟩ := inR_of h9 (by decide)
        obtain ⟨hTO, hcs, hap, hcb, hvb, hab, hbb⟩ := id hT0
        refine lv_aload_n hx hb dX6_project_20 rfl (lv_at hl 0 rfl) ?_
        refine va_get (D := g.1) (ci := 6) (v := .ref (a + 1)) (C := RX6) (T := TX6) (N := 7) hx hb hts (by decide +kernel) hown hK.1 (xr_one hO) 0 rfl rfl 0 (by decide) (hts (.fieldLink RX6 10 "SharesDesk" "town" "LSharesDesk$Town;") (by decide +kernel)) (fun _ h9 => h9) rfl dX6_project_21 ?_
        refine va_get (D := g.1) (ci := 5) (v := .ref (a + 1 + 1)) (C := RX5) (T := TX5) (N := 4) hx hb hts (by decide +kernel) hown hK.1 (xr_one hTO) 0 rfl rfl 0 (by decide) (hts (.fieldLink RX6 57 "SharesDesk$Town" "costs" "[I") (by decide +kernel)) (fun _ h9 => h9) rfl dX6_project_24 ?_
        refine lv_iload_n hx hb dX6_project_27 rfl (lv_at hl 1 rfl) ?_
        refine lv_iload_n hx hb dX6_project_28 rfl (lv_at hl 2 rfl) ?_
        refine xr_wr hx hb hK hS (show a ≤ a + 1 + 1 ∧ a + 1 + 1 < a + 579 by omega) hcs hi (by decide) dX6_project_29 (fun H locs hz hkp hcs hS => ?_)
        replace hO := hO.kept (hkp _ (by omega))
        replace hT := hT.kept (fun q hq1 hq2 hq3 => hkp q (by omega))
        replace hRt := hRt.kept (fun q hq1 hq2 hq3 => hkp q (by omega))
        replace hLk := hLk.kept (hkp _ (by omega)) (hkp _ (by omega))
        replace hSl := hSl.kept (fun q hq1 hq2 hq3 => hkp q (by omega))
        replace hP := hP.kept (fun q hq1 hq2 hq3 => hkp q (by omega))
        replace hP2 := hP2.kept (fun q hq1 hq2 hq3 => hkp q (by omega))
        replace hPr := hPr.kept (hkp _ (by omega)) (hkp _ (by omega))
        replace hTO := hTO.kept (hkp _ (by omega))
        replace hap := hap.kept (hkp _ (by omega))
        rw [ia_up] at hcs
        refine lv_iconst (v := 1) hx hb dX6_project_30 (by decide) ?_
        have hok : oPj (nI i) (nI j) = true := by unfold oPj; rw [h9, h8]; rfl
        exact xr_zret hx hb hr rfl hlocks hS ⟨by rw [hok]; rfl, by unfold cPj; rw [if_pos hok, ix_nI (by omega), ix_nI hj3]; exact ⟨rs, tr, rt, ru, ly, n2, S2, hrt, hO, ⟨hTO, hcs, hap, va_up_all (P := fun _ z => z ≤ 1000000) hcb hj2, hvb, hab, hbb⟩, hT, hRt, hLk, hSl, hP, hP2, hPr, hp1, hp2⟩⟩ dX6_project_31
      · have h8 : rg k 1000000 = false := rg_hi (m := 1000000) (by decide) h2
        refine lv_iconst (v := 0) hx hb dX6_project_18 (by decide) ?_
        exact xr_zret hx hb hr rfl hlocks hS ⟨by rw [show oPj p k = false by unfold oPj; rw [h8]; simp]; rfl, by unfold cPj; rw [if_neg (by unfold oPj; rw [h8]; simp)]; exact hD⟩ dX6_project_19
set_option maxHeartbeats 400000 in
set_option maxRecDepth 100000 in
theorem c_X6_drop (l : Launch) (g : WG) (H0 : Heap) (a : Nat) (c0 : Nat → Nat) (vs0 : Nat) (ap0 : Nat → Nat) (bu0 : Nat) (c : Nat → Nat) (vs : Nat) (ap : Nat → Nat) (bu : Nat) (n : Nat) (S : PSt) (ow : Int32) (tx : List Nat) (hD : DeskAt g H0 a c0 vs0 ap0 bu0 c vs ap bu n S ow tx) (p : Int32) : Ctr l (KK g) yX6_drop wsX6_drop { frames := 2, cells := 0, slots := 0, locals := 41 } [.ref a, .int p] H0 eI (fun r H => r = b2i (oDr c0 p) ∧ DeskAt g H a (cDr c0 p) vs0 ap0 bu0 c vs ap bu n S ow tx) (fun q => a ≤ q ∧ q < a + 579) := by
  refine xr_enter (cc := cX6_drop) (maxL := 2) (ret := (some .boolean)) (by decide) rfl (Nat.le_of_ble_eq_true rfl) ?_
  intro pgm env s mid below meth cde hx hb hr hml hts hown hlocks hnm hH hK ls hl
  subst hH
  have hl : lv_has ls 2 [(0, .ref a), (1, .int p)] := hl
  have hS : va_S (fun q => a ≤ q ∧ q < a + 579) s.heap s.heap [] := va_S.rf
  obtain ⟨rs, tr, rt, ru, ly, n2, S2, hrt, hO, hT0, hT, hRt, hLk, hSl, hP, hP2, hPr, hp1, hp2⟩ := id hD
  refine lv_aload_n hx hb dX6_drop_0 rfl (lv_at hl 0 rfl) ?_
  refine va_get (D := g.1) (ci := 6) (v := .ref (a + 1)) (C := RX6) (T := TX6) (N := 7) hx hb hts (by decide +kernel) hown hK.1 (xr_one hO) 0 rfl rfl 0 (by decide) (hts (.fieldLink RX6 10 "SharesDesk" "town" "LSharesDesk$Town;") (by decide +kernel)) (fun _ h9 => h9) rfl dX6_drop_1 ?_
  refine lv_iload_n hx hb dX6_drop_4 rfl (lv_at hl 1 rfl) ?_
  refine xr_Vi (rest := []) ⟨hx, hb, hml, hown, hts⟩ (KK_ok g) hK (c_X5_hasProject l g s.heap (a + 1) c0 vs0 ap0 bu0 hT0 p) (cwV 1 hts gX6_drop_X5_hasProject rfl rfl rfl (by decide +kernel) ⟨Nat.le_of_ble_eq_true rfl, Nat.le_of_ble_eq_true rfl⟩) (xr_rec hK hT0.1 rfl) rfl hl.1 rfl (Nat.le_of_ble_eq_true rfl) dX6_drop_5 ⟨Nat.le_of_ble_eq_true rfl, Nat.le_of_ble_eq_true rfl⟩ hS (fun q h => h.elim) (fun r H locs hq hz hkp hS926 => ?_)
  obtain ⟨rfl, rfl⟩ := hq
  have hS := hS926
  refine lv_if_ne (tgt := 13) hx hb dX6_drop_8 (by decide) (fun h0 => ?_) (fun h0 => ?_)
  · have h9 : oDr c0 p = true := b2i_n0.mp h0
    have h7 : inR p 16 = true := by unfold oDr at h9; revert h9; cases inR p 16 <;> simp
    obtain ⟨i, hi, rfl⟩ := inR_of h7 (by decide)
    obtain ⟨hTO, hcs, hap, hcb, hvb, hab, hbb⟩ := id hT0
    refine lv_aload_n hx hb dX6_drop_13 rfl (lv_at hl 0 rfl) ?_
    refine va_get (D := g.1) (ci := 6) (v := .ref (a + 1)) (C := RX6) (T := TX6) (N := 7) hx hb hts (by decide +kernel) hown hK.1 (xr_one hO) 0 rfl rfl 0 (by decide) (hts (.fieldLink RX6 10 "SharesDesk" "town" "LSharesDesk$Town;") (by decide +kernel)) (fun _ h9 => h9) rfl dX6_drop_14 ?_
    refine va_get (D := g.1) (ci := 5) (v := .ref (a + 1 + 1)) (C := RX5) (T := TX5) (N := 4) hx hb hts (by decide +kernel) hown hK.1 (xr_one hTO) 0 rfl rfl 0 (by decide) (hts (.fieldLink RX6 57 "SharesDesk$Town" "costs" "[I") (by decide +kernel)) (fun _ h9 => h9) rfl dX6_drop_17 ?_
    refine lv_iload_n hx hb dX6_drop_20 rfl (lv_at hl 1 rfl) ?_
    refine lv_iconst (v := 0) hx hb dX6_drop_21 (by decide) ?_
    refine xr_ti (x' := nI 0) rfl ?_
    refine xr_wr hx hb hK hS (show a ≤ a + 1 + 1 ∧ a + 1 + 1 < a + 579 by omega) hcs hi (by decide) dX6_drop_22 (fun H locs hz hkp hcs hS => ?_)
    replace hO := hO.kept (hkp _ (by omega))
    replace hT := hT.kept (fun q hq1 hq2 hq3 => hkp q (by omega))
    replace hRt := hRt.kept (fun q hq1 hq2 hq3 => hkp q (by omega))
    replace hLk := hLk.kept (hkp _ (by omega)) (hkp _ (by omega))
    replace hSl := hSl.kept (fun q hq1 hq2 hq3 => hkp q (by omega))
    replace hP := hP.kept (fun q hq1 hq2 hq3 => hkp q (by omega))
    replace hP2 := hP2.kept (fun q hq1 hq2 hq3 => hkp q (by omega))
    replace hPr := hPr.kept (hkp _ (by omega)) (hkp _ (by omega))
    replace hTO := hTO.kept (hkp _ (by omega))
    replace hap := hap.kept (hkp _ (by omega))
    rw [ia_up] at hcs
    refine lv_iconst (v := 1) hx hb dX6_drop_23 (by decide) ?_
    exact xr_zret hx hb hr rfl hlocks hS ⟨by rw [h9]; rfl, by unfold cDr; rw [if_pos h9, ix_nI (by omega)]; exact ⟨rs, tr, rt, ru, ly, n2, S2, hrt, hO, ⟨hTO, hcs, hap, va_up_all (P := fun _ z => z ≤ 1000000) hcb (Nat.zero_le _), hvb, hab, hbb⟩, hT, hRt, hLk, hSl, hP, hP2, hPr, hp1, hp2⟩⟩ dX6_drop_24
  · have h9 : oDr c0 p = false := b2i_0.mp h0
    refine lv_iconst (v := 0) hx hb dX6_drop_11 (by decide) ?_
    exact xr_zret hx hb hr rfl hlocks hS ⟨by rw [h9]; rfl, by unfold cDr; rw [if_neg (by rw [h9]; decide)]; exact hD⟩ dX6_drop_12
set_option maxHeartbeats 400000 in
set_option maxRecDepth 100000 in
theorem c_X6_budget (l : Launch) (g : WG) (H0 : Heap) (a : Nat) (c0 : Nat → Nat) (vs0 : Nat) (ap0 : Nat → Nat) (bu0 : Nat) (c : Nat → Nat) (vs : Nat) (ap : Nat → Nat) (bu : Nat) (n : Nat) (S : PSt) (ow : Int32) (tx : List Nat) (hD : DeskAt g H0 a c0 vs0 ap0 bu0 c vs ap bu n S ow tx) (k : Int32) : Ctr l (KK g) yX6_budget wsX6_budget { frames := 0, cells := 0, slots := 0, locals := 0 } [.ref a, .int k] H0 eI (fun r H => r = b2i (rg k 10000000) ∧ DeskAt g H a c0 vs0 ap0 (bBu bu0 k) c vs ap bu n S ow tx) (fun q => a ≤ q ∧ q < a + 579) := by
  refine xr_enter (cc := cX6_budget) (maxL := 2) (ret := (some .boolean)) (by decide) rfl (Nat.le_of_ble_eq_true rfl) ?_
  intro pgm env s mid below meth cde hx hb hr hml hts hown hlocks hnm hH hK ls hl
  subst hH
  have hl : lv_has ls 2 [(0, .ref a), (1, .int k)] := hl
  have hS : va_S (fun q => a ≤ q ∧ q < a + 579) s.heap s.heap [] := va_S.rf
  obtain ⟨rs, tr, rt, ru, ly, n2, S2, hrt, hO, hT0, hT, hRt, hLk, hSl, hP, hP2, hPr, hp1, hp2⟩ := id hD
  refine lv_iload_n hx hb dX6_budget_0 rfl (lv_at hl 1 rfl) ?_
  refine lv_iconst (v := 1) hx hb dX6_budget_1 (by decide) ?_
  refine lv_icmp_lt (tgt := 11) hx hb dX6_budget_2 (by decide) (fun h1 => ?_) (fun h1 => ?_)
  · have h8 : rg k 10000000 = false := rg_lo h1
    refine lv_iconst (v := 0) hx hb dX6_budget_11 (by decide) ?_
    exact xr_zret hx hb hr rfl hlocks hS ⟨by rw [h8]; rfl, by unfold bBu; rw [if_neg (by rw [h8]; decide)]; exact hD⟩ dX6_budget_12
  · have h1 := h1
    refine lv_iload_n hx hb dX6_budget_5 rfl (lv_at hl 1 rfl) ?_
    refine lv_ldc (v := (10000000)) hx hb hown (hts (.constant RX6 64 (10000000)) (by decide +kernel)) dX6_budget_6 ?_
    refine lv_icmp_le (tgt := 13) hx hb dX6_budget_8 (by decide) (fun h2 => ?_) (fun h2 => ?_)
    · obtain ⟨h8, j, hj1, hj2, hj3, rfl⟩ := rg_ok (M := 10000000) (by decide) h1 h2
      obtain ⟨hTO, hcs, hap, hcb, hvb, hab, hbb⟩ := id hT0
      refine lv_aload_n hx hb dX6_budget_13 rfl (lv_at hl 0 rfl) ?_
      refine va_get (D := g.1) (ci := 6) (v := .ref (a + 1)) (C := RX6) (T := TX6) (N := 7) hx hb hts (by decide +kernel) hown hK.1 (xr_one hO) 0 rfl rfl 0 (by decide) (hts (.fieldLink RX6 10 "SharesDesk" "town" "LSharesDesk$Town;") (by decide +kernel)) (fun _ h9 => h9) rfl dX6_budget_14 ?_
      refine lv_iload_n hx hb dX6_budget_17 rfl (lv_at hl 1 rfl) ?_
      refine xr_put (ci := 5) (v := .int (nI j)) (ty := .int) (C := RX5) (T := TX5) (N := 4) hx hb hts (by decide +kernel) tyX5 tyX5_ok nmX5 hown hK.1 hTO hS (show a ≤ a + 1 ∧ a + 1 < a + 579 by omega) rfl 3 (by decide) (hts (.fieldLink RX6 65 "SharesDesk$Town" "budget" "I") (by decide +kernel)) rfl (by decide +kernel) rfl rfl (Nat.le_of_ble_eq_true rfl) dX6_budget_18 (fun H locs hz hkp hTO hS => ?_)
      replace hO := hO.kept (hkp _ (by omega))
      replace hT := hT.kept (fun q hq1 hq2 hq3 => hkp q (by omega))
      replace hRt := hRt.kept (fun q hq1 hq2 hq3 => hkp q (by omega))
      replace hLk := hLk.kept (hkp _ (by omega)) (hkp _ (by omega))
      replace hSl := hSl.kept (fun q hq1 hq2 hq3 => hkp q (by omega))
      replace hP := hP.kept (fun q hq1 hq2 hq3 => hkp q (by omega))
      replace hP2 := hP2.kept (fun q hq1 hq2 hq3 => hkp q (by omega))
      replace hPr := hPr.kept (hkp _ (by omega)) (hkp _ (by omega))
      replace hcs := hcs.kept (hkp _ (by omega))
      replace hap := hap.kept (hkp _ (by omega))
      refine lv_iconst (v := 1) hx hb dX6_budget_21 (by decide) ?_
      exact xr_zret hx hb hr rfl hlocks hS ⟨by rw [h8]; rfl, by unfold bBu; rw [if_pos h8, ix_nI hj3]; exact ⟨rs, tr, rt, ru, ly, n2, S2, hrt, hO, ⟨hTO, hcs, hap, hcb, hvb, hab, hj1, hj2⟩, hT, hRt, hLk, hSl, hP, hP2, hPr, hp1, hp2⟩⟩ dX6_budget_22
    · have h8 : rg k 10000000 = false := rg_hi (m := 10000000) (by decide) h2
      refine lv_iconst (v := 0) hx hb dX6_budget_11 (by decide) ?_
      exact xr_zret hx hb hr rfl hlocks hS ⟨by rw [h8]; rfl, by unfold bBu; rw [if_neg (by rw [h8]; decide)]; exact hD⟩ dX6_budget_12
set_option maxHeartbeats 400000 in
set_option maxRecDepth 100000 in
theorem c_X6_voter (l : Launch) (g : WG) (H0 : Heap) (a : Nat) (c0 : Nat → Nat) (vs0 : Nat) (ap0 : Nat → Nat) (bu0 : Nat) (c : Nat → Nat) (vs : Nat) (ap : Nat → Nat) (bu : Nat) (n : Nat) (S : PSt) (ow : Int32) (tx : List Nat) (hD : DeskAt g H0 a c0 vs0 ap0 bu0 c vs ap bu n S ow tx) (v : Int32) : Ctr l (KK g) yX6_voter wsX6_voter { frames := 2, cells := 0, slots := 0, locals := 41 } [.ref a, .int v] H0 eI (fun r H => r = b2i (oVo vs0 v) ∧ DeskAt g H a c0 (vVo vs0 v) (aVo vs0 ap0 v) bu0 c vs ap bu n S ow tx) (fun q => a ≤ q ∧ q < a + 579) := by
  refine xr_enter (cc := cX6_voter) (maxL := 2) (ret := (some .boolean)) (by decide) rfl (Nat.le_of_ble_eq_true rfl) ?_
  intro pgm env s mid below meth cde hx hb hr hml hts hown hlocks hnm hH hK ls hl
  subst hH
  have hl : lv_has ls 2 [(0, .ref a), (1, .int v)] := hl
  have hS : va_S (fun q => a ≤ q ∧ q < a + 579) s.heap s.heap [] := va_S.rf
  obtain ⟨rs, tr, rt, ru, ly, n2, S2, hrt, hO, hT0, hT, hRt, hLk, hSl, hP, hP2, hPr, hp1, hp2⟩ := id hD
  refine lv_iload_n hx hb dX6_voter_0 rfl (lv_at hl 1 rfl) ?_
  refine xr_Si (rest := []) ⟨hx, hb, hml, hown, hts⟩ (KK_ok g) hK (c_X6_isVoterNumber l g s.heap v) (cwS 1 hts gX6_voter_X6_isVoterNumber rfl rfl rfl (by decide +kernel) ⟨Nat.le_of_ble_eq_true rfl, Nat.le_of_ble_eq_true rfl⟩) rfl hl.1 rfl (Nat.le_of_ble_eq_true rfl) dX6_voter_1 ⟨Nat.le_of_ble_eq_true rfl, Nat.le_of_ble_eq_true rfl⟩ hS (fun q h => h.elim) (fun r H locs hq hz hkp hS927 => ?_)
  obtain ⟨rfl, rfl⟩ := hq
  have hS := hS927
  refine lv_if_eq (tgt := 18) hx hb dX6_voter_4 (by decide) (fun h0 => ?_) (fun h0 => ?_)
  · have h8 : oVo vs0 v = false := by unfold oVo; rw [b2i_0.mp h0]; rfl
    refine lv_iconst (v := 0) hx hb dX6_voter_18 (by decide) ?_
    exact xr_zret hx hb hr rfl hlocks hS ⟨by rw [h8]; rfl, by unfold vVo aVo; rw [if_neg (by rw [h8]; decide), if_neg (by rw [h8]; decide)]; exact hD⟩ dX6_voter_19
  · have h9 := b2i_n0.mp h0
    refine lv_aload_n hx hb dX6_voter_7 rfl (lv_at hl 0 rfl) ?_
    refine va_get (D := g.1) (ci := 6) (v := .ref (a + 1)) (C := RX6) (T := TX6) (N := 7) hx hb hts (by decide +kernel) hown hK.1 (xr_one hO) 0 rfl rfl 0 (by decide) (hts (.fieldLink RX6 10 "SharesDesk" "town" "LSharesDesk$Town;") (by decide +kernel)) (fun _ h9 => h9) rfl dX6_voter_8 ?_
    refine lv_iload_n hx hb dX6_voter_11 rfl (lv_at hl 1 rfl) ?_
    refine xr_Vi (rest := []) ⟨hx, hb, hml, hown, hts⟩ (KK_ok g) hK (c_X5_hasVoter l g s.heap (a + 1) c0 vs0 ap0 bu0 hT0 v) (cwV 1 hts gX6_voter_X5_hasVoter rfl rfl rfl (by decide +kernel) ⟨Nat.le_of_ble_eq_true rfl, Nat.le_of_ble_eq_true rfl⟩) (xr_rec hK hT0.1 rfl) rfl hl.1 rfl (Nat.le_of_ble_eq_true rfl) dX6_voter_12 ⟨Nat.le_of_ble_eq_true rfl, Nat.le_of_ble_eq_true rfl⟩ hS (fun q h => h.elim) (fun r H locs hq hz hkp hS928 => ?_)
    obtain ⟨rfl, rfl⟩ := hq
    have hS := hS928
    refine lv_if_eq (tgt := 20) hx hb dX6_voter_15 (by decide) (fun h1 => ?_) (fun h1 => ?_)
    · have h7 := b2i_0.mp h1
      rw [h9, Bool.true_and] at h7
      have h8 : oVo vs0 v = true := by unfold oVo; rw [h9, h7]; rfl
      obtain ⟨i, hi, rfl⟩ := inR_of h9 (by decide)
      obtain ⟨hTO, hcs, hap, hcb, hvb, hab, hbb⟩ := id hT0
      refine lv_aload_n hx hb dX6_voter_20 rfl (lv_at hl 0 rfl) ?_
      refine va_get (D := g.1) (ci := 6) (v := .ref (a + 1)) (C := RX6) (T := TX6) (N := 7) hx hb hts (by decide +kernel) hown hK.1 (xr_one hO) 0 rfl rfl 0 (by decide) (hts (.fieldLink RX6 10 "SharesDesk" "town" "LSharesDesk$Town;") (by decide +kernel)) (fun _ h9 => h9) rfl dX6_voter_21 ?_
      refine lv_dup hx hb dX6_voter_24 rfl ?_
      refine va_get (D := g.1) (ci := 5) (v := .long (lN vs0)) (C := RX5) (T := TX5) (N := 4) hx hb hts (by decide +kernel) hown hK.1 (xr_one hTO) 0 rfl rfl 1 (by decide) (hts (.fieldLink RX6 75 "SharesDesk$Town" "voters" "J") (by decide +kernel)) (fun _ h9 => h9) rfl dX6_voter_25 ?_
      refine lv_lconst (v := 1) hx hb dX6_voter_28 (by decide) ?_
      refine lv_iload_n hx hb dX6_voter_29 rfl (lv_at hl 1 rfl) ?_
      refine lv_lshl (v := lN (2 ^ i)) hx hb dX6_voter_30 (by have h9 := wb_shl 1 (k := i) (by omega); rw [Nat.one_mul] at h9; exact h9) ?_
      refine lv_lor hx hb dX6_voter_31 ?_
      refine xr_tl (x' := lN (vs0 ||| 2 ^ i)) lN_or ?_
      refine xr_put (ci := 5) (v := .long (lN (vs0 ||| 2 ^ i))) (ty := .long) (C := RX5) (T := TX5) (N := 4) hx hb hts (by decide +kernel) tyX5 tyX5_ok nmX5 hown hK.1 hTO hS (show a ≤ a + 1 ∧ a + 1 < a + 579 by omega) rfl 1 (by decide) (hts (.fieldLink RX6 75 "SharesDesk$Town" "voters" "J") (by decide +kernel)) rfl (by decide +kernel) rfl rfl (Nat.le_of_ble_eq_true rfl) dX6_voter_32 (fun H locs hz hkp hTO hS => ?_)
      replace hO := hO.kept (hkp _ (by omega))
      replace hT := hT.kept (fun q hq1 hq2 hq3 => hkp q (by omega))
      replace hRt := hRt.kept (fun q hq1 hq2 hq3 => hkp q (by omega))
      replace hLk := hLk.kept (hkp _ (by omega)) (hkp _ (by omega))
      replace hSl := hSl.kept (fun q hq1 hq2 hq3 => hkp q (by omega))
      replace hP := hP.kept (fun q hq1 hq2 hq3 => hkp q (by omega))
      replace hP2 := hP2.kept (fun q hq1 hq2 hq3 => hkp q (by omega))
      replace hPr := hPr.kept (hkp _ (by omega)) (hkp _ (by omega))
      replace hcs := hcs.kept (hkp _ (by omega))
      replace hap := hap.kept (hkp _ (by omega))
      refine lv_aload_n hx hb dX6_voter_35 rfl (lv_at hl 0 rfl) ?_
      refine va_get (D := g.1) (ci := 6) (v := .ref (a + 1)) (C := RX6) (T := TX6) (N := 7) hx hb hts (by decide +kernel) hown hK.1 (xr_one hO) 0 rfl rfl 0 (by decide) (hts (.fieldLink RX6 10 "SharesDesk" "town" "LSharesDesk$Town;") (by decide +kernel)) (fun _ h9 => h9) rfl dX6_voter_36 ?_
      refine va_get (D := g.1) (ci := 5) (v := .ref (a + 1 + 2)) (C := RX5) (T := TX5) (N := 4) hx hb hts (by decide +kernel) hown hK.1 (xr_one hTO) 0 rfl rfl 2 (by decide) (hts (.fieldLink RX6 79 "SharesDesk$Town" "approvals" "[I") (by decide +kernel)) (fun _ h9 => h9) rfl dX6_voter_39 ?_
      refine lv_iload_n hx hb dX6_voter_42 rfl (lv_at hl 1 rfl) ?_
      refine lv_iconst (v := 0) hx hb dX6_voter_43 (by decide) ?_
      refine xr_ti (x' := nI 0) rfl ?_
      refine xr_wr hx hb hK hS (show a ≤ a + 1 + 2 ∧ a + 1 + 2 < a + 579 by omega) hap hi (by decide) dX6_voter_44 (fun H locs hz hkp hap hS => ?_)
      replace hO := hO.kept (hkp _ (by omega))
      replace hT := hT.kept (fun q hq1 hq2 hq3 => hkp q (by omega))
      replace hRt := hRt.kept (fun q hq1 hq2 hq3 => hkp q (by omega))
      replace hLk := hLk.kept (hkp _ (by omega)) (hkp _ (by omega))
      replace hSl := hSl.kept (fun q hq1 hq2 hq3 => hkp q (by omega))
      replace hP := hP.kept (fun q hq1 hq2 hq3 => hkp q (by omega))
      replace hP2 := hP2.kept (fun q hq1 hq2 hq3 => hkp q (by omega))
      replace hPr := hPr.kept (hkp _ (by omega)) (hkp _ (by omega))
      replace hcs := hcs.kept (hkp _ (by omega))
      replace hTO := hTO.kept (hkp _ (by omega))
      rw [ia_up] at hap
      refine lv_iconst (v := 1) hx hb dX6_voter_45 (by decide) ?_
      exact xr_zret hx hb hr rfl hlocks hS ⟨by rw [h8]; rfl, by unfold vVo aVo; rw [if_pos h8, if_pos h8, ix_nI (by omega)]; exact ⟨rs, tr, rt, ru, ly, n2, S2, hrt, hO, ⟨hTO, hcs, hap, hcb, or_lt hvb hi, va_up_all (P := fun _ z => z < 2 ^ 16) hab (Nat.two_pow_pos _), hbb⟩, hT, hRt, hLk, hSl, hP, hP2, hPr, hp1, hp2⟩⟩ dX6_voter_46
    · have h7 := b2i_n0.mp h1
      rw [h9, Bool.true_and] at h7
      have h8 : oVo vs0 v = false := by unfold oVo; rw [h9, h7]; rfl
      refine lv_iconst (v := 0) hx hb dX6_voter_18 (by decide) ?_
      exact xr_zret hx hb hr rfl hlocks hS ⟨by rw [h8]; rfl, by unfold vVo aVo; rw [if_neg (by rw [h8]; decide), if_neg (by rw [h8]; decide)]; exact hD⟩ dX6_voter_19
set_option maxHeartbeats 400000 in
set_option maxRecDepth 100000 in
theorem c_X6_strike (l : Launch) (g : WG) (H0 : Heap) (a : Nat) (c0 : Nat → Nat) (vs0 : Nat) (ap0 : Nat → Nat) (bu0 : Nat) (c : Nat → Nat) (vs : Nat) (ap : Nat → Nat) (bu : Nat) (n : Nat) (S : PSt) (ow : Int32) (tx : List Nat) (hD : DeskAt g H0 a c0 vs0 ap0 bu0 c vs ap bu n S ow tx) (v : Int32) : Ctr l (KK g) yX6_strike wsX6_strike { frames := 2, cells := 0, slots := 0, locals := 41 } [.ref a, .int v] H0 eI (fun r H => r = b2i (isV vs0 v) ∧ DeskAt g H a c0 (vSt vs0 v) ap0 bu0 c vs ap bu n S ow tx) (fun q => a ≤ q ∧ q < a + 579) := by
  refine xr_enter (cc := cX6_strike) (maxL := 2) (ret := (some .boolean)) (by decide) rfl (Nat.le_of_ble_eq_true rfl) ?_
  intro pgm env s mid below meth cde hx hb hr hml hts hown hlocks hnm hH hK ls hl
  subst hH
  have hl : lv_has ls 2 [(0, .ref a), (1, .int v)] := hl
  have hS : va_S (fun q => a ≤ q ∧ q < a + 579) s.heap s.heap [] := va_S.rf
  obtain ⟨rs, tr, rt, ru, ly, n2, S2, hrt, hO, hT0, hT, hRt, hLk, hSl, hP, hP2, hPr, hp1, hp2⟩ := id hD
  refine lv_aload_n hx hb dX6_strike_0 rfl (lv_at hl 0 rfl) ?_
  refine va_get (D := g.1) (ci := 6) (v := .ref (a + 1)) (C := RX6) (T := TX6) (N := 7) hx hb hts (by decide +kernel) hown hK.1 (xr_one hO) 0 rfl rfl 0 (by decide) (hts (.fieldLink RX6 10 "SharesDesk" "town" "LSharesDesk$Town;") (by decide +kernel)) (fun _ h9 => h9) rfl dX6_strike_1 ?_
  refine lv_iload_n hx hb dX6_strike_4 rfl (lv_at hl 1 rfl) ?_
  refine xr_Vi (rest := []) ⟨hx, hb, hml, hown, hts⟩ (KK_ok g) hK (c_X5_hasVoter l g s.heap (a + 1) c0 vs0 ap0 bu0 hT0 v) (cwV 1 hts gX6_strike_X5_hasVoter rfl rfl rfl (by decide +kernel) ⟨Nat.le_of_ble_eq_true rfl, Nat.le_of_ble_eq_true rfl⟩) (xr_rec hK hT0.1 rfl) rfl hl.1 rfl (Nat.le_of_ble_eq_true rfl) dX6_strike_5 ⟨Nat.le_of_ble_eq_true rfl, Nat.le_of_ble_eq_true rfl⟩ hS (fun q h => h.elim) (fun r H locs hq hz hkp hS929 => ?_)
  obtain ⟨rfl, rfl⟩ := hq
  have hS := hS929
  refine lv_if_ne (tgt := 13) hx hb dX6_strike_8 (by decide) (fun h1 => ?_) (fun h1 => ?_)
  · have h8 : isV vs0 v = true := b2i_n0.mp h1
    have h78 : inR v 48 = true ∧ vs0.testBit (ix v) = true := by unfold isV at h8; exact Bool.and_eq_true_iff.mp h8
    obtain ⟨i, hi, rfl⟩ := inR_of h78.1 (by decide)
    have h7 := h78.2
    rw [ix_nI (by omega)] at h7
    obtain ⟨hTO, hcs, hap, hcb, hvb, hab, hbb⟩ := id hT0
    refine lv_aload_n hx hb dX6_strike_13 rfl (lv_at hl 0 rfl) ?_
    refine va_get (D := g.1) (ci := 6) (v := .ref (a + 1)) (C := RX6) (T := TX6) (N := 7) hx hb hts (by decide +kernel) hown hK.1 (xr_one hO) 0 rfl rfl 0 (by decide) (hts (.fieldLink RX6 10 "SharesDesk" "town" "LSharesDesk$Town;") (by decide +kernel)) (fun _ h9 => h9) rfl dX6_strike_14 ?_
    refine lv_dup hx hb dX6_strike_17 rfl ?_
    refine va_get (D := g.1) (ci := 5) (v := .long (lN vs0)) (C := RX5) (T := TX5) (N := 4) hx hb hts (by decide +kernel) hown hK.1 (xr_one hTO) 0 rfl rfl 1 (by decide) (hts (.fieldLink RX6 75 "SharesDesk$Town" "voters" "J") (by decide +kernel)) (fun _ h9 => h9) rfl dX6_strike_18 ?_
    refine lv_lconst (v := 1) hx hb dX6_strike_21 (by decide) ?_
    refine lv_iload_n hx hb dX6_strike_22 rfl (lv_at hl 1 rfl) ?_
    refine lv_lshl (v := lN (2 ^ i)) hx hb dX6_strike_23 (by have h9 := wb_shl 1 (k := i) (by omega); rw [Nat.one_mul] at h9; exact h9) ?_
    refine lv_ldc2 (v := (-1)) hx hb hown (hts (.constantLong RX6 82 (-1)) (by decide +kernel)) dX6_strike_24 ?_
    refine lv_lxor hx hb dX6_strike_27 ?_
    refine lv_land hx hb dX6_strike_28 ?_
    refine xr_tl (x' := lN (vs0 - 2 ^ i)) (lN_clr (by omega) (by omega) h7) ?_
    refine xr_put (ci := 5) (v := .long (lN (vs0 - 2 ^ i))) (ty := .long) (C := RX5) (T := TX5) (N := 4) hx hb hts (by decide +kernel) tyX5 tyX5_ok nmX5 hown hK.1 hTO hS (show a ≤ a + 1 ∧ a + 1 < a + 579 by omega) rfl 1 (by decide) (hts (.fieldLink RX6 75 "SharesDesk$Town" "voters" "J") (by decide +kernel)) rfl (by decide +kernel) rfl rfl (Nat.le_of_ble_eq_true rfl) dX6_strike_29 (fun H locs hz hkp hTO hS => ?_)
    replace hO := hO.kept (hkp _ (by omega))
    replace hT := hT.kept (fun q hq1 hq2 hq3 => hkp q (by omega))
    replace hRt := hRt.kept (fun q hq1 hq2 hq3 => hkp q (by omega))
    replace hLk := hLk.kept (hkp _ (by omega)) (hkp _ (by omega))
    replace hSl := hSl.kept (fun q hq1 hq2 hq3 => hkp q (by omega))
    replace hP := hP.kept (fun q hq1 hq2 hq3 => hkp q (by omega))
    replace hP2 := hP2.kept (fun q hq1 hq2 hq3 => hkp q (by omega))
    replace hPr := hPr.kept (hkp _ (by omega)) (hkp _ (by omega))
    replace hcs := hcs.kept (hkp _ (by omega))
    replace hap := hap.kept (hkp _ (by omega))
    refine lv_iconst (v := 1) hx hb dX6_strike_32 (by decide) ?_
    exact xr_zret hx hb hr rfl hlocks hS ⟨by rw [h8]; rfl, by unfold vSt; rw [if_pos h8, ix_nI (by omega)]; exact ⟨rs, tr, rt, ru, ly, n2, S2, hrt, hO, ⟨hTO, hcs, hap, hcb, Nat.lt_of_le_of_lt (Nat.sub_le _ _) hvb, hab, hbb⟩, hT, hRt, hLk, hSl, hP, hP2, hPr, hp1, hp2⟩⟩ dX6_strike_33
  · have h8 : isV vs0 v = false := b2i_0.mp h1
    refine lv_iconst (v := 0) hx hb dX6_strike_11 (by decide) ?_
    exact xr_zret hx hb hr rfl hlocks hS ⟨by rw [h8]; rfl, by unfold vSt; rw [if_neg (by rw [h8]; decide)]; exact hD⟩ dX6_strike_12
set_option maxHeartbeats 600000 in
set_option maxRecDepth 100000 in
theorem c_X6_approve (l : Launch) (g : WG) (H0 : Heap) (a : Nat) (c0 : Nat → Nat) (vs0 : Nat) (ap0 : Nat → Nat) (bu0 : Nat) (c : Nat → Nat) (vs : Nat) (ap : Nat → Nat) (bu : Nat) (n : Nat) (S : PSt) (ow : Int32) (tx : List Nat) (hD : DeskAt g H0 a c0 vs0 ap0 bu0 c vs ap bu n S ow tx) (v p : Int32) (y : Bool) : Ctr l (KK g) yX6_approve wsX6_approve { frames := 2, cells := 0, slots := 0, locals := 41 } [.ref a, .int v, .int p, .int (b2i y)] H0 eI (fun r H => r = b2i (oAp vs0 v p) ∧ DeskAt g H a c0 vs0 (aAp vs0 ap0 v p y) bu0 c vs ap bu n S ow tx) (fun q => a ≤ q ∧ q < a + 579) := by
  refine xr_enter (cc := cX6_approve) (maxL := 5) (ret := (some .boolean)) (by decide) rfl (Nat.le_of_ble_eq_true rfl) ?_
  intro pgm env s mid below meth cde hx hb hr hml hts hown hlocks hnm hH hK ls hl
  subst hH
  have hl : lv_has ls 5 [(0, .ref a), (1, .int v), (2, .int p), (3, .int (b2i y))] := hl
  have hS : va_S (fun q => a ≤ q ∧ q < a + 579) s.heap s.heap [] := va_S.rf
  obtain ⟨rs, tr, rt, ru, ly, n2, S2, hrt, hO, hT0, hT, hRt, hLk, hSl, hP, hP2, hPr, hp1, hp2⟩ := id hD
  refine lv_aload_n hx hb dX6_approve_0 rfl (lv_at hl 0 rfl) ?_
  refine va_get (D := g.1) (ci := 6) (v := .ref (a + 1)) (C := RX6) (T := TX6) (N := 7) hx hb hts (by decide +kernel) hown hK.1 (xr_one hO) 0 rfl rfl 0 (by decide) (hts (.fieldLink RX6 10 "SharesDesk" "town" "LSharesDesk$Town;") (by decide +kernel)) (fun _ h9 => h9) rfl dX6_approve_1 ?_
  refine lv_iload_n hx hb dX6_approve_4 rfl (lv_at hl 1 rfl) ?_
  refine xr_Vi (rest := []) ⟨hx, hb, hml, hown, hts⟩ (KK_ok g) hK (c_X5_hasVoter l g s.heap (a + 1) c0 vs0 ap0 bu0 hT0 v) (cwV 1 hts gX6_approve_X5_hasVoter rfl rfl rfl (by decide +kernel) ⟨Nat.le_of_ble_eq_true rfl, Nat.le_of_ble_eq_true rfl⟩) (xr_rec hK hT0.1 rfl) rfl hl.1 rfl (Nat.le_of_ble_eq_true rfl) dX6_approve_5 ⟨Nat.le_of_ble_eq_true rfl, Nat.le_of_ble_eq_true rfl⟩ hS (fun q h => h.elim) (fun r H locs hq hz hkp hS930 => ?_)
  obtain ⟨rfl, rfl⟩ := hq
  have hS := hS930
  refine lv_if_eq (tgt := 18) hx hb dX6_approve_8 (by decide) (fun h1 => ?_) (fun h1 => ?_)
  · have h8 : oAp vs0 v p = false := by unfold oAp; rw [show isV vs0 v = false from b2i_0.mp h1]; rfl
    refine lv_iconst (v := 0) hx hb dX6_approve_18 (by decide) ?_
    exact xr_zret hx hb hr rfl hlocks hS ⟨by rw [h8]; rfl, by unfold aAp; rw [if_neg (by rw [h8]; decide)]; exact hD⟩ dX6_approve_19
  · have h7 : isV vs0 v = true := b2i_n0.mp h1
    refine lv_iload_n hx hb dX6_approve_11 rfl (lv_at hl 2 rfl) ?_
    refine xr_Si (rest := []) ⟨hx, hb, hml, hown, hts⟩ (KK_ok g) hK (c_X6_isProjectNumber l g s.heap p) (cwS 1 hts gX6_approve_X6_isProjectNumber rfl rfl rfl (by decide +kernel) ⟨Nat.le_of_ble_eq_true rfl, Nat.le_of_ble_eq_true rfl⟩) rfl hl.1 rfl (Nat.le_of_ble_eq_true rfl) dX6_approve_12 ⟨Nat.le_of_ble_eq_true rfl, Nat.le_of_ble_eq_true rfl⟩ hS (fun q h => h.elim) (fun r H locs hq hz hkp hS931 => ?_)
    obtain ⟨rfl, rfl⟩ := hq
    have hS := hS931
    refine lv_if_ne (tgt := 20) hx hb dX6_approve_15 (by decide) (fun h2 => ?_) (fun h2 => ?_)
    · have h6 : inR p 16 = true := b2i_n0.mp h2
      have h8 : oAp vs0 v p = true := by unfold oAp; rw [h7, h6]; rfl
      have h78 : inR v 48 = true ∧ vs0.testBit (ix v) = true := by unfold isV at h7; exact Bool.and_eq_true_iff.mp h7
      obtain ⟨i, hi, rfl⟩ := inR_of h78.1 (by decide)
      obtain ⟨j, hj, rfl⟩ := inR_of h6 (by decide)
      obtain ⟨hTO, hcs, hap, hcb, hvb, hab, hbb⟩ := id hT0
      have hai := hab i hi
      refine lv_iconst (v := 1) hx hb dX6_approve_20 (by decide) ?_
      refine lv_iload_n hx hb dX6_approve_21 rfl (lv_at hl 2 rfl) ?_
      refine lv_ishl hx hb dX6_approve_22 ?_
      refine xr_ti (x' := nI (2 ^ j)) (sh1 j (by omega)) ?_
      refine lv_istore (lv' := [(4, .int (nI (2 ^ j))), (0, .ref a), (1, .int (nI i)), (2, .int (nI j)), (3, .int (b2i y))]) hx hb dX6_approve_23 hl (by decide) rfl (fun ls hl => ?_)
      refine lv_aload_n hx hb dX6_approve_25 rfl (lv_at hl 1 rfl) ?_
      refine va_get (D := g.1) (ci := 6) (v := .ref (a + 1)) (C := RX6) (T := TX6) (N := 7) hx hb hts (by decide +kernel) hown hK.1 (xr_one hO) 0 rfl rfl 0 (by decide) (hts (.fieldLink RX6 10 "SharesDesk" "town" "LSharesDesk$Town;") (by decide +kernel)) (fun _ h9 => h9) rfl dX6_approve_26 ?_
      refine va_get (D := g.1) (ci := 5) (v := .ref (a + 1 + 2)) (C := RX5) (T := TX5) (N := 4) hx hb hts (by decide +kernel) hown hK.1 (xr_one hTO) 0 rfl rfl 2 (by decide) (hts (.fieldLink RX6 79 "SharesDesk$Town" "approvals" "[I") (by decide +kernel)) (fun _ h9 => h9) rfl dX6_approve_29 ?_
      refine lv_iload_n hx hb dX6_approve_32 rfl (lv_at hl 2 rfl) ?_
      refine lv_iload_n hx hb dX6_approve_33 rfl (lv_at hl 4 rfl) ?_
      refine lv_if_eq (tgt := 52) hx hb dX6_approve_34 (by decide) (fun h3 => ?_) (fun h3 => ?_)
      · have hy := b2i_0.mp h3
        refine lv_aload_n hx hb dX6_approve_52 rfl (lv_at hl 1 rfl) ?_
        refine va_get (D := g.1) (ci := 6) (v := .ref (a + 1)) (C := RX6) (T := TX6) (N := 7) hx hb hts (by decide +kernel) hown hK.1 (xr_one hO) 0 rfl rfl 0 (by decide) (hts (.fieldLink RX6 10 "SharesDesk" "town" "LSharesDesk$Town;") (by decide +kernel)) (fun _ h9 => h9) rfl dX6_approve_53 ?_
        refine va_get (D := g.1) (ci := 5) (v := .ref (a + 1 + 2)) (C := RX5) (T := TX5) (N := 4) hx hb hts (by decide +kernel) hown hK.1 (xr_one hTO) 0 rfl rfl 2 (by decide) (hts (.fieldLink RX6 79 "SharesDesk$Town" "approvals" "[I") (by decide +kernel)) (fun _ h9 => h9) rfl dX6_approve_56 ?_
        refine lv_iload_n hx hb dX6_approve_59 rfl (lv_at hl 2 rfl) ?_
        refine xr_rd hx hb hK hap hi (by decide) dX6_approve_60 ?_
        refine lv_iload hx hb dX6_approve_61 (lv_at hl 0 rfl) ?_
        refine lv_iconst (v := (-1)) hx hb dX6_approve_63 (by decide) ?_
        refine lv_ixor hx hb dX6_approve_64 ?_
        refine lv_iand hx hb dX6_approve_65 ?_
        refine xr_ti (x' := nI (clrb (ap0 i) j)) (nI_clrb (by omega) (by omega)) ?_
        refine xr_wr hx hb hK hS (show a ≤ a + 1 + 2 ∧ a + 1 + 2 < a + 579 by omega) hap hi (by decide) dX6_approve_66 (fun H locs hz hkp hap hS => ?_)
        replace hO := hO.kept (hkp _ (by omega))
        replace hT := hT.kept (fun q hq1 hq2 hq3 => hkp q (by omega))
        replace hRt := hRt.kept (fun q hq1 hq2 hq3 => hkp q (by omega))
        replace hLk := hLk.kept (hkp _ (by omega)) (hkp _ (by omega))
        replace hSl := hSl.kept (fun q hq1 hq2 hq3 => hkp q (by omega))
        replace hP := hP.kept (fun q hq1 hq2 hq3 => hkp q (by omega))
        replace hP2 := hP2.kept (fun q hq1 hq2 hq3 => hkp q (by omega))
        replace hPr := hPr.kept (hkp _ (by omega)) (hkp _ (by omega))
        replace hTO := hTO.kept (hkp _ (by omega))
        replace hcs := hcs.kept (hkp _ (by omega))
        rw [ia_up] at hap
        refine lv_iconst (v := 1) hx hb dX6_approve_67 (by decide) ?_
        exact xr_zret hx hb hr rfl hlocks hS ⟨by rw [h8]; rfl, by unfold aAp; rw [if_pos h8, ix_nI (show i < 2 ^ 31 by omega), ix_nI (show j < 2 ^ 31 by omega), if_neg (by rw [hy]; decide)]; exact ⟨rs, tr, rt, ru, ly, n2, S2, hrt, hO, ⟨hTO, hcs, hap, hcb, hvb, va_up_all (P := fun _ z => z < 2 ^ 16) hab (Nat.lt_of_le_of_lt (clrb_le _ _) hai), hbb⟩, hT, hRt, hLk, hSl, hP, hP2, hPr, hp1, hp2⟩⟩ dX6_approve_68
      · have hy := b2i_n0.mp h3
        refine lv_aload_n hx hb dX6_approve_37 rfl (lv_at hl 1 rfl) ?_
        refine va_get (D := g.1) (ci := 6) (v := .ref (a + 1)) (C := RX6) (T := TX6) (N := 7) hx hb hts (by decide +kernel) hown hK.1 (xr_one hO) 0 rfl rfl 0 (by decide) (hts (.fieldLink RX6 10 "SharesDesk" "town" "LSharesDesk$Town;") (by decide +kernel)) (fun _ h9 => h9) rfl dX6_approve_38 ?_
        refine va_get (D := g.1) (ci := 5) (v := .ref (a + 1 + 2)) (C := RX5) (T := TX5) (N := 4) hx hb hts (by decide +kernel) hown hK.1 (xr_one hTO) 0 rfl rfl 2 (by decide) (hts (.fieldLink RX6 79 "SharesDesk$Town" "approvals" "[I") (by decide +kernel)) (fun _ h9 => h9) rfl dX6_approve_41 ?_
        refine lv_iload_n hx hb dX6_approve_44 rfl (lv_at hl 2 rfl) ?_
        refine xr_rd hx hb hK hap hi (by decide) dX6_approve_45 ?_
        refine lv_iload hx hb dX6_approve_46 (lv_at hl 0 rfl) ?_
        refine lv_ior hx hb dX6_approve_48 ?_
        refine xr_ti (x' := nI (ap0 i ||| 2 ^ j)) nI_or ?_
        refine lv_goto (tgt := 66) hx hb dX6_approve_49 (by decide) ?_
        refine xr_wr hx hb hK hS (show a ≤ a + 1 + 2 ∧ a + 1 + 2 < a + 579 by omega) hap hi (by decide) dX6_approve_66 (fun H locs hz hkp hap hS => ?_)
        replace hO := hO.kept (hkp _ (by omega))
        replace hT := hT.kept (fun q hq1 hq2 hq3 => hkp q (by omega))
        replace hRt := hRt.kept (fun q hq1 hq2 hq3 => hkp q (by omega))
        replace hLk := hLk.kept (hkp _ (by omega)) (hkp _ (by omega))
        replace hSl := hSl.kept (fun q hq1 hq2 hq3 => hkp q (by omega))
        replace hP := hP.kept (fun q hq1 hq2 hq3 => hkp q (by omega))
        replace hP2 := hP2.kept (fun q hq1 hq2 hq3 => hkp q (by omega))
        replace hPr := hPr.kept (hkp _ (by omega)) (hkp _ (by omega))
        replace hTO := hTO.kept (hkp _ (by omega))
        replace hcs := hcs.kept (hkp _ (by omega))
        rw [ia_up] at hap
        refine lv_iconst (v := 1) hx hb dX6_approve_67 (by decide) ?_
        exact xr_zret hx hb hr rfl hlocks hS ⟨by rw [h8]; rfl, by unfold aAp; rw [if_pos h8, ix_nI (show i < 2 ^ 31 by omega), ix_nI (show j < 2 ^ 31 by omega), if_pos hy]; exact ⟨rs, tr, rt, ru, ly, n2, S2, hrt, hO, ⟨hTO, hcs, hap, hcb, hvb, va_up_all (P := fun _ z => z < 2 ^ 16) hab (or_lt hai hj), hbb⟩, hT, hRt, hLk, hSl, hP, hP2, hPr, hp1, hp2⟩⟩ dX6_approve_68
    · have h8 : oAp vs0 v p = false := by unfold oAp; rw [show inR p 16 = false from b2i_0.mp h2]; exact Bool.and_false _
      refine lv_iconst (v := 0) hx hb dX6_approve_18 (by decide) ?_
      exact xr_zret hx hb hr rfl hlocks hS ⟨by rw [h8]; rfl, by unfold aAp; rw [if_neg (by rw [h8]; decide)]; exact hD⟩ dX6_approve_19
