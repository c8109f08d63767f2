set_option maxHeartbeats 400000 in
set_option maxRecDepth 100000 in
theorem c_X7_project (l : Launch) (g : WG) (H0 : Heap) (b : Nat) (th : Int32) (c0 : Nat → Nat) (vs0 : Nat) (ap0 : Nat → Nat) (bu0 : Nat) (c : Nat → Nat) (vs : Nat) (ap : Nat → Nat) (bu cn n : Nat) (Rw ord : Nat → Nat) (ch : Nat → Bool) (hD : ModAt g H0 b th c0 vs0 ap0 bu0 c vs ap bu cn n Rw ord ch) (p k : Int32) : Ctr l (KK g) yX7_project wsX7_project { frames := 1, cells := 0, slots := 0, locals := 22 } [.ref b, .int p, .int k] H0 eI (fun r H => r = b2i (oPj p k) ∧ ModAt g H b 0 (cPj c0 p k) vs0 ap0 bu0 c vs ap bu cn n Rw ord ch) (fun q => b ≤ q ∧ q < b + 12) := by
  refine xr_enter (cc := cX7_project) (maxL := 3) (ret := (some .boolean)) (by decide) rfl (Nat.le_of_ble_eq_true rfl) ?_
  intro pgm env s mid below meth cde hx hb hr hml hts hown hlocks hnm hH hK ls hl
  subst hH
  have hl : lv_has ls 3 [(0, .ref b), (1, .int p), (2, .int k)] := hl
  have hS : va_S (fun q => b ≤ q ∧ q < b + 12) s.heap s.heap [] := va_S.rf
  obtain ⟨py, ln, pf, tx, hO, hM, hNw, hOl, hOr, hI, hPo, hTx, hbl, hbh⟩ := id hD
  refine lv_aload_n hx hb dX7_project_0 rfl (lv_at hl 0 rfl) ?_
  refine lv_iconst (v := 0) hx hb dX7_project_1 (by decide) ?_
  refine xr_put (ci := 7) (v := .int 0) (ty := .int) (C := RX7) (T := TX7) (N := 18) hx hb hts (by decide +kernel) tyX7 tyX7_ok nmX7 hown hK.1 hO hS (show b ≤ b ∧ b < b + 12 by omega) rfl 0 (by decide) (hts (.fieldLink RX7 51 "SharesDeskModel" "thrown" "I") (by decide +kernel)) rfl (by decide +kernel) rfl rfl (Nat.le_of_ble_eq_true rfl) dX7_project_2 (fun H locs hz hkp hO hS => ?_)
  replace hM := hM.kept (hkp _ (by omega))
  replace hNw := hNw.kept (fun q hq1 hq2 hq3 => hkp q (by omega))
  replace hOl := hOl.kept (fun q hq1 hq2 hq3 => hkp q (by omega))
  replace hOr := hOr.kept (hkp _ (by omega))
  replace hI := hI.kept (hkp _ (by omega))
  replace hPo := hPo.kept (hkp _ (by omega))
  replace hTx := hTx.kept (hkp _ (by omega))
  refine lv_iload_n hx hb dX7_project_5 rfl (lv_at hl 1 rfl) ?_
  refine lv_iconst (v := 0) hx hb dX7_project_6 (by decide) ?_
  refine lv_bipush (v := 15) hx hb dX7_project_7 (by decide) ?_
  refine xr_Si (rest := []) ⟨hx, hb, hml, hown, hts⟩ (KK_ok g) hK (c_X7_within l g H p 0 15) (cwS 3 hts gX7_project_X7_within rfl rfl rfl (by decide +kernel) ⟨Nat.le_of_ble_eq_true rfl, Nat.le_of_ble_eq_true rfl⟩) rfl hl.1 rfl (Nat.le_of_ble_eq_true rfl) dX7_project_9 ⟨Nat.le_of_ble_eq_true rfl, Nat.le_of_ble_eq_true rfl⟩ hS (fun q h => h.elim) (fun r H locs hq hz hkp hS917 => ?_)
  obtain ⟨rfl, rfl⟩ := hq
  have hS := hS917
  refine xr_ti (x' := b2i (inR p 16)) (congrArg b2i (wi_in rfl)) ?_
  refine lv_if_eq (tgt := 25) hx hb dX7_project_12 (by decide) (fun h0 => ?_) (fun h0 => ?_)
  · have h9 := b2i_0.mp h0
    refine lv_iconst (v := 0) hx hb dX7_project_25 (by decide) ?_
    exact xr_zret hx hb hr rfl hlocks hS ⟨by rw [show oPj p k = false by unfold oPj; rw [h9]; simp]; rfl, by unfold cPj; rw [if_neg (by unfold oPj; rw [h9]; simp)]; exact ⟨py, ln, pf, tx, hO, hM, hNw, hOl, hOr, hI, hPo, hTx, hbl, hbh⟩⟩ dX7_project_26
  · have h9 := b2i_n0.mp h0
    refine lv_iload_n hx hb dX7_project_15 rfl (lv_at hl 2 rfl) ?_
    refine lv_iconst (v := 1) hx hb dX7_project_16 (by decide) ?_
    refine lv_ldc (v := (1000000)) hx hb hown (hts (.constant RX7 95 (1000000)) (by decide +kernel)) dX7_project_17 ?_
    refine xr_Si (rest := []) ⟨hx, hb, hml, hown, hts⟩ (KK_ok g) hK (c_X7_within l g H k 1 1000000) (cwS 3 hts gX7_project_X7_within rfl rfl rfl (by decide +kernel) ⟨Nat.le_of_ble_eq_true rfl, Nat.le_of_ble_eq_true rfl⟩) rfl hl.1 rfl (Nat.le_of_ble_eq_true rfl) dX7_project_19 ⟨Nat.le_of_ble_eq_true rfl, Nat.le_of_ble_eq_true rfl⟩ hS (fun q h => h.elim) (fun r H locs hq hz hkp hS918 => ?_)
    obtain ⟨rfl, rfl⟩ := hq
    have hS := hS918
    refine xr_ti (x' := b2i (rg k 1000000)) (congrArg b2i (wi_rg rfl)) ?_
    refine lv_if_ne (tgt := 27) hx hb dX7_project_22 (by decide) (fun h1 => ?_) (fun h1 => ?_)
    · have h8 : rg k 1000000 = true := b2i_n0.mp h1
      obtain ⟨i, hi, rfl⟩ := inR_of h9 (by decide)
      obtain ⟨j, hj1, hj2, hj3, rfl⟩ := rg_of h8
      obtain ⟨hNc, hNv, hNa, hcb, hab⟩ := id hNw
      refine lv_aload_n hx hb dX7_project_27 rfl (lv_at hl 0 rfl) ?_
      refine va_get (D := g.1) (ci := 7) (v := .ref (b + 2)) (C := RX7) (T := TX7) (N := 18) hx hb hts (by decide +kernel) hown hK.1 (xr_one hO) 0 rfl rfl 2 (by decide) (hts (.fieldLink RX7 13 "SharesDeskModel" "costs" "[I") (by decide +kernel)) (fun _ h9 => h9) rfl dX7_project_28 ?_
      refine lv_iload_n hx hb dX7_project_31 rfl (lv_at hl 1 rfl) ?_
      refine lv_iload_n hx hb dX7_project_32 rfl (lv_at hl 2 rfl) ?_
      refine xr_nwr hx hb hK hS (show b ≤ b + 2 ∧ b + 2 < b + 12 by omega) hNc hi (by decide) dX7_project_33 (fun H locs hz hkp hNc hS => ?_)
      replace hM := hM.kept (hkp _ (by omega))
      replace hO := hO.kept (hkp _ (by omega))
      replace hOl := hOl.kept (fun q hq1 hq2 hq3 => hkp q (by omega))
      replace hOr := hOr.kept (hkp _ (by omega))
      replace hI := hI.kept (hkp _ (by omega))
      replace hPo := hPo.kept (hkp _ (by omega))
      replace hTx := hTx.kept (hkp _ (by omega))
      replace hNv := hNv.kept (hkp _ (by omega))
      replace hNa := hNa.kept (hkp _ (by omega))
      refine lv_iconst (v := 1) hx hb dX7_project_34 (by decide) ?_
      have hok : oPj (nI i) (nI j) = true := by unfold oPj; rw [h9, h8]; rfl
      exact xr_zret hx hb hr rfl hlocks hS ⟨by rw [hok]; rfl, by unfold cPj; rw [if_pos hok, ix_nI (by omega), ix_nI hj3]; exact ⟨py, ln, pf, tx, hO, hM, ⟨hNc, hNv, hNa, va_up_all (P := fun _ z => z ≤ 1000000) hcb hj2, hab⟩, hOl, hOr, hI, hPo, hTx, hbl, hbh⟩⟩ dX7_project_35
    · have h8 : rg k 1000000 = false := b2i_0.mp h1
      refine lv_iconst (v := 0) hx hb dX7_project_25 (by decide) ?_
      exact xr_zret hx hb hr rfl hlocks hS ⟨by rw [show oPj p k = false by unfold oPj; rw [h8]; simp]; rfl, by unfold cPj; rw [if_neg (by unfold oPj; rw [h8]; simp)]; exact ⟨py, ln, pf, tx, hO, hM, hNw, hOl, hOr, hI, hPo, hTx, hbl, hbh⟩⟩ dX7_project_26
set_option maxHeartbeats 400000 in
set_option maxRecDepth 100000 in
theorem c_X7_drop (l : Launch) (g : WG) (H0 : Heap) (b : Nat) (th : Int32) (c0 : Nat → Nat) (vs0 : Nat) (ap0 : Nat → Nat) (bu0 : Nat) (c : Nat → Nat) (vs : Nat) (ap : Nat → Nat) (bu cn n : Nat) (Rw ord : Nat → Nat) (ch : Nat → Bool) (hD : ModAt g H0 b th c0 vs0 ap0 bu0 c vs ap bu cn n Rw ord ch) (p : Int32) : Ctr l (KK g) yX7_drop wsX7_drop { frames := 1, cells := 0, slots := 0, locals := 22 } [.ref b, .int p] H0 eI (fun r H => r = b2i (oDr c0 p) ∧ ModAt g H b 0 (cDr c0 p) vs0 ap0 bu0 c vs ap bu cn n Rw ord ch) (fun q => b ≤ q ∧ q < b + 12) := by
  refine xr_enter (cc := cX7_drop) (maxL := 2) (ret := (some .boolean)) (by decide) rfl (Nat.le_of_ble_eq_true rfl) ?_
  intro pgm env s mid below meth cde hx hb hr hml hts hown hlocks hnm hH hK ls hl
  subst hH
  have hl : lv_has ls 2 [(0, .ref b), (1, .int p)] := hl
  have hS : va_S (fun q => b ≤ q ∧ q < b + 12) s.heap s.heap [] := va_S.rf
  obtain ⟨py, ln, pf, tx, hO, hM, hNw, hOl, hOr, hI, hPo, hTx, hbl, hbh⟩ := id hD
  refine lv_aload_n hx hb dX7_drop_0 rfl (lv_at hl 0 rfl) ?_
  refine lv_iconst (v := 0) hx hb dX7_drop_1 (by decide) ?_
  refine xr_put (ci := 7) (v := .int 0) (ty := .int) (C := RX7) (T := TX7) (N := 18) hx hb hts (by decide +kernel) tyX7 tyX7_ok nmX7 hown hK.1 hO hS (show b ≤ b ∧ b < b + 12 by omega) rfl 0 (by decide) (hts (.fieldLink RX7 51 "SharesDeskModel" "thrown" "I") (by decide +kernel)) rfl (by decide +kernel) rfl rfl (Nat.le_of_ble_eq_true rfl) dX7_drop_2 (fun H locs hz hkp hO hS => ?_)
  replace hM := hM.kept (hkp _ (by omega))
  replace hNw := hNw.kept (fun q hq1 hq2 hq3 => hkp q (by omega))
  replace hOl := hOl.kept (fun q hq1 hq2 hq3 => hkp q (by omega))
  replace hOr := hOr.kept (hkp _ (by omega))
  replace hI := hI.kept (hkp _ (by omega))
  replace hPo := hPo.kept (hkp _ (by omega))
  replace hTx := hTx.kept (hkp _ (by omega))
  refine lv_iload_n hx hb dX7_drop_5 rfl (lv_at hl 1 rfl) ?_
  refine lv_iconst (v := 0) hx hb dX7_drop_6 (by decide) ?_
  refine lv_bipush (v := 15) hx hb dX7_drop_7 (by decide) ?_
  refine xr_Si (rest := []) ⟨hx, hb, hml, hown, hts⟩ (KK_ok g) hK (c_X7_within l g H p 0 15) (cwS 3 hts gX7_drop_X7_within rfl rfl rfl (by decide +kernel) ⟨Nat.le_of_ble_eq_true rfl, Nat.le_of_ble_eq_true rfl⟩) rfl hl.1 rfl (Nat.le_of_ble_eq_true rfl) dX7_drop_9 ⟨Nat.le_of_ble_eq_true rfl, Nat.le_of_ble_eq_true rfl⟩ hS (fun q h => h.elim) (fun r H locs hq hz hkp hS919 => ?_)
  obtain ⟨rfl, rfl⟩ := hq
  have hS := hS919
  refine xr_ti (x' := b2i (inR p 16)) (congrArg b2i (wi_in rfl)) ?_
  refine lv_if_eq (tgt := 24) hx hb dX7_drop_12 (by decide) (fun h0 => ?_) (fun h0 => ?_)
  · have h9 := b2i_0.mp h0
    refine lv_iconst (v := 0) hx hb dX7_drop_24 (by decide) ?_
    exact xr_zret hx hb hr rfl hlocks hS ⟨by rw [show oDr c0 _ = false by unfold oDr; rw [h9]; rfl]; rfl, by unfold cDr; rw [if_neg (by rw [show oDr c0 _ = false by unfold oDr; rw [h9]; rfl]; decide)]; exact ⟨py, ln, pf, tx, hO, hM, hNw, hOl, hOr, hI, hPo, hTx, hbl, hbh⟩⟩ dX7_drop_25
  · have h9 := b2i_n0.mp h0
    obtain ⟨i, hi, rfl⟩ := inR_of h9 (by decide)
    obtain ⟨hNc, hNv, hNa, hcb, hab⟩ := id hNw
    have hci := hcb i hi
    refine lv_aload_n hx hb dX7_drop_15 rfl (lv_at hl 0 rfl) ?_
    refine va_get (D := g.1) (ci := 7) (v := .ref (b + 2)) (C := RX7) (T := TX7) (N := 18) hx hb hts (by decide +kernel) hown hK.1 (xr_one hO) 0 rfl rfl 2 (by decide) (hts (.fieldLink RX7 13 "SharesDeskModel" "costs" "[I") (by decide +kernel)) (fun _ h9 => h9) rfl dX7_drop_16 ?_
    refine lv_iload_n hx hb dX7_drop_19 rfl (lv_at hl 1 rfl) ?_
    refine xr_rd hx hb hK hNc hi (by decide) dX7_drop_20 ?_
    refine lv_if_ne (tgt := 26) hx hb dX7_drop_21 (by decide) (fun h1 => ?_) (fun h1 => ?_)
    · have h8 : 0 < c0 i := Nat.pos_of_ne_zero fun q => h1 (by rw [q]; rfl)
      refine lv_aload_n hx hb dX7_drop_26 rfl (lv_at hl 0 rfl) ?_
      refine va_get (D := g.1) (ci := 7) (v := .ref (b + 2)) (C := RX7) (T := TX7) (N := 18) hx hb hts (by decide +kernel) hown hK.1 (xr_one hO) 0 rfl rfl 2 (by decide) (hts (.fieldLink RX7 13 "SharesDeskModel" "costs" "[I") (by decide +kernel)) (fun _ h9 => h9) rfl dX7_drop_27 ?_
      refine lv_iload_n hx hb dX7_drop_30 rfl (lv_at hl 1 rfl) ?_
      refine lv_iconst (v := 0) hx hb dX7_drop_31 (by decide) ?_
      refine xr_ti (x' := nI 0) rfl ?_
      refine xr_nwr hx hb hK hS (show b ≤ b + 2 ∧ b + 2 < b + 12 by omega) hNc hi (by decide) dX7_drop_32 (fun H locs hz hkp hNc hS => ?_)
      replace hM := hM.kept (hkp _ (by omega))
      replace hO := hO.kept (hkp _ (by omega))
      replace hOl := hOl.kept (fun q hq1 hq2 hq3 => hkp q (by omega))
      replace hOr := hOr.kept (hkp _ (by omega))
      replace hI := hI.kept (hkp _ (by omega))
      replace hPo := hPo.kept (hkp _ (by omega))
      replace hTx := hTx.kept (hkp _ (by omega))
      replace hNv := hNv.kept (hkp _ (by omega))
      replace hNa := hNa.kept (hkp _ (by omega))
      refine lv_iconst (v := 1) hx hb dX7_drop_33 (by decide) ?_
      have hok : oDr c0 (nI i) = true := by unfold oDr; rw [h9, ix_nI (by omega), decide_eq_true h8]; rfl
      exact xr_zret hx hb hr rfl hlocks hS ⟨by rw [hok]; rfl, by unfold cDr; rw [if_pos hok, ix_nI (by omega)]; exact ⟨py, ln, pf, tx, hO, hM, ⟨hNc, hNv, hNa, va_up_all (P := fun _ z => z ≤ 1000000) hcb (by omega), hab⟩, hOl, hOr, hI, hPo, hTx, hbl, hbh⟩⟩ dX7_drop_34
    · have h8 : ¬ 0 < c0 i := by have := (nI_inj (b := 0) (by omega) (by decide)).mp h1; omega
      refine lv_iconst (v := 0) hx hb dX7_drop_24 (by decide) ?_
      exact xr_zret hx hb hr rfl hlocks hS ⟨by rw [show oDr c0 _ = false by unfold oDr; rw [ix_nI (show i < 2 ^ 31 by omega), decide_eq_false h8, Bool.and_false]]; rfl, by unfold cDr; rw [if_neg (by rw [show oDr c0 _ = false by unfold oDr; rw [ix_nI (show i < 2 ^ 31 by omega), decide_eq_false h8, Bool.and_false]]; decide)]; exact ⟨py, ln, pf, tx, hO, hM, hNw, hOl, hOr, hI, hPo, hTx, hbl, hbh⟩⟩ dX7_drop_25
set_option maxHeartbeats 400000 in
set_option maxRecDepth 100000 in
theorem c_X7_budget (l : Launch) (g : WG) (H0 : Heap) (b : Nat) (th : Int32) (c0 : Nat → Nat) (vs0 : Nat) (ap0 : Nat → Nat) (bu0 : Nat) (c : Nat → Nat) (vs : Nat) (ap : Nat → Nat) (bu cn n : Nat) (Rw ord : Nat → Nat) (ch : Nat → Bool) (hD : ModAt g H0 b th c0 vs0 ap0 bu0 c vs ap bu cn n Rw ord ch) (k : Int32) : Ctr l (KK g) yX7_budget wsX7_budget { frames := 1, cells := 0, slots := 0, locals := 22 } [.ref b, .int k] H0 eI (fun r H => r = b2i (rg k 10000000) ∧ ModAt g H b 0 c0 vs0 ap0 (bBu bu0 k) c vs ap bu cn n Rw ord ch) (fun q => b ≤ q ∧ q < b + 12) := by
  refine xr_enter (cc := cX7_budget) (maxL := 2) (ret := (some .boolean)) (by decide) rfl (Nat.le_of_ble_eq_true rfl) ?_
  intro pgm env s mid below meth cde hx hb hr hml hts hown hlocks hnm hH hK ls hl
  subst hH
  have hl : lv_has ls 2 [(0, .ref b), (1, .int k)] := hl
  have hS : va_S (fun q => b ≤ q ∧ q < b + 12) s.heap s.heap [] := va_S.rf
  obtain ⟨py, ln, pf, tx, hO, hM, hNw, hOl, hOr, hI, hPo, hTx, hbl, hbh⟩ := id hD
  refine lv_aload_n hx hb dX7_budget_0 rfl (lv_at hl 0 rfl) ?_
  refine lv_iconst (v := 0) hx hb dX7_budget_1 (by decide) ?_
  refine xr_put (ci := 7) (v := .int 0) (ty := .int) (C := RX7) (T := TX7) (N := 18) hx hb hts (by decide +kernel) tyX7 tyX7_ok nmX7 hown hK.1 hO hS (show b ≤ b ∧ b < b + 12 by omega) rfl 0 (by decide) (hts (.fieldLink RX7 51 "SharesDeskModel" "thrown" "I") (by decide +kernel)) rfl (by decide +kernel) rfl rfl (Nat.le_of_ble_eq_true rfl) dX7_budget_2 (fun H locs hz hkp hO hS => ?_)
  replace hM := hM.kept (hkp _ (by omega))
  replace hNw := hNw.kept (fun q hq1 hq2 hq3 => hkp q (by omega))
  replace hOl := hOl.kept (fun q hq1 hq2 hq3 => hkp q (by omega))
  replace hOr := hOr.kept (hkp _ (by omega))
  replace hI := hI.kept (hkp _ (by omega))
  replace hPo := hPo.kept (hkp _ (by omega))
  replace hTx := hTx.kept (hkp _ (by omega))
  refine lv_iload_n hx hb dX7_budget_5 rfl (lv_at hl 1 rfl) ?_
  refine lv_iconst (v := 1) hx hb dX7_budget_6 (by decide) ?_
  refine lv_ldc (v := (10000000)) hx hb hown (hts (.constant RX7 96 (10000000)) (by decide +kernel)) dX7_budget_7 ?_
  refine xr_Si (rest := []) ⟨hx, hb, hml, hown, hts⟩ (KK_ok g) hK (c_X7_within l g H k 1 10000000) (cwS 3 hts gX7_budget_X7_within rfl rfl rfl (by decide +kernel) ⟨Nat.le_of_ble_eq_true rfl, Nat.le_of_ble_eq_true rfl⟩) rfl hl.1 rfl (Nat.le_of_ble_eq_true rfl) dX7_budget_9 ⟨Nat.le_of_ble_eq_true rfl, Nat.le_of_ble_eq_true rfl⟩ hS (fun q h => h.elim) (fun r H locs hq hz hkp hS920 => ?_)
  obtain ⟨rfl, rfl⟩ := hq
  have hS := hS920
  refine xr_ti (x' := b2i (rg k 10000000)) (congrArg b2i (wi_rg rfl)) ?_
  refine lv_if_ne (tgt := 17) hx hb dX7_budget_12 (by decide) (fun h0 => ?_) (fun h0 => ?_)
  · have h9 : rg k 10000000 = true := b2i_n0.mp h0
    obtain ⟨j, hj1, hj2, hj3, rfl⟩ := rg_of h9
    refine lv_aload_n hx hb dX7_budget_17 rfl (lv_at hl 0 rfl) ?_
    refine lv_iload_n hx hb dX7_budget_18 rfl (lv_at hl 1 rfl) ?_
    refine xr_put (ci := 7) (v := .int (nI j)) (ty := .int) (C := RX7) (T := TX7) (N := 18) hx hb hts (by decide +kernel) tyX7 tyX7_ok nmX7 hown hK.1 hO hS (show b ≤ b ∧ b < b + 12 by omega) rfl 5 (by decide) (hts (.fieldLink RX7 23 "SharesDeskModel" "budget" "I") (by decide +kernel)) rfl (by decide +kernel) rfl rfl (Nat.le_of_ble_eq_true rfl) dX7_budget_19 (fun H locs hz hkp hO hS => ?_)
    replace hM := hM.kept (hkp _ (by omega))
    replace hNw := hNw.kept (fun q hq1 hq2 hq3 => hkp q (by omega))
    replace hOl := hOl.kept (fun q hq1 hq2 hq3 => hkp q (by omega))
    replace hOr := hOr.kept (hkp _ (by omega))
    replace hI := hI.kept (hkp _ (by omega))
    replace hPo := hPo.kept (hkp _ (by omega))
    replace hTx := hTx.kept (hkp _ (by omega))
    refine lv_iconst (v := 1) hx hb dX7_budget_22 (by decide) ?_
    exact xr_zret hx hb hr rfl hlocks hS ⟨by rw [h9]; rfl, by unfold bBu; rw [if_pos h9, ix_nI hj3]; exact ⟨py, ln, pf, tx, hO, hM, hNw, hOl, hOr, hI, hPo, hTx, hj1, hj2⟩⟩ dX7_budget_23
  · have h9 : rg k 10000000 = false := b2i_0.mp h0
    refine lv_iconst (v := 0) hx hb dX7_budget_15 (by decide) ?_
    exact xr_zret hx hb hr rfl hlocks hS ⟨by rw [h9]; rfl, by unfold bBu; rw [if_neg (by rw [h9]; decide)]; exact ⟨py, ln, pf, tx, hO, hM, hNw, hOl, hOr, hI, hPo, hTx, hbl, hbh⟩⟩ dX7_budget_16
set_option maxHeartbeats 400000 in
set_option maxRecDepth 100000 in
theorem c_X7_voter (l : Launch) (g : WG) (H0 : Heap) (b : Nat) (th : Int32) (c0 : Nat → Nat) (vs0 : Nat) (ap0 : Nat → Nat) (bu0 : Nat) (c : Nat → Nat) (vs : Nat) (ap : Nat → Nat) (bu cn n : Nat) (Rw ord : Nat → Nat) (ch : Nat → Bool) (hD : ModAt g H0 b th c0 vs0 ap0 bu0 c vs ap bu cn n Rw ord ch) (v : Int32) : Ctr l (KK g) yX7_voter wsX7_voter { frames := 1, cells := 0, slots := 0, locals := 22 } [.ref b, .int v] H0 eI (fun r H => r = b2i (oVo vs0 v) ∧ ModAt g H b 0 c0 (vVo vs0 v) (aVo vs0 ap0 v) bu0 c vs ap bu cn n Rw ord ch) (fun q => b ≤ q ∧ q < b + 12) := by
  refine xr_enter (cc := cX7_voter) (maxL := 2) (ret := (some .boolean)) (by decide) rfl (Nat.le_of_ble_eq_true rfl) ?_
  intro pgm env s mid below meth cde hx hb hr hml hts hown hlocks hnm hH hK ls hl
  subst hH
  have hl : lv_has ls 2 [(0, .ref b), (1, .int v)] := hl
  have hS : va_S (fun q => b ≤ q ∧ q < b + 12) s.heap s.heap [] := va_S.rf
  obtain ⟨py, ln, pf, tx, hO, hM, hNw, hOl, hOr, hI, hPo, hTx, hbl, hbh⟩ := id hD
  refine lv_aload_n hx hb dX7_voter_0 rfl (lv_at hl 0 rfl) ?_
  refine lv_iconst (v := 0) hx hb dX7_voter_1 (by decide) ?_
  refine xr_put (ci := 7) (v := .int 0) (ty := .int) (C := RX7) (T := TX7) (N := 18) hx hb hts (by decide +kernel) tyX7 tyX7_ok nmX7 hown hK.1 hO hS (show b ≤ b ∧ b < b + 12 by omega) rfl 0 (by decide) (hts (.fieldLink RX7 51 "SharesDeskModel" "thrown" "I") (by decide +kernel)) rfl (by decide +kernel) rfl rfl (Nat.le_of_ble_eq_true rfl) dX7_voter_2 (fun H locs hz hkp hO hS => ?_)
  replace hM := hM.kept (hkp _ (by omega))
  replace hNw := hNw.kept (fun q hq1 hq2 hq3 => hkp q (by omega))
  replace hOl := hOl.kept (fun q hq1 hq2 hq3 => hkp q (by omega))
  replace hOr := hOr.kept (hkp _ (by omega))
  replace hI := hI.kept (hkp _ (by omega))
  replace hPo := hPo.kept (hkp _ (by omega))
  replace hTx := hTx.kept (hkp _ (by omega))
  refine lv_iload_n hx hb dX7_voter_5 rfl (lv_at hl 1 rfl) ?_
  refine lv_iconst (v := 0) hx hb dX7_voter_6 (by decide) ?_
  refine lv_bipush (v := 47) hx hb dX7_voter_7 (by decide) ?_
  refine xr_Si (rest := []) ⟨hx, hb, hml, hown, hts⟩ (KK_ok g) hK (c_X7_within l g H v 0 47) (cwS 3 hts gX7_voter_X7_within rfl rfl rfl (by decide +kernel) ⟨Nat.le_of_ble_eq_true rfl, Nat.le_of_ble_eq_true rfl⟩) rfl hl.1 rfl (Nat.le_of_ble_eq_true rfl) dX7_voter_9 ⟨Nat.le_of_ble_eq_true rfl, Nat.le_of_ble_eq_true rfl⟩ hS (fun q h => h.elim) (fun r H locs hq hz hkp hS921 => ?_)
  obtain ⟨rfl, rfl⟩ := hq
  have hS := hS921
  refine xr_ti (x' := b2i (inR v 48)) (congrArg b2i (wi_in rfl)) ?_
  refine lv_if_eq (tgt := 24) hx hb dX7_voter_12 (by decide) (fun h0 => ?_) (fun h0 => ?_)
  · have h9 := b2i_0.mp h0
    have hno : oVo vs0 v = false := by unfold oVo; rw [h9]; rfl
    refine lv_iconst (v := 0) hx hb dX7_voter_24 (by decide) ?_
    exact xr_zret hx hb hr rfl hlocks hS ⟨by rw [hno]; rfl, by unfold vVo aVo; rw [hno]; exact ⟨py, ln, pf, tx, hO, hM, hNw, hOl, hOr, hI, hPo, hTx, hbl, hbh⟩⟩ dX7_voter_25
  · have h9 := b2i_n0.mp h0
    obtain ⟨i, hi, rfl⟩ := inR_of h9 (by decide)
    obtain ⟨hNc, hNv, hNa, hcb, hab⟩ := id hNw
    refine lv_aload_n hx hb dX7_voter_15 rfl (lv_at hl 0 rfl) ?_
    refine va_get (D := g.1) (ci := 7) (v := .ref (b + 3)) (C := RX7) (T := TX7) (N := 18) hx hb hts (by decide +kernel) hown hK.1 (xr_one hO) 0 rfl rfl 3 (by decide) (hts (.fieldLink RX7 16 "SharesDeskModel" "voters" "[Z") (by decide +kernel)) (fun _ h9 => h9) rfl dX7_voter_16 ?_
    refine lv_iload_n hx hb dX7_voter_19 rfl (lv_at hl 1 rfl) ?_
    refine xr_zrd hx hb hK hNv hi (by decide) dX7_voter_20 ?_
    refine lv_if_eq (tgt := 26) hx hb dX7_voter_21 (by decide) (fun h1 => ?_) (fun h1 => ?_)
    · have h8 := b2i_0.mp h1
      refine lv_aload_n hx hb dX7_voter_26 rfl (lv_at hl 0 rfl) ?_
      refine va_get (D := g.1) (ci := 7) (v := .ref (b + 3)) (C := RX7) (T := TX7) (N := 18) hx hb hts (by decide +kernel) hown hK.1 (xr_one hO) 0 rfl rfl 3 (by decide) (hts (.fieldLink RX7 16 "SharesDeskModel" "voters" "[Z") (by decide +kernel)) (fun _ h9 => h9) rfl dX7_voter_27 ?_
      refine lv_iload_n hx hb dX7_voter_30 rfl (lv_at hl 1 rfl) ?_
      refine lv_iconst (v := 1) hx hb dX7_voter_31 (by decide) ?_
      refine xr_ti (x' := b2i true) rfl ?_
      refine xr_zwr hx hb hK hS (show b ≤ b + 3 ∧ b + 3 < b + 12 by omega) hNv hi (by decide) dX7_voter_32 (fun H locs hz hkp hNv hS => ?_)
      replace hM := hM.kept (hkp _ (by omega))
      replace hO := hO.kept (hkp _ (by omega))
      replace hOl := hOl.kept (fun q hq1 hq2 hq3 => hkp q (by omega))
      replace hOr := hOr.kept (hkp _ (by omega))
      replace hI := hI.kept (hkp _ (by omega))
      replace hPo := hPo.kept (hkp _ (by omega))
      replace hTx := hTx.kept (hkp _ (by omega))
      replace hNc := hNc.kept (hkp _ (by omega))
      replace hNa := hNa.kept (hkp _ (by omega))
      refine lv_aload_n hx hb dX7_voter_33 rfl (lv_at hl 0 rfl) ?_
      refine va_get (D := g.1) (ci := 7) (v := .ref (b + 4)) (C := RX7) (T := TX7) (N := 18) hx hb hts (by decide +kernel) hown hK.1 (xr_one hO) 0 rfl rfl 4 (by decide) (hts (.fieldLink RX7 20 "SharesDeskModel" "wishes" "[I") (by decide +kernel)) (fun _ h9 => h9) rfl dX7_voter_34 ?_
      refine lv_iload_n hx hb dX7_voter_37 rfl (lv_at hl 1 rfl) ?_
      refine lv_iconst (v := 0) hx hb dX7_voter_38 (by decide) ?_
      refine xr_ti (x' := nI 0) rfl ?_
      refine xr_nwr hx hb hK hS (show b ≤ b + 4 ∧ b + 4 < b + 12 by omega) hNa hi (by decide) dX7_voter_39 (fun H locs hz hkp hNa hS => ?_)
      replace hM := hM.kept (hkp _ (by omega))
      replace hO := hO.kept (hkp _ (by omega))
      replace hOl := hOl.kept (fun q hq1 hq2 hq3 => hkp q (by omega))
      replace hOr := hOr.kept (hkp _ (by omega))
      replace hI := hI.kept (hkp _ (by omega))
      replace hPo := hPo.kept (hkp _ (by omega))
      replace hTx := hTx.kept (hkp _ (by omega))
      replace hNc := hNc.kept (hkp _ (by omega))
      replace hNv := hNv.kept (hkp _ (by omega))
      refine lv_iconst (v := 1) hx hb dX7_voter_40 (by decide) ?_
      have hok : oVo vs0 (nI i) = true := by unfold oVo; rw [h9, ix_nI (by omega), h8]; rfl
      exact xr_zret hx hb hr rfl hlocks hS ⟨by rw [hok]; rfl, by unfold vVo aVo; rw [if_pos hok, if_pos hok, ix_nI (by omega)]; exact ⟨py, ln, pf, tx, hO, hM, ⟨hNc, hNv.to (fun z _ => by rw [bits_or]), hNa, hcb, va_up_all (P := fun _ z => z < 2 ^ 16) hab (by decide)⟩, hOl, hOr, hI, hPo, hTx, hbl, hbh⟩⟩ dX7_voter_41
    · have h8 := b2i_n0.mp h1
      have hno : oVo vs0 (nI i) = false := by unfold oVo; rw [h9, ix_nI (by omega), h8]; rfl
      refine lv_iconst (v := 0) hx hb dX7_voter_24 (by decide) ?_
      exact xr_zret hx hb hr rfl hlocks hS ⟨by rw [hno]; rfl, by unfold vVo aVo; rw [hno]; exact ⟨py, ln, pf, tx, hO, hM, hNw, hOl, hOr, hI, hPo, hTx, hbl, hbh⟩⟩ dX7_voter_25
set_option maxHeartbeats 400000 in
set_option maxRecDepth 100000 in
theorem c_X7_strike (l : Launch) (g : WG) (H0 : Heap) (b : Nat) (th : Int32) (c0 : Nat → Nat) (vs0 : Nat) (ap0 : Nat → Nat) (bu0 : Nat) (c : Nat → Nat) (vs : Nat) (ap : Nat → Nat) (bu cn n : Nat) (Rw ord : Nat → Nat) (ch : Nat → Bool) (hD : ModAt g H0 b th c0 vs0 ap0 bu0 c vs ap bu cn n Rw ord ch) (v : Int32) : Ctr l (KK g) yX7_strike wsX7_strike { frames := 1, cells := 0, slots := 0, locals := 22 } [.ref b, .int v] H0 eI (fun r H => r = b2i (isV vs0 v) ∧ ModAt g H b 0 c0 (vSt vs0 v) ap0 bu0 c vs ap bu cn n Rw ord ch) (fun q => b ≤ q ∧ q < b + 12) := by
  refine xr_enter (cc := cX7_strike) (maxL := 2) (ret := (some .boolean)) (by decide) rfl (Nat.le_of_ble_eq_true rfl) ?_
  intro pgm env s mid below meth cde hx hb hr hml hts hown hlocks hnm hH hK ls hl
  subst hH
  have hl : lv_has ls 2 [(0, .ref b), (1, .int v)] := hl
  have hS : va_S (fun q => b ≤ q ∧ q < b + 12) s.heap s.heap [] := va_S.rf
  obtain ⟨py, ln, pf, tx, hO, hM, hNw, hOl, hOr, hI, hPo, hTx, hbl, hbh⟩ := id hD
  refine lv_aload_n hx hb dX7_strike_0 rfl (lv_at hl 0 rfl) ?_
  refine lv_iconst (v := 0) hx hb dX7_strike_1 (by decide) ?_
  refine xr_put (ci := 7) (v := .int 0) (ty := .int) (C := RX7) (T := TX7) (N := 18) hx hb hts (by decide +kernel) tyX7 tyX7_ok nmX7 hown hK.1 hO hS (show b ≤ b ∧ b < b + 12 by omega) rfl 0 (by decide) (hts (.fieldLink RX7 51 "SharesDeskModel" "thrown" "I") (by decide +kernel)) rfl (by decide +kernel) rfl rfl (Nat.le_of_ble_eq_true rfl) dX7_strike_2 (fun H locs hz hkp hO hS => ?_)
  replace hM := hM.kept (hkp _ (by omega))
  replace hNw := hNw.kept (fun q hq1 hq2 hq3 => hkp q (by omega))
  replace hOl := hOl.kept (fun q hq1 hq2 hq3 => hkp q (by omega))
  replace hOr := hOr.kept (hkp _ (by omega))
  replace hI := hI.kept (hkp _ (by omega))
  replace hPo := hPo.kept (hkp _ (by omega))
  replace hTx := hTx.kept (hkp _ (by omega))
  refine lv_iload_n hx hb dX7_strike_5 rfl (lv_at hl 1 rfl) ?_
  refine lv_iconst (v := 0) hx hb dX7_strike_6 (by decide) ?_
  refine lv_bipush (v := 47) hx hb dX7_strike_7 (by decide) ?_
  refine xr_Si (rest := []) ⟨hx, hb, hml, hown, hts⟩ (KK_ok g) hK (c_X7_within l g H v 0 47) (cwS 3 hts gX7_strike_X7_within rfl rfl rfl (by decide +kernel) ⟨Nat.le_of_ble_eq_true rfl, Nat.le_of_ble_eq_true rfl⟩) rfl hl.1 rfl (Nat.le_of_ble_eq_true rfl) dX7_strike_9 ⟨Nat.le_of_ble_eq_true rfl, Nat.le_of_ble_eq_true rfl⟩ hS (fun q h => h.elim) (fun r H locs hq hz hkp hS922 => ?_)
  obtain ⟨rfl, rfl⟩ := hq
  have hS := hS922
  refine xr_ti (x' := b2i (inR v 48)) (congrArg b2i (wi_in rfl)) ?_
  refine lv_if_eq (tgt := 24) hx hb dX7_strike_12 (by decide) (fun h0 => ?_) (fun h0 => ?_)
  · have h9 := b2i_0.mp h0
    have hno : isV vs0 v = false := by unfold isV; rw [h9]; rfl
    refine lv_iconst (v := 0) hx hb dX7_strike_24 (by decide) ?_
    exact xr_zret hx hb hr rfl hlocks hS ⟨by rw [hno]; rfl, by unfold vSt; rw [hno]; exact ⟨py, ln, pf, tx, hO, hM, hNw, hOl, hOr, hI, hPo, hTx, hbl, hbh⟩⟩ dX7_strike_25
  · have h9 := b2i_n0.mp h0
    obtain ⟨i, hi, rfl⟩ := inR_of h9 (by decide)
    obtain ⟨hNc, hNv, hNa, hcb, hab⟩ := id hNw
    refine lv_aload_n hx hb dX7_strike_15 rfl (lv_at hl 0 rfl) ?_
    refine va_get (D := g.1) (ci := 7) (v := .ref (b + 3)) (C := RX7) (T := TX7) (N := 18) hx hb hts (by decide +kernel) hown hK.1 (xr_one hO) 0 rfl rfl 3 (by decide) (hts (.fieldLink RX7 16 "SharesDeskModel" "voters" "[Z") (by decide +kernel)) (fun _ h9 => h9) rfl dX7_strike_16 ?_
    refine lv_iload_n hx hb dX7_strike_19 rfl (lv_at hl 1 rfl) ?_
    refine xr_zrd hx hb hK hNv hi (by decide) dX7_strike_20 ?_
    refine lv_if_ne (tgt := 26) hx hb dX7_strike_21 (by decide) (fun h1 => ?_) (fun h1 => ?_)
    · have h8 : vs0.testBit i = true := b2i_n0.mp h1
      refine lv_aload_n hx hb dX7_strike_26 rfl (lv_at hl 0 rfl) ?_
      refine va_get (D := g.1) (ci := 7) (v := .ref (b + 3)) (C := RX7) (T := TX7) (N := 18) hx hb hts (by decide +kernel) hown hK.1 (xr_one hO) 0 rfl rfl 3 (by decide) (hts (.fieldLink RX7 16 "SharesDeskModel" "voters" "[Z") (by decide +kernel)) (fun _ h9 => h9) rfl dX7_strike_27 ?_
      refine lv_iload_n hx hb dX7_strike_30 rfl (lv_at hl 1 rfl) ?_
      refine lv_iconst (v := 0) hx hb dX7_strike_31 (by decide) ?_
      refine xr_ti (x' := b2i false) rfl ?_
      refine xr_zwr hx hb hK hS (show b ≤ b + 3 ∧ b + 3 < b + 12 by omega) hNv hi (by decide) dX7_strike_32 (fun H locs hz hkp hNv hS => ?_)
      replace hM := hM.kept (hkp _ (by omega))
      replace hO := hO.kept (hkp _ (by omega))
      replace hOl := hOl.kept (fun q hq1 hq2 hq3 => hkp q (by omega))
      replace hOr := hOr.kept (hkp _ (by omega))
      replace hI := hI.kept (hkp _ (by omega))
      replace hPo := hPo.kept (hkp _ (by omega))
      replace hTx := hTx.kept (hkp _ (by omega))
      replace hNc := hNc.kept (hkp _ (by omega))
      replace hNa := hNa.kept (hkp _ (by omega))
      refine lv_iconst (v := 1) hx hb dX7_strike_33 (by decide) ?_
      have hok : isV vs0 (nI i) = true := by unfold isV; rw [h9, ix_nI (by omega), h8]; rfl
      exact xr_zret hx hb hr rfl hlocks hS ⟨by rw [hok]; rfl, by unfold vSt; rw [if_pos hok, ix_nI (by omega)]; exact ⟨py, ln, pf, tx, hO, hM, ⟨hNc, hNv.to (fun z _ => by rw [bits_clr h8]), hNa, hcb, hab⟩, hOl, hOr, hI, hPo, hTx, hbl, hbh⟩⟩ dX7_strike_34
    · have h8 : vs0.testBit i = false := b2i_0.mp h1
      have hno : isV vs0 (nI i) = false := by unfold isV; rw [h9, ix_nI (by omega), h8]; rfl
      refine lv_iconst (v := 0) hx hb dX7_strike_24 (by decide) ?_
      exact xr_zret hx hb hr rfl hlocks hS ⟨by rw [hno]; rfl, by unfold vSt; rw [hno]; exact ⟨py, ln, pf, tx, hO, hM, hNw, hOl, hOr, hI, hPo, hTx, hbl, hbh⟩⟩ dX7_strike_25
set_option maxHeartbeats 400000 in
set_option maxRecDepth 100000 in
theorem c_X7_approve (l : Launch) (g : WG) (H0 : Heap) (b : Nat) (th : Int32) (c0 : Nat → Nat) (vs0 : Nat) (ap0 : Nat → Nat) (bu0 : Nat) (c : Nat → Nat) (vs : Nat) (ap : Nat → Nat) (bu cn n : Nat) (Rw ord : Nat → Nat) (ch : Nat → Bool) (hD : ModAt g H0 b th c0 vs0 ap0 bu0 c vs ap bu cn n Rw ord ch) (v p : Int32) (y9 : Bool) : Ctr l (KK g) yX7_approve wsX7_approve { frames := 1, cells := 0, slots := 0, locals := 22 } [.ref b, .int v, .int p, .int (b2i y9)] H0 eI (fun r H => r = b2i (oAp vs0 v p) ∧ ModAt g H b 0 c0 vs0 (aAp vs0 ap0 v p y9) bu0 c vs ap bu cn n Rw ord ch) (fun q => b ≤ q ∧ q < b + 12) := by
  refine xr_enter (cc := cX7_approve) (maxL := 4) (ret := (some .boolean)) (by decide) rfl (Nat.le_of_ble_eq_true rfl) ?_
  intro pgm env s mid below meth cde hx hb hr hml hts hown hlocks hnm hH hK ls hl
  subst hH
  have hl : lv_has ls 4 [(0, .ref b), (1, .int v), (2, .int p), (3, .int (b2i y9))] := hl
  have hS : va_S (fun q => b ≤ q ∧ q < b + 12) s.heap s.heap [] := va_S.rf
  obtain ⟨py, ln, pf, tx, hO, hM, hNw, hOl, hOr, hI, hPo, hTx, hbl, hbh⟩ := id hD
  refine lv_aload_n hx hb dX7_approve_0 rfl (lv_at hl 0 rfl) ?_
  refine lv_iconst (v := 0) hx hb dX7_approve_1 (by decide) ?_
  refine xr_put (ci := 7) (v := .int 0) (ty := .int) (C := RX7) (T := TX7) (N := 18) hx hb hts (by decide +kernel) tyX7 tyX7_ok nmX7 hown hK.1 hO hS (show b ≤ b ∧ b < b + 12 by omega) rfl 0 (by decide) (hts (.fieldLink RX7 51 "SharesDeskModel" "thrown" "I") (by decide +kernel)) rfl (by decide +kernel) rfl rfl (Nat.le_of_ble_eq_true rfl) dX7_approve_2 (fun H locs hz hkp hO hS => ?_)
  replace hM := hM.kept (hkp _ (by omega))
  replace hNw := hNw.kept (fun q hq1 hq2 hq3 => hkp q (by omega))
  replace hOl := hOl.kept (fun q hq1 hq2 hq3 => hkp q (by omega))
  replace hOr := hOr.kept (hkp _ (by omega))
  replace hI := hI.kept (hkp _ (by omega))
  replace hPo := hPo.kept (hkp _ (by omega))
  replace hTx := hTx.kept (hkp _ (by omega))
  refine lv_iload_n hx hb dX7_approve_5 rfl (lv_at hl 1 rfl) ?_
  refine lv_iconst (v := 0) hx hb dX7_approve_6 (by decide) ?_
  refine lv_bipush (v := 47) hx hb dX7_approve_7 (by decide) ?_
  refine xr_Si (rest := []) ⟨hx, hb, hml, hown, hts⟩ (KK_ok g) hK (c_X7_within l g H v 0 47) (cwS 3 hts gX7_approve_X7_within rfl rfl rfl (by decide +kernel) ⟨Nat.le_of_ble_eq_true rfl, Nat.le_of_ble_eq_true rfl⟩) rfl hl.1 rfl (Nat.le_of_ble_eq_true rfl) dX7_approve_9 ⟨Nat.le_of_ble_eq_true rfl, Nat.le_of_ble_eq_true rfl⟩ hS (fun q h => h.elim) (fun r H locs hq hz hkp hS923 => ?_)
  obtain ⟨rfl, rfl⟩ := hq
  have hS := hS923
  refine xr_ti (x' := b2i (inR v 48)) (congrArg b2i (wi_in rfl)) ?_
  refine lv_if_eq (tgt := 34) hx hb dX7_approve_12 (by decide) (fun h0 => ?_) (fun h0 => ?_)
  · have h9 := b2i_0.mp h0
    have hno : oAp vs0 v p = false := by unfold oAp isV; rw [h9]; rfl
    refine lv_iconst (v := 0) hx hb dX7_approve_34 (by decide) ?_
    exact xr_zret hx hb hr rfl hlocks hS ⟨by rw [hno]; rfl, by unfold aAp; rw [hno]; exact ⟨py, ln, pf, tx, hO, hM, hNw, hOl, hOr, hI, hPo, hTx, hbl, hbh⟩⟩ dX7_approve_35
  · have h9 := b2i_n0.mp h0
    obtain ⟨i, hi, rfl⟩ := inR_of h9 (by decide)
    obtain ⟨hNc, hNv, hNa, hcb, hab⟩ := id hNw
    refine lv_aload_n hx hb dX7_approve_15 rfl (lv_at hl 0 rfl) ?_
    refine va_get (D := g.1) (ci := 7) (v := .ref (b + 3)) (C := RX7) (T := TX7) (N := 18) hx hb hts (by decide +kernel) hown hK.1 (xr_one hO) 0 rfl rfl 3 (by decide) (hts (.fieldLink RX7 16 "SharesDeskModel" "voters" "[Z") (by decide +kernel)) (fun _ h9 => h9) rfl dX7_approve_16 ?_
    refine lv_iload_n hx hb dX7_approve_19 rfl (lv_at hl 1 rfl) ?_
    refine xr_zrd hx hb hK hNv hi (by decide) dX7_approve_20 ?_
    refine lv_if_eq (tgt := 34) hx hb dX7_approve_21 (by decide) (fun h1 => ?_) (fun h1 => ?_)
    · have h8 : vs0.testBit i = false := b2i_0.mp h1
      have hno : oAp vs0 (nI i) p = false := by unfold oAp isV; rw [h9, ix_nI (by omega), h8]; rfl
      refine lv_iconst (v := 0) hx hb dX7_approve_34 (by decide) ?_
      exact xr_zret hx hb hr rfl hlocks hS ⟨by rw [hno]; rfl, by unfold aAp; rw [hno]; exact ⟨py, ln, pf, tx, hO, hM, hNw, hOl, hOr, hI, hPo, hTx, hbl, hbh⟩⟩ dX7_approve_35
    · have h8 : vs0.testBit i = true := b2i_n0.mp h1
      refine lv_iload_n hx hb dX7_approve_24 rfl (lv_at hl 2 rfl) ?_
      refine lv_iconst (v := 0) hx hb dX7_approve_25 (by decide) ?_
      refine lv_bipush (v := 15) hx hb dX7_approve_26 (by decide) ?_
      refine xr_Si (rest := []) ⟨hx, hb, hml, hown, hts⟩ (KK_ok g) hK (c_X7_within l g H p 0 15) (cwS 3 hts gX7_approve_X7_within rfl rfl rfl (by decide +kernel) ⟨Nat.le_of_ble_eq_true rfl, Nat.le_of_ble_eq_true rfl⟩) rfl hl.1 rfl (Nat.le_of_ble_eq_true rfl) dX7_approve_28 ⟨Nat.le_of_ble_eq_true rfl, Nat.le_of_ble_eq_true rfl⟩ hS (fun q h => h.elim) (fun r H locs hq hz hkp hS924 => ?_)
      obtain ⟨rfl, rfl⟩ := hq
      have hS := hS924
      refine xr_ti (x' := b2i (inR p 16)) (congrArg b2i (wi_in rfl)) ?_
      refine lv_if_ne (tgt := 36) hx hb dX7_approve_31 (by decide) (fun h2 => ?_) (fun h2 => ?_)
      · have h7 : inR p 16 = true := b2i_n0.mp h2
        obtain ⟨j, hj, rfl⟩ := inR_of h7 (by decide)
        have hai := hab i hi
        have hok : oAp vs0 (nI i) (nI j) = true := by unfold oAp isV; rw [h9, ix_nI (by omega), h8, h7]; rfl
        refine lv_aload_n hx hb dX7_approve_36 rfl (lv_at hl 0 rfl) ?_
        refine va_get (D := g.1) (ci := 7) (v := .ref (b + 4)) (C := RX7) (T := TX7) (N := 18) hx hb hts (by decide +kernel) hown hK.1 (xr_one hO) 0 rfl rfl 4 (by decide) (hts (.fieldLink RX7 20 "SharesDeskModel" "wishes" "[I") (by decide +kernel)) (fun _ h9 => h9) rfl dX7_approve_37 ?_
        refine lv_iload_n hx hb dX7_approve_40 rfl (lv_at hl 1 rfl) ?_
        refine lv_iload_n hx hb dX7_approve_41 rfl (lv_at hl 3 rfl) ?_
        refine lv_if_eq (tgt := 58) hx hb dX7_approve_42 (by decide) (fun h3 => ?_) (fun h3 => ?_)
        · have hy : y9 = false := b2i_0.mp h3
          refine lv_aload_n hx hb dX7_approve_58 rfl (lv_at hl 0 rfl) ?_
          refine va_get (D := g.1) (ci := 7) (v := .ref (b + 4)) (C := RX7) (T := TX7) (N := 18) hx hb hts (by decide +kernel) hown hK.1 (xr_one hO) 0 rfl rfl 4 (by decide) (hts (.fieldLink RX7 20 "SharesDeskModel" "wishes" "[I") (by decide +kernel)) (fun _ h9 => h9) rfl dX7_approve_59 ?_
          refine lv_iload_n hx hb dX7_approve_62 rfl (lv_at hl 1 rfl) ?_
          refine xr_rd hx hb hK hNa hi (by decide) dX7_approve_63 ?_
          refine lv_iconst (v := 1) hx hb dX7_approve_64 (by decide) ?_
          refine lv_iload_n hx hb dX7_approve_65 rfl (lv_at hl 2 rfl) ?_
          refine lv_ishl hx hb dX7_approve_66 ?_
          refine xr_ti (x' := nI (2 ^ j)) (sh1 j (by omega)) ?_
          refine lv_iconst (v := (-1)) hx hb dX7_approve_67 (by decide) ?_
          refine lv_ixor hx hb dX7_approve_68 ?_
          refine lv_iand hx hb dX7_approve_69 ?_
          refine xr_ti (x' := nI (clrb (ap0 i) j)) (nI_clrb (by omega) (by omega)) ?_
          refine xr_nwr hx hb hK hS (show b ≤ b + 4 ∧ b + 4 < b + 12 by omega) hNa hi (by decide) dX7_approve_70 (fun H locs hz hkp hNa hS => ?_)
          replace hM := hM.kept (hkp _ (by omega))
          replace hO := hO.kept (hkp _ (by omega))
          replace hOl := hOl.kept (fun q hq1 hq2 hq3 => hkp q (by omega))
          replace hOr := hOr.kept (hkp _ (by omega))
          replace hI := hI.kept (hkp _ (by omega))
          replace hPo := hPo.kept (hkp _ (by omega))
          replace hTx := hTx.kept (hkp _ (by omega))
          replace hNc := hNc.kept (hkp _ (by omega))
          replace hNv := hNv.kept (hkp _ (by omega))
          refine lv_iconst (v := 1) hx hb dX7_approve_71 (by decide) ?_
          exact xr_zret hx hb hr rfl hlocks hS ⟨by rw [hok]; rfl, by unfold aAp; rw [if_pos hok, ix_nI (show i < 2 ^ 31 by omega), ix_nI (show j < 2 ^ 31 by omega), hy, if_neg (by decide)]; exact ⟨py, ln, pf, tx, hO, hM, ⟨hNc, hNv, hNa, hcb, va_up_all (P := fun _ z => z < 2 ^ 16) hab (Nat.lt_of_le_of_lt (clrb_le _ _) hai)⟩, hOl, hOr, hI, hPo, hTx, hbl, hbh⟩⟩ dX7_approve_72
        · have hy : y9 = true := b2i_n0.mp h3
          refine lv_aload_n hx hb dX7_approve_45 rfl (lv_at hl 0 rfl) ?_
          refine va_get (D := g.1) (ci := 7) (v := .ref (b + 4)) (C := RX7) (T := TX7) (N := 18) hx hb hts (by decide +kernel) hown hK.1 (xr_one hO) 0 rfl rfl 4 (by decide) (hts (.fieldLink RX7 20 "SharesDeskModel" "wishes" "[I") (by decide +kernel)) (fun _ h9 => h9) rfl dX7_approve_46 ?_
          refine lv_iload_n hx hb dX7_approve_49 rfl (lv_at hl 1 rfl) ?_
          refine xr_rd hx hb hK hNa hi (by decide) dX7_approve_50 ?_
          refine lv_iconst (v := 1) hx hb dX7_approve_51 (by decide) ?_
          refine lv_iload_n hx hb dX7_approve_52 rfl (lv_at hl 2 rfl) ?_
          refine lv_ishl hx hb dX7_approve_53 ?_
          refine xr_ti (x' := nI (2 ^ j)) (sh1 j (by omega)) ?_
          refine lv_ior hx hb dX7_approve_54 ?_
          refine xr_ti (x' := nI (ap0 i ||| 2 ^ j)) (nI_or) ?_
          refine lv_goto (tgt := 70) hx hb dX7_approve_55 (by decide) ?_
          refine xr_nwr hx hb hK hS (show b ≤ b + 4 ∧ b + 4 < b + 12 by omega) hNa hi (by decide) dX7_approve_70 (fun H locs hz hkp hNa hS => ?_)
          replace hM := hM.kept (hkp _ (by omega))
          replace hO := hO.kept (hkp _ (by omega))
          replace hOl := hOl.kept (fun q hq1 hq2 hq3 => hkp q (by omega))
          replace hOr := hOr.kept (hkp _ (by omega))
          replace hI := hI.kept (hkp _ (by omega))
          replace hPo := hPo.kept (hkp _ (by omega))
          replace hTx := hTx.kept (hkp _ (by omega))
          replace hNc := hNc.kept (hkp _ (by omega))
          replace hNv := hNv.kept (hkp _ (by omega))
          refine lv_iconst (v := 1) hx hb dX7_approve_71 (by decide) ?_
          exact xr_zret hx hb hr rfl hlocks hS ⟨by rw [hok]; rfl, by unfold aAp; rw [if_pos hok, ix_nI (show i < 2 ^ 31 by omega), ix_nI (show j < 2 ^ 31 by omega), hy, if_pos rfl]; exact ⟨py, ln, pf, tx, hO, hM, ⟨hNc, hNv, hNa, hcb, va_up_all (P := fun _ z => z < 2 ^ 16) hab (or_lt hai hj)⟩, hOl, hOr, hI, hPo, hTx, hbl, hbh⟩⟩ dX7_approve_72
      · have h7 : inR p 16 = false := b2i_0.mp h2
        have hno : oAp vs0 (nI i) p = false := by unfold oAp isV; rw [h7, Bool.and_false]
        refine lv_iconst (v := 0) hx hb dX7_approve_34 (by decide) ?_
        exact xr_zret hx hb hr rfl hlocks hS ⟨by rw [hno]; rfl, by unfold aAp; rw [hno]; exact ⟨py, ln, pf, tx, hO, hM, hNw, hOl, hOr, hI, hPo, hTx, hbl, hbh⟩⟩ dX7_approve_35
