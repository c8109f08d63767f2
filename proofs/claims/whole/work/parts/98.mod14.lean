set_option maxHeartbeats 1000000 in
set_option maxRecDepth 100000 in
theorem c_X7_init (l : Launch) (g : WG) (H0 : Heap) (b : Nat) (hO : obj g H0 b 7 [.int 0, .null, .null, .null, .null, .int 0, .null, .null, .null, .int 0, .int 0, .int 0, .null, .null, .null, .int 0, .null, .int 0]) (hsz : H0.size = b + 1) : Ctr l (KK g) yX7_init wsX7_init { frames := 1, cells := 11, slots := 13024, locals := 20 } [.ref b] H0 eV (fun _ H => ModAt g H b 0 (fun _ => 0) 0 (fun _ => 0) 1 (fun _ => 0) 0 (fun _ => 0) 1 0 0 (fun _ => 0) (fun _ => 0) (fun _ => false) ∧ H.size = b + 12) (fun q => q = b ∨ b + 1 ≤ q) := by
  refine xr_enter (cc := cX7_init) (maxL := 1) (ret := none) (by decide) rfl (Nat.le_of_ble_eq_true rfl) ?_
  intro pgm env s mid below meth cde hx hb hr hml hts hown hlocks hnm hH hK ls hl
  subst hH
  have hl : lv_has ls 1 [(0, .ref b)] := hl
  have hS : va_S (fun q => q = b ∨ b + 1 ≤ q) s.heap s.heap [] := va_S.rf
  refine lv_aload_n hx hb dX7_init_0 rfl (lv_at hl 0 rfl) ?_
  refine W.objInit hx hb hown (hts (.methodLink RX7 1 objectInit) (by decide +kernel)) (hts (.instanceMethod objectInit) (by decide +kernel)) (hts _ (List.mem_cons_of_mem _ (List.mem_append_left _ (List.mem_of_getElem? (i := 2) rfl)))) rfl (by rw [hml]; exact hl.1) rfl dX7_init_1 (Nat.le_of_ble_eq_true rfl) (Nat.le_of_ble_eq_true rfl) ?_
  refine W.eq (g2 := F0 mid 4 ls []) rfl ?_
  refine lv_aload_n hx hb dX7_init_4 rfl (lv_at hl 0 rfl) ?_
  refine lv_sipush (v := 10320) hx hb dX7_init_5 (by decide) ?_
  refine xr_newa (atype := .int) (cA := gI g) (N := 10320) hx hb (hts (.arrayClass .int) (by decide +kernel)) (hK.1.2 0 (gI g, .int) rfl).2 rfl hS (by decide) (by decide) (by decide) (Nat.le_of_ble_eq_true rfl) (Nat.le_of_ble_eq_true rfl) dX7_init_8 (fun H hz hkp hm hS => ?_)
  refine W.widen (k := 1) (n := 10320) (Nat.le_of_ble_eq_true rfl) (Nat.le_of_ble_eq_true rfl) ?_
  rw [hsz] at hm hz hkp ⊢
  replace hO := hO.kept (hkp _ (by omega))
  replace hsz := hz
  refine xr_putF (ci := 7) (v := .ref (b + 1)) (ty := .array .int) (C := RX7) (T := TX7) (N := 18) hx hb hts (by decide +kernel) tyX7 tyX7_ok nmX7 hown hK.1 hO hS (Or.inl rfl) rfl 1 (by decide) (hts (.fieldLink RX7 7 "SharesDeskModel" "m" "[I") (by decide +kernel)) rfl hnm rfl (by decide +kernel) rfl rfl (Nat.le_of_ble_eq_true rfl) dX7_init_10 (fun H locs hz hkp hO hS => ?_)
  replace hm := hm.kept (hkp _ (by omega))
  replace hsz := hz.trans hsz
  refine lv_aload_n hx hb dX7_init_13 rfl (lv_at hl 0 rfl) ?_
  refine lv_bipush (v := 16) hx hb dX7_init_14 (by decide) ?_
  refine xr_newa (atype := .int) (cA := gI g) (N := 16) hx hb (hts (.arrayClass .int) (by decide +kernel)) (hK.1.2 0 (gI g, .int) rfl).2 rfl hS (by decide) (by decide) (by decide) (Nat.le_of_ble_eq_true rfl) (Nat.le_of_ble_eq_true rfl) dX7_init_16 (fun H hz hkp h2 hS => ?_)
  refine W.widen (k := 2) (n := 10336) (Nat.le_of_ble_eq_true rfl) (Nat.le_of_ble_eq_true rfl) ?_
  rw [hsz] at h2 hz hkp ⊢
  replace hm := hm.kept (hkp _ (by omega))
  replace hO := hO.kept (hkp _ (by omega))
  replace hsz := hz
  refine xr_putF (ci := 7) (v := .ref (b + 2)) (ty := .array .int) (C := RX7) (T := TX7) (N := 18) hx hb hts (by decide +kernel) tyX7 tyX7_ok nmX7 hown hK.1 hO hS (Or.inl rfl) rfl 2 (by decide) (hts (.fieldLink RX7 13 "SharesDeskModel" "costs" "[I") (by decide +kernel)) rfl hnm rfl (by decide +kernel) rfl rfl (Nat.le_of_ble_eq_true rfl) dX7_init_18 (fun H locs hz hkp hO hS => ?_)
  replace hm := hm.kept (hkp _ (by omega))
  replace h2 := h2.kept (hkp _ (by omega))
  replace hsz := hz.trans hsz
  refine lv_aload_n hx hb dX7_init_21 rfl (lv_at hl 0 rfl) ?_
  refine lv_bipush (v := 48) hx hb dX7_init_22 (by decide) ?_
  refine xr_newa (atype := .boolean) (cA := gZ g) (N := 48) hx hb (hts (.arrayClass .boolean) (by decide +kernel)) (hK.1.2 3 (gZ g, .boolean) rfl).2 rfl hS (by decide) (by decide) (by decide) (Nat.le_of_ble_eq_true rfl) (Nat.le_of_ble_eq_true rfl) dX7_init_24 (fun H hz hkp h3 hS => ?_)
  refine W.widen (k := 3) (n := 10384) (Nat.le_of_ble_eq_true rfl) (Nat.le_of_ble_eq_true rfl) ?_
  rw [hsz] at h3 hz hkp ⊢
  replace hm := hm.kept (hkp _ (by omega))
  replace h2 := h2.kept (hkp _ (by omega))
  replace hO := hO.kept (hkp _ (by omega))
  replace hsz := hz
  refine xr_putF (ci := 7) (v := .ref (b + 3)) (ty := .array .boolean) (C := RX7) (T := TX7) (N := 18) hx hb hts (by decide +kernel) tyX7 tyX7_ok nmX7 hown hK.1 hO hS (Or.inl rfl) rfl 3 (by decide) (hts (.fieldLink RX7 16 "SharesDeskModel" "voters" "[Z") (by decide +kernel)) rfl hnm rfl (by decide +kernel) rfl rfl (Nat.le_of_ble_eq_true rfl) dX7_init_26 (fun H locs hz hkp hO hS => ?_)
  replace hm := hm.kept (hkp _ (by omega))
  replace h2 := h2.kept (hkp _ (by omega))
  replace h3 := h3.kept (hkp _ (by omega))
  replace hsz := hz.trans hsz
  refine lv_aload_n hx hb dX7_init_29 rfl (lv_at hl 0 rfl) ?_
  refine lv_bipush (v := 48) hx hb dX7_init_30 (by decide) ?_
  refine xr_newa (atype := .int) (cA := gI g) (N := 48) hx hb (hts (.arrayClass .int) (by decide +kernel)) (hK.1.2 0 (gI g, .int) rfl).2 rfl hS (by decide) (by decide) (by decide) (Nat.le_of_ble_eq_true rfl) (Nat.le_of_ble_eq_true rfl) dX7_init_32 (fun H hz hkp h4 hS => ?_)
  refine W.widen (k := 4) (n := 10432) (Nat.le_of_ble_eq_true rfl) (Nat.le_of_ble_eq_true rfl) ?_
  rw [hsz] at h4 hz hkp ⊢
  replace hm := hm.kept (hkp _ (by omega))
  replace h2 := h2.kept (hkp _ (by omega))
  replace h3 := h3.kept (hkp _ (by omega))
  replace hO := hO.kept (hkp _ (by omega))
  replace hsz := hz
  refine xr_putF (ci := 7) (v := .ref (b + 4)) (ty := .array .int) (C := RX7) (T := TX7) (N := 18) hx hb hts (by decide +kernel) tyX7 tyX7_ok nmX7 hown hK.1 hO hS (Or.inl rfl) rfl 4 (by decide) (hts (.fieldLink RX7 20 "SharesDeskModel" "wishes" "[I") (by decide +kernel)) rfl hnm rfl (by decide +kernel) rfl rfl (Nat.le_of_ble_eq_true rfl) dX7_init_34 (fun H locs hz hkp hO hS => ?_)
  replace hm := hm.kept (hkp _ (by omega))
  replace h2 := h2.kept (hkp _ (by omega))
  replace h3 := h3.kept (hkp _ (by omega))
  replace h4 := h4.kept (hkp _ (by omega))
  replace hsz := hz.trans hsz
  refine lv_aload_n hx hb dX7_init_37 rfl (lv_at hl 0 rfl) ?_
  refine lv_iconst (v := 1) hx hb dX7_init_38 (by decide) ?_
  refine xr_ti (x' := nI 1) rfl ?_
  refine xr_put (ci := 7) (v := .int (nI 1)) (ty := .int) (C := RX7) (T := TX7) (N := 18) hx hb hts (by decide +kernel) tyX7 tyX7_ok nmX7 hown hK.1 hO hS (Or.inl rfl) rfl 5 (by decide) (hts (.fieldLink RX7 23 "SharesDeskModel" "budget" "I") (by decide +kernel)) rfl (by decide +kernel) rfl rfl (Nat.le_of_ble_eq_true rfl) dX7_init_39 (fun H locs hz hkp hO hS => ?_)
  replace hm := hm.kept (hkp _ (by omega))
  replace h2 := h2.kept (hkp _ (by omega))
  replace h3 := h3.kept (hkp _ (by omega))
  replace h4 := h4.kept (hkp _ (by omega))
  replace hsz := hz.trans hsz
  refine lv_aload_n hx hb dX7_init_42 rfl (lv_at hl 0 rfl) ?_
  refine lv_bipush (v := 16) hx hb dX7_init_43 (by decide) ?_
  refine xr_newa (atype := .int) (cA := gI g) (N := 16) hx hb (hts (.arrayClass .int) (by decide +kernel)) (hK.1.2 0 (gI g, .int) rfl).2 rfl hS (by decide) (by decide) (by decide) (Nat.le_of_ble_eq_true rfl) (Nat.le_of_ble_eq_true rfl) dX7_init_45 (fun H hz hkp h5 hS => ?_)
  refine W.widen (k := 5) (n := 10448) (Nat.le_of_ble_eq_true rfl) (Nat.le_of_ble_eq_true rfl) ?_
  rw [hsz] at h5 hz hkp ⊢
  replace hm := hm.kept (hkp _ (by omega))
  replace h2 := h2.kept (hkp _ (by omega))
  replace h3 := h3.kept (hkp _ (by omega))
  replace h4 := h4.kept (hkp _ (by omega))
  replace hO := hO.kept (hkp _ (by omega))
  replace hsz := hz
  refine xr_putF (ci := 7) (v := .ref (b + 5)) (ty := .array .int) (C := RX7) (T := TX7) (N := 18) hx hb hts (by decide +kernel) tyX7 tyX7_ok nmX7 hown hK.1 hO hS (Or.inl rfl) rfl 6 (by decide) (hts (.fieldLink RX7 27 "SharesDeskModel" "oldCosts" "[I") (by decide +kernel)) rfl hnm rfl (by decide +kernel) rfl rfl (Nat.le_of_ble_eq_true rfl) dX7_init_47 (fun H locs hz hkp hO hS => ?_)
  replace hm := hm.kept (hkp _ (by omega))
  replace h2 := h2.kept (hkp _ (by omega))
  replace h3 := h3.kept (hkp _ (by omega))
  replace h4 := h4.kept (hkp _ (by omega))
  replace h5 := h5.kept (hkp _ (by omega))
  replace hsz := hz.trans hsz
  refine lv_aload_n hx hb dX7_init_50 rfl (lv_at hl 0 rfl) ?_
  refine lv_bipush (v := 48) hx hb dX7_init_51 (by decide) ?_
  refine xr_newa (atype := .boolean) (cA := gZ g) (N := 48) hx hb (hts (.arrayClass .boolean) (by decide +kernel)) (hK.1.2 3 (gZ g, .boolean) rfl).2 rfl hS (by decide) (by decide) (by decide) (Nat.le_of_ble_eq_true rfl) (Nat.le_of_ble_eq_true rfl) dX7_init_53 (fun H hz hkp h6 hS => ?_)
  refine W.widen (k := 6) (n := 10496) (Nat.le_of_ble_eq_true rfl) (Nat.le_of_ble_eq_true rfl) ?_
  rw [hsz] at h6 hz hkp ⊢
  replace hm := hm.kept (hkp _ (by omega))
  replace h2 := h2.kept (hkp _ (by omega))
  replace h3 := h3.kept (hkp _ (by omega))
  replace h4 := h4.kept (hkp _ (by omega))
  replace h5 := h5.kept (hkp _ (by omega))
  replace hO := hO.kept (hkp _ (by omega))
  replace hsz := hz
  refine xr_putF (ci := 7) (v := .ref (b + 6)) (ty := .array .boolean) (C := RX7) (T := TX7) (N := 18) hx hb hts (by decide +kernel) tyX7 tyX7_ok nmX7 hown hK.1 hO hS (Or.inl rfl) rfl 7 (by decide) (hts (.fieldLink RX7 30 "SharesDeskModel" "oldVoters" "[Z") (by decide +kernel)) rfl hnm rfl (by decide +kernel) rfl rfl (Nat.le_of_ble_eq_true rfl) dX7_init_55 (fun H locs hz hkp hO hS => ?_)
  replace hm := hm.kept (hkp _ (by omega))
  replace h2 := h2.kept (hkp _ (by omega))
  replace h3 := h3.kept (hkp _ (by omega))
  replace h4 := h4.kept (hkp _ (by omega))
  replace h5 := h5.kept (hkp _ (by omega))
  replace h6 := h6.kept (hkp _ (by omega))
  replace hsz := hz.trans hsz
  refine lv_aload_n hx hb dX7_init_58 rfl (lv_at hl 0 rfl) ?_
  refine lv_bipush (v := 48) hx hb dX7_init_59 (by decide) ?_
  refine xr_newa (atype := .int) (cA := gI g) (N := 48) hx hb (hts (.arrayClass .int) (by decide +kernel)) (hK.1.2 0 (gI g, .int) rfl).2 rfl hS (by decide) (by decide) (by decide) (Nat.le_of_ble_eq_true rfl) (Nat.le_of_ble_eq_true rfl) dX7_init_61 (fun H hz hkp h7 hS => ?_)
  refine W.widen (k := 7) (n := 10544) (Nat.le_of_ble_eq_true rfl) (Nat.le_of_ble_eq_true rfl) ?_
  rw [hsz] at h7 hz hkp ⊢
  replace hm := hm.kept (hkp _ (by omega))
  replace h2 := h2.kept (hkp _ (by omega))
  replace h3 := h3.kept (hkp _ (by omega))
  replace h4 := h4.kept (hkp _ (by omega))
  replace h5 := h5.kept (hkp _ (by omega))
  replace h6 := h6.kept (hkp _ (by omega))
  replace hO := hO.kept (hkp _ (by omega))
  replace hsz := hz
  refine xr_putF (ci := 7) (v := .ref (b + 7)) (ty := .array .int) (C := RX7) (T := TX7) (N := 18) hx hb hts (by decide +kernel) tyX7 tyX7_ok nmX7 hown hK.1 hO hS (Or.inl rfl) rfl 8 (by decide) (hts (.fieldLink RX7 33 "SharesDeskModel" "oldWishes" "[I") (by decide +kernel)) rfl hnm rfl (by decide +kernel) rfl rfl (Nat.le_of_ble_eq_true rfl) dX7_init_63 (fun H locs hz hkp hO hS => ?_)
  replace hm := hm.kept (hkp _ (by omega))
  replace h2 := h2.kept (hkp _ (by omega))
  replace h3 := h3.kept (hkp _ (by omega))
  replace h4 := h4.kept (hkp _ (by omega))
  replace h5 := h5.kept (hkp _ (by omega))
  replace h6 := h6.kept (hkp _ (by omega))
  replace h7 := h7.kept (hkp _ (by omega))
  replace hsz := hz.trans hsz
  refine lv_aload_n hx hb dX7_init_66 rfl (lv_at hl 0 rfl) ?_
  refine lv_iconst (v := 1) hx hb dX7_init_67 (by decide) ?_
  refine xr_ti (x' := nI 1) rfl ?_
  refine xr_put (ci := 7) (v := .int (nI 1)) (ty := .int) (C := RX7) (T := TX7) (N := 18) hx hb hts (by decide +kernel) tyX7 tyX7_ok nmX7 hown hK.1 hO hS (Or.inl rfl) rfl 9 (by decide) (hts (.fieldLink RX7 36 "SharesDeskModel" "oldBudget" "I") (by decide +kernel)) rfl (by decide +kernel) rfl rfl (Nat.le_of_ble_eq_true rfl) dX7_init_68 (fun H locs hz hkp hO hS => ?_)
  replace hm := hm.kept (hkp _ (by omega))
  replace h2 := h2.kept (hkp _ (by omega))
  replace h3 := h3.kept (hkp _ (by omega))
  replace h4 := h4.kept (hkp _ (by omega))
  replace h5 := h5.kept (hkp _ (by omega))
  replace h6 := h6.kept (hkp _ (by omega))
  replace h7 := h7.kept (hkp _ (by omega))
  replace hsz := hz.trans hsz
  refine lv_aload_n hx hb dX7_init_71 rfl (lv_at hl 0 rfl) ?_
  refine lv_bipush (v := 16) hx hb dX7_init_72 (by decide) ?_
  refine xr_newa (atype := .int) (cA := gI g) (N := 16) hx hb (hts (.arrayClass .int) (by decide +kernel)) (hK.1.2 0 (gI g, .int) rfl).2 rfl hS (by decide) (by decide) (by decide) (Nat.le_of_ble_eq_true rfl) (Nat.le_of_ble_eq_true rfl) dX7_init_74 (fun H hz hkp h8 hS => ?_)
  refine W.widen (k := 8) (n := 10560) (Nat.le_of_ble_eq_true rfl) (Nat.le_of_ble_eq_true rfl) ?_
  rw [hsz] at h8 hz hkp ⊢
  replace hm := hm.kept (hkp _ (by omega))
  replace h2 := h2.kept (hkp _ (by omega))
  replace h3 := h3.kept (hkp _ (by omega))
  replace h4 := h4.kept (hkp _ (by omega))
  replace h5 := h5.kept (hkp _ (by omega))
  replace h6 := h6.kept (hkp _ (by omega))
  replace h7 := h7.kept (hkp _ (by omega))
  replace hO := hO.kept (hkp _ (by omega))
  replace hsz := hz
  refine xr_putF (ci := 7) (v := .ref (b + 8)) (ty := .array .int) (C := RX7) (T := TX7) (N := 18) hx hb hts (by decide +kernel) tyX7 tyX7_ok nmX7 hown hK.1 hO hS (Or.inl rfl) rfl 12 (by decide) (hts (.fieldLink RX7 39 "SharesDeskModel" "order" "[I") (by decide +kernel)) rfl hnm rfl (by decide +kernel) rfl rfl (Nat.le_of_ble_eq_true rfl) dX7_init_76 (fun H locs hz hkp hO hS => ?_)
  replace hm := hm.kept (hkp _ (by omega))
  replace h2 := h2.kept (hkp _ (by omega))
  replace h3 := h3.kept (hkp _ (by omega))
  replace h4 := h4.kept (hkp _ (by omega))
  replace h5 := h5.kept (hkp _ (by omega))
  replace h6 := h6.kept (hkp _ (by omega))
  replace h7 := h7.kept (hkp _ (by omega))
  replace h8 := h8.kept (hkp _ (by omega))
  replace hsz := hz.trans hsz
  refine lv_aload_n hx hb dX7_init_79 rfl (lv_at hl 0 rfl) ?_
  refine lv_bipush (v := 16) hx hb dX7_init_80 (by decide) ?_
  refine xr_newa (atype := .boolean) (cA := gZ g) (N := 16) hx hb (hts (.arrayClass .boolean) (by decide +kernel)) (hK.1.2 3 (gZ g, .boolean) rfl).2 rfl hS (by decide) (by decide) (by decide) (Nat.le_of_ble_eq_true rfl) (Nat.le_of_ble_eq_true rfl) dX7_init_82 (fun H hz hkp h9 hS => ?_)
  refine W.widen (k := 9) (n := 10576) (Nat.le_of_ble_eq_true rfl) (Nat.le_of_ble_eq_true rfl) ?_
  rw [hsz] at h9 hz hkp ⊢
  replace hm := hm.kept (hkp _ (by omega))
  replace h2 := h2.kept (hkp _ (by omega))
  replace h3 := h3.kept (hkp _ (by omega))
  replace h4 := h4.kept (hkp _ (by omega))
  replace h5 := h5.kept (hkp _ (by omega))
  replace h6 := h6.kept (hkp _ (by omega))
  replace h7 := h7.kept (hkp _ (by omega))
  replace h8 := h8.kept (hkp _ (by omega))
  replace hO := hO.kept (hkp _ (by omega))
  replace hsz := hz
  refine xr_putF (ci := 7) (v := .ref (b + 9)) (ty := .array .boolean) (C := RX7) (T := TX7) (N := 18) hx hb hts (by decide +kernel) tyX7 tyX7_ok nmX7 hown hK.1 hO hS (Or.inl rfl) rfl 13 (by decide) (hts (.fieldLink RX7 42 "SharesDeskModel" "isChosen" "[Z") (by decide +kernel)) rfl hnm rfl (by decide +kernel) rfl rfl (Nat.le_of_ble_eq_true rfl) dX7_init_84 (fun H locs hz hkp hO hS => ?_)
  replace hm := hm.kept (hkp _ (by omega))
  replace h2 := h2.kept (hkp _ (by omega))
  replace h3 := h3.kept (hkp _ (by omega))
  replace h4 := h4.kept (hkp _ (by omega))
  replace h5 := h5.kept (hkp _ (by omega))
  replace h6 := h6.kept (hkp _ (by omega))
  replace h7 := h7.kept (hkp _ (by omega))
  replace h8 := h8.kept (hkp _ (by omega))
  replace h9 := h9.kept (hkp _ (by omega))
  replace hsz := hz.trans hsz
  refine lv_aload_n hx hb dX7_init_87 rfl (lv_at hl 0 rfl) ?_
  refine lv_bipush (v := 48) hx hb dX7_init_88 (by decide) ?_
  refine xr_newa (atype := .boolean) (cA := gZ g) (N := 48) hx hb (hts (.arrayClass .boolean) (by decide +kernel)) (hK.1.2 3 (gZ g, .boolean) rfl).2 rfl hS (by decide) (by decide) (by decide) (Nat.le_of_ble_eq_true rfl) (Nat.le_of_ble_eq_true rfl) dX7_init_90 (fun H hz hkp h10 hS => ?_)
  refine W.widen (k := 10) (n := 10624) (Nat.le_of_ble_eq_true rfl) (Nat.le_of_ble_eq_true rfl) ?_
  rw [hsz] at h10 hz hkp ⊢
  replace hm := hm.kept (hkp _ (by omega))
  replace h2 := h2.kept (hkp _ (by omega))
  replace h3 := h3.kept (hkp _ (by omega))
  replace h4 := h4.kept (hkp _ (by omega))
  replace h5 := h5.kept (hkp _ (by omega))
  replace h6 := h6.kept (hkp _ (by omega))
  replace h7 := h7.kept (hkp _ (by omega))
  replace h8 := h8.kept (hkp _ (by omega))
  replace h9 := h9.kept (hkp _ (by omega))
  replace hO := hO.kept (hkp _ (by omega))
  replace hsz := hz
  refine xr_putF (ci := 7) (v := .ref (b + 10)) (ty := .array .boolean) (C := RX7) (T := TX7) (N := 18) hx hb hts (by decide +kernel) tyX7 tyX7_ok nmX7 hown hK.1 hO hS (Or.inl rfl) rfl 14 (by decide) (hts (.fieldLink RX7 45 "SharesDeskModel" "poor" "[Z") (by decide +kernel)) rfl hnm rfl (by decide +kernel) rfl rfl (Nat.le_of_ble_eq_true rfl) dX7_init_92 (fun H locs hz hkp hO hS => ?_)
  replace hm := hm.kept (hkp _ (by omega))
  replace h2 := h2.kept (hkp _ (by omega))
  replace h3 := h3.kept (hkp _ (by omega))
  replace h4 := h4.kept (hkp _ (by omega))
  replace h5 := h5.kept (hkp _ (by omega))
  replace h6 := h6.kept (hkp _ (by omega))
  replace h7 := h7.kept (hkp _ (by omega))
  replace h8 := h8.kept (hkp _ (by omega))
  replace h9 := h9.kept (hkp _ (by omega))
  replace h10 := h10.kept (hkp _ (by omega))
  replace hsz := hz.trans hsz
  refine lv_aload_n hx hb dX7_init_95 rfl (lv_at hl 0 rfl) ?_
  refine lv_sipush (v := 2400) hx hb dX7_init_96 (by decide) ?_
  refine xr_newa (atype := .int) (cA := gI g) (N := 2400) hx hb (hts (.arrayClass .int) (by decide +kernel)) (hK.1.2 0 (gI g, .int) rfl).2 rfl hS (by decide) (by decide) (by decide) (Nat.le_of_ble_eq_true rfl) (Nat.le_of_ble_eq_true rfl) dX7_init_99 (fun H hz hkp h11 hS => ?_)
  refine W.widen (k := 11) (n := 13024) (Nat.le_of_ble_eq_true rfl) (Nat.le_of_ble_eq_true rfl) ?_
  rw [hsz] at h11 hz hkp ⊢
  replace hm := hm.kept (hkp _ (by omega))
  replace h2 := h2.kept (hkp _ (by omega))
  replace h3 := h3.kept (hkp _ (by omega))
  replace h4 := h4.kept (hkp _ (by omega))
  replace h5 := h5.kept (hkp _ (by omega))
  replace h6 := h6.kept (hkp _ (by omega))
  replace h7 := h7.kept (hkp _ (by omega))
  replace h8 := h8.kept (hkp _ (by omega))
  replace h9 := h9.kept (hkp _ (by omega))
  replace h10 := h10.kept (hkp _ (by omega))
  replace hO := hO.kept (hkp _ (by omega))
  replace hsz := hz
  refine xr_putF (ci := 7) (v := .ref (b + 11)) (ty := .array .int) (C := RX7) (T := TX7) (N := 18) hx hb hts (by decide +kernel) tyX7 tyX7_ok nmX7 hown hK.1 hO hS (Or.inl rfl) rfl 16 (by decide) (hts (.fieldLink RX7 48 "SharesDeskModel" "text" "[I") (by decide +kernel)) rfl hnm rfl (by decide +kernel) rfl rfl (Nat.le_of_ble_eq_true rfl) dX7_init_101 (fun H locs hz hkp hO hS => ?_)
  replace hm := hm.kept (hkp _ (by omega))
  replace h2 := h2.kept (hkp _ (by omega))
  replace h3 := h3.kept (hkp _ (by omega))
  replace h4 := h4.kept (hkp _ (by omega))
  replace h5 := h5.kept (hkp _ (by omega))
  replace h6 := h6.kept (hkp _ (by omega))
  replace h7 := h7.kept (hkp _ (by omega))
  replace h8 := h8.kept (hkp _ (by omega))
  replace h9 := h9.kept (hkp _ (by omega))
  replace h10 := h10.kept (hkp _ (by omega))
  replace h11 := h11.kept (hkp _ (by omega))
  replace hsz := hz.trans hsz
  exact xr_vret hx hb hr hlocks hS ⟨⟨0, 0, fun _ => false, fun _ => 0, hO, ⟨hm.to (fun j _ => by unfold rwA; rw [lb_0]; rfl), fun _ _ => Nat.two_pow_pos 192⟩, ⟨h2.to (fun j _ => rfl), h3.to (fun j _ => by rw [Nat.zero_testBit]; rfl), h4.to (fun j _ => rfl), fun _ _ => Nat.zero_le _, fun _ _ => Nat.two_pow_pos 16⟩, ⟨h5.to (fun j _ => rfl), h6.to (fun j _ => by rw [Nat.zero_testBit]; rfl), h7.to (fun j _ => rfl), fun _ _ => Nat.zero_le _, fun _ _ => Nat.two_pow_pos 16⟩, h8.to (fun j _ => rfl), h9.to (fun j _ => rfl), h10.to (fun j _ => rfl), h11.to (fun j _ => rfl), by decide, by decide⟩, hsz⟩ dX7_init_104
