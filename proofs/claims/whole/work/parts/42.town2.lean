set_option maxHeartbeats 400000 in
set_option maxRecDepth 100000 in
theorem c_X5_init (l : Launch) (g : WG) (H0 : Heap) (a : Nat) (hO : obj g H0 a 5 [.null, .long 0, .null, .int 0]) (hsz : H0.size = a + 1) : Ctr l (KK g) yX5_init wsX5_init { frames := 1, cells := 2, slots := 64, locals := 12 } [.ref a] H0 eV (fun _ H => TownAt g H a (fun _ => 0) 0 (fun _ => 0) 1 ∧ H.size = a + 3) (fun q => q = a ∨ a + 1 ≤ q) := by
  refine xr_enter (cc := cX5_init) (maxL := 1) (ret := none) (by decide) rfl (Nat.le_of_ble_eq_true rfl) ?_
  intro pgm env s mid below meth cde hx hb hr hml hts hown hlocks hnm hH hK ls hl
  subst hH
  have hl : lv_has ls 1 [(0, .ref a)] := hl
  have hS : va_S (fun q => q = a ∨ a + 1 ≤ q) s.heap s.heap [] := va_S.rf
  refine lv_aload_n hx hb dX5_init_0 rfl (lv_at hl 0 rfl) ?_
  refine W.objInit hx hb hown (hts (.methodLink RX5 3 objectInit) (by decide +kernel)) (hts (.instanceMethod objectInit) (by decide +kernel)) (hts _ (List.mem_cons_of_mem _ (List.mem_append_left _ (List.mem_of_getElem? (i := 2) rfl)))) rfl (by rw [hml]; exact hl.1) rfl dX5_init_1 (Nat.le_of_ble_eq_true rfl) (Nat.le_of_ble_eq_true rfl) ?_
  refine W.eq (g2 := F0 mid 4 ls []) rfl ?_
  refine lv_aload_n hx hb dX5_init_4 rfl (lv_at hl 0 rfl) ?_
  refine lv_bipush (v := 16) hx hb dX5_init_5 (by decide) ?_
  refine xr_newa (atype := .int) (cA := gI g) (N := 16) hx hb (hts (.arrayClass .int) (by decide +kernel)) (hK.1.2 0 (gI g, .int) rfl).2 rfl hS (by decide) (by decide) (by decide) (Nat.le_of_ble_eq_true rfl) (Nat.le_of_ble_eq_true rfl) dX5_init_7 (fun H hz hkp hC hS => ?_)
  refine W.widen (k := 1) (n := 16) (Nat.le_of_ble_eq_true rfl) (Nat.le_of_ble_eq_true rfl) ?_
  rw [hsz] at hC hz hkp ⊢
  replace hO := hO.kept (hkp _ (by omega))
  have hsz := hz
  refine xr_putF (ci := 5) (v := .ref (a + 1)) (ty := .array .int) (C := RX5) (T := TX5) (N := 4) hx hb hts (by decide +kernel) tyX5 tyX5_ok nmX5 hown hK.1 hO hS (Or.inl rfl) rfl 0 (by decide) (hts (.fieldLink RX5 9 "SharesDesk$Town" "costs" "[I") (by decide +kernel)) rfl hnm rfl (by decide +kernel) rfl rfl (Nat.le_of_ble_eq_true rfl) dX5_init_9 (fun H locs hz hkp hO hS => ?_)
  replace hC := hC.kept (hkp _ (by omega))
  replace hsz := hz.trans hsz
  refine lv_aload_n hx hb dX5_init_12 rfl (lv_at hl 0 rfl) ?_
  refine lv_bipush (v := 48) hx hb dX5_init_13 (by decide) ?_
  refine xr_newa (atype := .int) (cA := gI g) (N := 48) hx hb (hts (.arrayClass .int) (by decide +kernel)) (hK.1.2 0 (gI g, .int) rfl).2 rfl hS (by decide) (by decide) (by decide) (Nat.le_of_ble_eq_true rfl) (Nat.le_of_ble_eq_true rfl) dX5_init_15 (fun H hz hkp hP hS => ?_)
  refine W.widen (k := 2) (n := 64) (Nat.le_of_ble_eq_true rfl) (Nat.le_of_ble_eq_true rfl) ?_
  rw [hsz] at hP hz hkp ⊢
  replace hC := hC.kept (hkp _ (by omega))
  replace hO := hO.kept (hkp _ (by omega))
  have hsz := hz
  refine xr_putF (ci := 5) (v := .ref (a + 2)) (ty := .array .int) (C := RX5) (T := TX5) (N := 4) hx hb hts (by decide +kernel) tyX5 tyX5_ok nmX5 hown hK.1 hO hS (Or.inl rfl) rfl 2 (by decide) (hts (.fieldLink RX5 15 "SharesDesk$Town" "approvals" "[I") (by decide +kernel)) rfl hnm rfl (by decide +kernel) rfl rfl (Nat.le_of_ble_eq_true rfl) dX5_init_17 (fun H locs hz hkp hO hS => ?_)
  replace hC := hC.kept (hkp _ (by omega))
  replace hP := hP.kept (hkp _ (by omega))
  replace hsz := hz.trans hsz
  refine lv_aload_n hx hb dX5_init_20 rfl (lv_at hl 0 rfl) ?_
  refine lv_iconst (v := 1) hx hb dX5_init_21 (by decide) ?_
  refine xr_ti (x' := nI 1) rfl ?_
  refine xr_put (ci := 5) (v := .int (nI 1)) (ty := .int) (C := RX5) (T := TX5) (N := 4) hx hb hts (by decide +kernel) tyX5 tyX5_ok nmX5 hown hK.1 hO hS (Or.inl rfl) rfl 3 (by decide) (hts (.fieldLink RX5 18 "SharesDesk$Town" "budget" "I") (by decide +kernel)) rfl (by decide +kernel) rfl rfl (Nat.le_of_ble_eq_true rfl) dX5_init_22 (fun H locs hz hkp hO hS => ?_)
  replace hC := hC.kept (hkp _ (by omega))
  replace hP := hP.kept (hkp _ (by omega))
  replace hsz := hz.trans hsz
  exact xr_vret hx hb hr hlocks hS ⟨⟨hO, hC.to (fun j _ => nI_0.symm), hP.to (fun j _ => nI_0.symm), fun _ _ => Nat.zero_le _, Nat.two_pow_pos _, fun _ _ => Nat.two_pow_pos _, by decide, by decide⟩, hsz⟩ dX5_init_25
set_option maxHeartbeats 400000 in
set_option maxRecDepth 100000 in
theorem c_X5_copy (l : Launch) (g : WG) (H0 : Heap) (a b : Nat) (c : Nat → Nat) (vs : Nat) (ap : Nat → Nat) (bu : Nat) (hT : TownAt g H0 a c vs ap bu) (c2 : Nat → Nat) (vs2 : Nat) (ap2 : Nat → Nat) (bu2 : Nat) (hU : TownAt g H0 b c2 vs2 ap2 bu2) (hab : a + 3 ≤ b ∨ b + 3 ≤ a) : Ctr l (KK g) yX5_copy wsX5_copy { frames := 1, cells := 0, slots := 0, locals := 40 } [.ref a, .ref b] H0 eV (fun _ H => TownAt g H a c2 vs2 ap2 bu2) (fun q => a ≤ q ∧ q < a + 3) := by
  refine xr_enter (cc := cX5_copy) (maxL := 2) (ret := none) (by decide) rfl (Nat.le_of_ble_eq_true rfl) ?_
  intro pgm env s mid below meth cde hx hb hr hml hts hown hlocks hnm hH hK ls hl
  subst hH
  have hl : lv_has ls 2 [(0, .ref a), (1, .ref b)] := hl
  have hS : va_S (fun q => a ≤ q ∧ q < a + 3) s.heap s.heap [] := va_S.rf
  obtain ⟨hO, hcs, ha, hcb, hvb, hab1, hbb⟩ := id hT
  obtain ⟨hQ, hcs2, ha2, hcb2, hvb2, hab2, hbb2⟩ := id hU
  refine lv_aload_n hx hb dX5_copy_0 rfl (lv_at hl 1 rfl) ?_
  refine va_get (D := g.1) (ci := 5) (v := .ref (b + 1)) (C := RX5) (T := TX5) (N := 4) hx hb hts (by decide +kernel) hown hK.1 (xr_one hQ) 0 rfl rfl 0 (by decide) (hts (.fieldLink RX5 9 "SharesDesk$Town" "costs" "[I") (by decide +kernel)) (fun _ h9 => h9) rfl dX5_copy_1 ?_
  refine lv_iconst (v := 0) hx hb dX5_copy_4 (by decide) ?_
  refine lv_aload_n hx hb dX5_copy_5 rfl (lv_at hl 0 rfl) ?_
  refine va_get (D := g.1) (ci := 5) (v := .ref (a + 1)) (C := RX5) (T := TX5) (N := 4) hx hb hts (by decide +kernel) hown hK.1 (xr_one hO) 0 rfl rfl 0 (by decide) (hts (.fieldLink RX5 9 "SharesDesk$Town" "costs" "[I") (by decide +kernel)) (fun _ h9 => h9) rfl dX5_copy_6 ?_
  refine lv_iconst (v := 0) hx hb dX5_copy_9 (by decide) ?_
  refine lv_bipush (v := 16) hx hb dX5_copy_10 (by decide) ?_
  refine xr_ti (x' := nI 16) rfl ?_
  refine xr_cpy hx hb (hml.trans hl.1.symm) hown (hts (.methodLink RX5 39 arraycopyName) (by decide +kernel)) (hts (.native arraycopyName) (by decide +kernel)) (hts (.static arraycopyName) (by decide +kernel)) (hts (.initialized "java/lang/System") (by decide +kernel)) hK hS (show a ≤ a + 1 ∧ a + 1 < a + 3 by omega) hcs2 hcs (by decide) (by decide) (by decide) (Nat.le_of_ble_eq_true rfl) (by decide +kernel) dX5_copy_12 (fun H locs hz hkp hcs hS => ?_)
  replace hO := hO.kept (hkp _ (by omega))
  replace hQ := hQ.kept (hkp _ (by omega))
  replace ha := ha.kept (hkp _ (by omega))
  replace hcs2 := hcs2.kept (hkp _ (by omega))
  replace ha2 := ha2.kept (hkp _ (by omega))
  refine lv_aload_n hx hb dX5_copy_15 rfl (lv_at hl 1 rfl) ?_
  refine va_get (D := g.1) (ci := 5) (v := .ref (b + 2)) (C := RX5) (T := TX5) (N := 4) hx hb hts (by decide +kernel) hown hK.1 (xr_one hQ) 0 rfl rfl 2 (by decide) (hts (.fieldLink RX5 15 "SharesDesk$Town" "approvals" "[I") (by decide +kernel)) (fun _ h9 => h9) rfl dX5_copy_16 ?_
  refine lv_iconst (v := 0) hx hb dX5_copy_19 (by decide) ?_
  refine lv_aload_n hx hb dX5_copy_20 rfl (lv_at hl 0 rfl) ?_
  refine va_get (D := g.1) (ci := 5) (v := .ref (a + 2)) (C := RX5) (T := TX5) (N := 4) hx hb hts (by decide +kernel) hown hK.1 (xr_one hO) 0 rfl rfl 2 (by decide) (hts (.fieldLink RX5 15 "SharesDesk$Town" "approvals" "[I") (by decide +kernel)) (fun _ h9 => h9) rfl dX5_copy_21 ?_
  refine lv_iconst (v := 0) hx hb dX5_copy_24 (by decide) ?_
  refine lv_bipush (v := 48) hx hb dX5_copy_25 (by decide) ?_
  refine xr_ti (x' := nI 48) rfl ?_
  refine xr_cpy hx hb (hml.trans hl.1.symm) hown (hts (.methodLink RX5 39 arraycopyName) (by decide +kernel)) (hts (.native arraycopyName) (by decide +kernel)) (hts (.static arraycopyName) (by decide +kernel)) (hts (.initialized "java/lang/System") (by decide +kernel)) hK hS (show a ≤ a + 2 ∧ a + 2 < a + 3 by omega) ha2 ha (by decide) (by decide) (by decide) (Nat.le_of_ble_eq_true rfl) (by decide +kernel) dX5_copy_27 (fun H locs hz hkp ha hS => ?_)
  replace hO := hO.kept (hkp _ (by omega))
  replace hQ := hQ.kept (hkp _ (by omega))
  replace hcs2 := hcs2.kept (hkp _ (by omega))
  replace ha2 := ha2.kept (hkp _ (by omega))
  replace hcs := hcs.kept (hkp _ (by omega))
  refine lv_aload_n hx hb dX5_copy_30 rfl (lv_at hl 0 rfl) ?_
  refine lv_aload_n hx hb dX5_copy_31 rfl (lv_at hl 1 rfl) ?_
  refine va_get (D := g.1) (ci := 5) (v := .long (lN vs2)) (C := RX5) (T := TX5) (N := 4) hx hb hts (by decide +kernel) hown hK.1 (xr_one hQ) 0 rfl rfl 1 (by decide) (hts (.fieldLink RX5 29 "SharesDesk$Town" "voters" "J") (by decide +kernel)) (fun _ h9 => h9) rfl dX5_copy_32 ?_
  refine xr_put (ci := 5) (v := .long (lN vs2)) (ty := .long) (C := RX5) (T := TX5) (N := 4) hx hb hts (by decide +kernel) tyX5 tyX5_ok nmX5 hown hK.1 hO hS (show a ≤ a ∧ a < a + 3 by omega) rfl 1 (by decide) (hts (.fieldLink RX5 29 "SharesDesk$Town" "voters" "J") (by decide +kernel)) rfl (by decide +kernel) rfl rfl (Nat.le_of_ble_eq_true rfl) dX5_copy_35 (fun H locs hz hkp hO hS => ?_)
  replace hQ := hQ.kept (hkp _ (by omega))
  replace hcs2 := hcs2.kept (hkp _ (by omega))
  replace ha2 := ha2.kept (hkp _ (by omega))
  replace hcs := hcs.kept (hkp _ (by omega))
  replace ha := ha.kept (hkp _ (by omega))
  refine lv_aload_n hx hb dX5_copy_38 rfl (lv_at hl 0 rfl) ?_
  refine lv_aload_n hx hb dX5_copy_39 rfl (lv_at hl 1 rfl) ?_
  refine va_get (D := g.1) (ci := 5) (v := .int (nI bu2)) (C := RX5) (T := TX5) (N := 4) hx hb hts (by decide +kernel) hown hK.1 (xr_one hQ) 0 rfl rfl 3 (by decide) (hts (.fieldLink RX5 18 "SharesDesk$Town" "budget" "I") (by decide +kernel)) (fun _ h9 => h9) rfl dX5_copy_40 ?_
  refine xr_put (ci := 5) (v := .int (nI bu2)) (ty := .int) (C := RX5) (T := TX5) (N := 4) hx hb hts (by decide +kernel) tyX5 tyX5_ok nmX5 hown hK.1 hO hS (show a ≤ a ∧ a < a + 3 by omega) rfl 3 (by decide) (hts (.fieldLink RX5 18 "SharesDesk$Town" "budget" "I") (by decide +kernel)) rfl (by decide +kernel) rfl rfl (Nat.le_of_ble_eq_true rfl) dX5_copy_43 (fun H locs hz hkp hO hS => ?_)
  replace hQ := hQ.kept (hkp _ (by omega))
  replace hcs2 := hcs2.kept (hkp _ (by omega))
  replace ha2 := ha2.kept (hkp _ (by omega))
  replace hcs := hcs.kept (hkp _ (by omega))
  replace ha := ha.kept (hkp _ (by omega))
  exact xr_vret hx hb hr hlocks hS ⟨hO, hcs.to (fun j hj => if_pos hj), ha.to (fun j hj => if_pos hj), hcb2, hvb2, hab2, hbb2⟩ dX5_copy_46
