set_option maxHeartbeats 400000 in
set_option maxRecDepth 100000 in
theorem c_X4_init (l : Launch) (g : WG) (H0 : Heap) (a : Nat) (hO : obj g H0 a 4 [.int 0, .null, .int 0, .null, .null]) (hsz : H0.size = a + 1) : Ctr l (KK g) yX4_init wsX4_init { frames := 2, cells := 4, slots := 1455, locals := 32 } [.ref a] H0 eV (fun _ H => SlipAt g H a (-1) [] ∧ H.size = a + 5) (fun q => q = a ∨ a + 1 ≤ q) := by
  refine xr_enter (cc := cX4_init) (maxL := 1) (ret := none) (by decide) rfl (Nat.le_of_ble_eq_true rfl) ?_
  intro pgm env s mid below meth cde hx hb hr hml hts hown hlocks hnm hH hK ls hl
  subst hH
  have hl : lv_has ls 1 [(0, .ref a)] := hl
  have hS : va_S (fun q => q = a ∨ a + 1 ≤ q) s.heap s.heap [] := va_S.rf
  refine lv_aload_n hx hb dX4_init_0 rfl (lv_at hl 0 rfl) ?_
  refine W.objInit hx hb hown (hts (.methodLink RX4 5 objectInit) (by decide +kernel)) (hts (.instanceMethod objectInit) (by decide +kernel)) (hts _ (List.mem_cons_of_mem _ (List.mem_append_left _ (List.mem_append_left _ (List.mem_of_getElem? (i := 2) rfl))))) rfl (by rw [hml]; exact hl.1) rfl dX4_init_1 (Nat.le_of_ble_eq_true rfl) (Nat.le_of_ble_eq_true rfl) ?_
  refine W.eq (g2 := F0 mid 4 ls []) rfl ?_
  refine lv_aload_n hx hb dX4_init_4 rfl (lv_at hl 0 rfl) ?_
  refine lv_iconst (v := (-1)) hx hb dX4_init_5 (by decide) ?_
  refine xr_put (ci := 4) (v := .int (-1)) (ty := .int) (C := RX4) (T := TX4) (N := 5) hx hb hts (by decide +kernel) tyX4 tyX4_ok nmX4 hown hK.1 hO hS (Or.inl rfl) rfl 0 (by decide) (hts (.fieldLink RX4 11 "SharesDesk$Slip" "owner" "I") (by decide +kernel)) rfl (by decide +kernel) rfl rfl (Nat.le_of_ble_eq_true rfl) dX4_init_6 (fun H locs hz hkp hO hS => ?_)
  replace hsz := hz.trans hsz
  refine lv_aload_n hx hb dX4_init_9 rfl (lv_at hl 0 rfl) ?_
  refine lv_sipush (v := 1411) hx hb dX4_init_10 (by decide) ?_
  refine xr_newa (atype := .char) (cA := gC g) (N := 1411) hx hb (hts (.arrayClass .char) (by decide +kernel)) (hK.1.2 1 (gC g, .char) rfl).2 rfl hS (by decide) (by decide) (by decide) (Nat.le_of_ble_eq_true rfl) (Nat.le_of_ble_eq_true rfl) dX4_init_13 (fun H hz hkp hC hS => ?_)
  refine W.widen (k := 1) (n := 1411) (Nat.le_of_ble_eq_true rfl) (Nat.le_of_ble_eq_true rfl) ?_
  rw [hsz] at hC hz hkp ⊢
  replace hO := hO.kept (hkp _ (by omega))
  have hsz := hz
  refine xr_putF (ci := 4) (v := .ref (a + 1)) (ty := .array .char) (C := RX4) (T := TX4) (N := 5) hx hb hts (by decide +kernel) tyX4 tyX4_ok nmX4 hown hK.1 hO hS (Or.inl rfl) rfl 1 (by decide) (hts (.fieldLink RX4 17 "SharesDesk$Slip" "text" "[C") (by decide +kernel)) rfl hnm rfl (by decide +kernel) rfl rfl (Nat.le_of_ble_eq_true rfl) dX4_init_15 (fun H locs hz hkp hO hS => ?_)
  replace hC := hC.kept (hkp _ (by omega))
  replace hsz := hz.trans hsz
  refine lv_aload_n hx hb dX4_init_18 rfl (lv_at hl 0 rfl) ?_
  refine lv_bipush (v := 39) hx hb dX4_init_19 (by decide) ?_
  refine xr_newa (atype := .char) (cA := gC g) (N := 39) hx hb (hts (.arrayClass .char) (by decide +kernel)) (hK.1.2 1 (gC g, .char) rfl).2 rfl hS (by decide) (by decide) (by decide) (Nat.le_of_ble_eq_true rfl) (Nat.le_of_ble_eq_true rfl) dX4_init_21 (fun H hz hkp hD hS => ?_)
  refine W.widen (k := 2) (n := 1450) (Nat.le_of_ble_eq_true rfl) (Nat.le_of_ble_eq_true rfl) ?_
  rw [hsz] at hD hz hkp ⊢
  replace hC := hC.kept (hkp _ (by omega))
  replace hO := hO.kept (hkp _ (by omega))
  have hsz := hz
  refine xr_putF (ci := 4) (v := .ref (a + 2)) (ty := .array .char) (C := RX4) (T := TX4) (N := 5) hx hb hts (by decide +kernel) tyX4 tyX4_ok nmX4 hown hK.1 hO hS (Or.inl rfl) rfl 3 (by decide) (hts (.fieldLink RX4 21 "SharesDesk$Slip" "digits" "[C") (by decide +kernel)) rfl hnm rfl (by decide +kernel) rfl rfl (Nat.le_of_ble_eq_true rfl) dX4_init_23 (fun H locs hz hkp hO hS => ?_)
  replace hC := hC.kept (hkp _ (by omega))
  replace hD := hD.kept (hkp _ (by omega))
  replace hsz := hz.trans hsz
  refine lv_aload_n hx hb dX4_init_26 rfl (lv_at hl 0 rfl) ?_
  refine xr_new (ci := 0) (fs := [.null]) (C := RX0) (T := TX0) (N := 1) hx hb hts (by decide +kernel) tyX0 tyX0_ok hown (hts (.classLink RX4 1 RX0) (by decide +kernel)) (hts (.instantiable RX0 1) (by decide +kernel)) (hts (.initialized RX0) (by decide +kernel)) hK.1 hS rfl (fun j hj => by rcases (show j = 0 by omega) with rfl <;> rfl) (Nat.le_of_ble_eq_true rfl) (Nat.le_of_ble_eq_true rfl) dX4_init_27 (fun H hz hkp hQ hS => ?_)
  refine W.widen (k := 3) (n := 1451) (Nat.le_of_ble_eq_true rfl) (Nat.le_of_ble_eq_true rfl) ?_
  rw [hsz] at hQ hz hkp ⊢
  replace hC := hC.kept (hkp _ (by omega))
  replace hD := hD.kept (hkp _ (by omega))
  replace hO := hO.kept (hkp _ (by omega))
  have hsz := hz
  refine lv_dup hx hb dX4_init_30 rfl ?_
  refine xr_INv (rest := [.ref (a + 3), .ref a]) ⟨hx, hb, hml, hown, hts⟩ (KK_ok g) hK (c_X0_init l g H (a + 3) hQ hsz) ⟨va_cnB 0 hts gX4_init_X0_init_n24 rfl rfl rfl (hK.2.2.1 (RX4, 24, yX0_init) (by decide +kernel)) (hts (.initialized RX0) (by decide +kernel)) (by decide +kernel) ⟨Nat.le_of_ble_eq_true rfl, Nat.le_of_ble_eq_true rfl⟩, rfl, (hts (.instanceMethod yX0_init) (by decide +kernel))⟩ rfl hl.1 rfl (Nat.le_of_ble_eq_true rfl) dX4_init_31 ⟨Nat.le_of_ble_eq_true rfl, Nat.le_of_ble_eq_true rfl⟩ hS (fun q h => by have h : q = a + 3 ∨ a + 3 + 1 ≤ q := h; show q = a ∨ a + 1 ≤ q; omega) (fun _ H locs hq hz hkp hS => ?_)
  refine W.widen (k := 4) (n := 1455) (Nat.le_of_ble_eq_true rfl) (Nat.le_of_ble_eq_true rfl) ?_
  replace hkp := fun (q : Nat) h1 (h2 : ¬ (q = a + 3 ∨ a + 3 + 1 ≤ q)) => hkp q h1 h2
  replace hC := hC.kept (hkp _ hC.lt (by omega))
  replace hD := hD.kept (hkp _ hD.lt (by omega))
  replace hO := hO.kept (hkp _ hO.lt (by omega))
  obtain ⟨hN, hsz⟩ := hq
  refine xr_putF (ci := 4) (v := .ref (a + 3)) (ty := .object "SharesDesk$Natural") (C := RX4) (T := TX4) (N := 5) hx hb hts (by decide +kernel) tyX4 tyX4_ok nmX4 hown hK.1 hO hS (Or.inl rfl) rfl 4 (by decide) (hts (.fieldLink RX4 25 "SharesDesk$Slip" "rest" "LSharesDesk$Natural;") (by decide +kernel)) rfl hnm rfl (by decide +kernel) rfl rfl (Nat.le_of_ble_eq_true rfl) dX4_init_34 (fun H locs hz hkp hO hS => ?_)
  replace hC := hC.kept (hkp _ (by omega))
  replace hD := hD.kept (hkp _ (by omega))
  replace hN := hN.kept (hkp _ (by omega)) (hkp _ (by omega))
  have hsz := hz.trans hsz
  exact xr_vret hx hb hr hlocks hS ⟨⟨hO, ⟨_, hC, fun j hj => absurd hj (Nat.not_lt_zero j)⟩, by decide, ⟨_, hD⟩, 0, hN⟩, hsz⟩ dX4_init_37
set_option maxHeartbeats 400000 in
set_option maxRecDepth 100000 in
theorem c_X4_clear (l : Launch) (g : WG) (H0 : Heap) (a : Nat) (ow o2 : Int32) (tx : List Nat) (hL : SlipAt g H0 a ow tx) : Ctr l (KK g) yX4_clear wsX4_clear { frames := 0, cells := 0, slots := 0, locals := 0 } [.ref a, .int o2] H0 eV (fun _ H => SlipAt g H a o2 []) (fun q => q = a) := by
  refine xr_enter (cc := cX4_clear) (maxL := 2) (ret := none) (by decide) rfl (Nat.le_of_ble_eq_true rfl) ?_
  intro pgm env s mid below meth cde hx hb hr hml hts hown hlocks hnm hH hK ls hl
  subst hH
  have hl : lv_has ls 2 [(0, .ref a), (1, .int o2)] := hl
  have hS : va_S (fun q => q = a) s.heap s.heap [] := va_S.rf
  obtain ⟨hO, ⟨f, hC, hCf⟩, hle, ⟨fd, hD⟩, ⟨yy, hN⟩⟩ := id hL
  refine lv_aload_n hx hb dX4_clear_0 rfl (lv_at hl 0 rfl) ?_
  refine lv_iload_n hx hb dX4_clear_1 rfl (lv_at hl 1 rfl) ?_
  refine xr_put (ci := 4) (v := .int o2) (ty := .int) (C := RX4) (T := TX4) (N := 5) hx hb hts (by decide +kernel) tyX4 tyX4_ok nmX4 hown hK.1 hO hS rfl rfl 0 (by decide) (hts (.fieldLink RX4 11 "SharesDesk$Slip" "owner" "I") (by decide +kernel)) rfl (by decide +kernel) rfl rfl (Nat.le_of_ble_eq_true rfl) dX4_clear_2 (fun H locs hz hkp hO hS => ?_)
  replace hC := hC.kept (hkp _ (by omega))
  replace hD := hD.kept (hkp _ (by omega))
  replace hN := hN.kept (hkp _ (by omega)) (hkp _ (by omega))
  refine lv_aload_n hx hb dX4_clear_5 rfl (lv_at hl 0 rfl) ?_
  refine lv_iconst (v := 0) hx hb dX4_clear_6 (by decide) ?_
  refine xr_ti (x' := nI 0) rfl ?_
  refine xr_put (ci := 4) (v := .int (nI 0)) (ty := .int) (C := RX4) (T := TX4) (N := 5) hx hb hts (by decide +kernel) tyX4 tyX4_ok nmX4 hown hK.1 hO hS rfl rfl 2 (by decide) (hts (.fieldLink RX4 29 "SharesDesk$Slip" "length" "I") (by decide +kernel)) rfl (by decide +kernel) rfl rfl (Nat.le_of_ble_eq_true rfl) dX4_clear_7 (fun H locs hz hkp hO hS => ?_)
  replace hC := hC.kept (hkp _ (by omega))
  replace hD := hD.kept (hkp _ (by omega))
  replace hN := hN.kept (hkp _ (by omega)) (hkp _ (by omega))
  exact xr_vret hx hb hr hlocks hS ⟨hO, ⟨f, hC, fun j hj => absurd hj (Nat.not_lt_zero j)⟩, Nat.zero_le _, ⟨fd, hD⟩, yy, hN⟩ dX4_clear_10
set_option maxHeartbeats 400000 in
set_option maxRecDepth 100000 in
theorem c_X4_charOr (l : Launch) (g : WG) (H0 : Heap) (a : Nat) (ow k o2 : Int32) (tx : List Nat) (hL : SlipAt g H0 a ow tx) : Ctr l (KK g) yX4_charOr wsX4_charOr { frames := 0, cells := 0, slots := 0, locals := 0 } [.ref a, .int k, .int o2] H0 eI (fun r H => r = (if 0 ≤ k.toInt ∧ k.toInt < tx.length then nI (tx.getD k.toInt.toNat 0) else o2) ∧ H = H0) (fun _ => False) := by
  refine xr_enter (cc := cX4_charOr) (maxL := 3) (ret := (some .int)) (by decide) rfl (Nat.le_of_ble_eq_true rfl) ?_
  intro pgm env s mid below meth cde hx hb hr hml hts hown hlocks hnm hH hK ls hl
  subst hH
  have hl : lv_has ls 3 [(0, .ref a), (1, .int k), (2, .int o2)] := hl
  have hS : va_S (fun _ => False) s.heap s.heap [] := va_S.rf
  obtain ⟨hO, ⟨f, hC, hCf⟩, hle, ⟨fd, hD⟩, ⟨yy, hN⟩⟩ := id hL
  refine lv_iload_n hx hb dX4_charOr_0 rfl (lv_at hl 1 rfl) ?_
  refine lv_if_lt (tgt := 21) hx hb dX4_charOr_1 (by decide) (fun h0 => ?_) (fun h0 => ?_)
  · have h9 : k.toInt < 0 := Int32.lt_iff_toInt_lt.mp h0
    refine lv_iload_n hx hb dX4_charOr_21 rfl (lv_at hl 2 rfl) ?_
    exact xr_iret hx hb hr hlocks hS ⟨by rw [if_neg (by omega)], rfl⟩ dX4_charOr_22
  · obtain ⟨j, hj, rfl⟩ := nI_of h0
    have ej : (nI j).toInt = (j : Int) := nI_toInt hj
    refine lv_iload_n hx hb dX4_charOr_4 rfl (lv_at hl 1 rfl) ?_
    refine lv_aload_n hx hb dX4_charOr_5 rfl (lv_at hl 0 rfl) ?_
    refine va_get (D := g.1) (ci := 4) (v := .int (nI tx.length)) (C := RX4) (T := TX4) (N := 5) hx hb hts (by decide +kernel) hown hK.1 (xr_one hO) 0 rfl rfl 2 (by decide) (hts (.fieldLink RX4 29 "SharesDesk$Slip" "length" "I") (by decide +kernel)) (fun _ h9 => h9) rfl dX4_charOr_6 ?_
    refine lv_icmp_ge (tgt := 21) hx hb dX4_charOr_9 (by decide) (fun h4 => ?_) (fun h4 => ?_)
    · have h9 : tx.length ≤ j := (nI_leI (by omega) hj).mp h4
      refine lv_iload_n hx hb dX4_charOr_21 rfl (lv_at hl 2 rfl) ?_
      exact xr_iret hx hb hr hlocks hS ⟨by rw [if_neg (by omega)], rfl⟩ dX4_charOr_22
    · have h9 : j < tx.length := Nat.lt_of_not_le fun h => h4 (nI_le h hj)
      refine lv_aload_n hx hb dX4_charOr_12 rfl (lv_at hl 0 rfl) ?_
      refine va_get (D := g.1) (ci := 4) (v := .ref (a + 1)) (C := RX4) (T := TX4) (N := 5) hx hb hts (by decide +kernel) hown hK.1 (xr_one hO) 0 rfl rfl 1 (by decide) (hts (.fieldLink RX4 17 "SharesDesk$Slip" "text" "[C") (by decide +kernel)) (fun _ h9 => h9) rfl dX4_charOr_13 ?_
      refine lv_iload_n hx hb dX4_charOr_16 rfl (lv_at hl 1 rfl) ?_
      refine xr_cald hx hb hK.1 hC 1 rfl (vp_in_nI (show j < 1411 by omega) (by decide)) dX4_charOr_17 ?_
      rw [nI_clamp hj]
      refine xr_ti (x' := nI (tx.getD j 0)) (hCf j h9) ?_
      refine lv_goto (tgt := 22) hx hb dX4_charOr_18 (by decide) ?_
      exact xr_iret hx hb hr hlocks hS ⟨by rw [if_pos (by omega), ej]; rfl, rfl⟩ dX4_charOr_22
set_option maxHeartbeats 400000 in
set_option maxRecDepth 100000 in
theorem c_X4_put (l : Launch) (g : WG) (H0 : Heap) (a : Nat) (ow : Int32) (c : Nat) (tx : List Nat) (hL : SlipAt g H0 a ow tx) (hlt : tx.length < 1411) (hc16 : c < 65536) : Ctr l (KK g) yX4_put wsX4_put { frames := 0, cells := 0, slots := 0, locals := 0 } [.ref a, .int (nI c)] H0 eV (fun _ H => SlipAt g H a ow (tx ++ [c])) (fun q => q = a ∨ q = a + 1) := by
  refine xr_enter (cc := cX4_put) (maxL := 2) (ret := none) (by decide) rfl (Nat.le_of_ble_eq_true rfl) ?_
  intro pgm env s mid below meth cde hx hb hr hml hts hown hlocks hnm hH hK ls hl
  subst hH
  have hl : lv_has ls 2 [(0, .ref a), (1, .int (nI c))] := hl
  have hS : va_S (fun q => q = a ∨ q = a + 1) s.heap s.heap [] := va_S.rf
  obtain ⟨hO, ⟨f, hC, hCf⟩, hle, ⟨fd, hD⟩, ⟨yy, hN⟩⟩ := id hL
  refine lv_aload_n hx hb dX4_put_0 rfl (lv_at hl 0 rfl) ?_
  refine va_get (D := g.1) (ci := 4) (v := .int (nI tx.length)) (C := RX4) (T := TX4) (N := 5) hx hb hts (by decide +kernel) hown hK.1 (xr_one hO) 0 rfl rfl 2 (by decide) (hts (.fieldLink RX4 29 "SharesDesk$Slip" "length" "I") (by decide +kernel)) (fun _ h9 => h9) rfl dX4_put_1 ?_
  refine lv_aload_n hx hb dX4_put_4 rfl (lv_at hl 0 rfl) ?_
  refine va_get (D := g.1) (ci := 4) (v := .ref (a + 1)) (C := RX4) (T := TX4) (N := 5) hx hb hts (by decide +kernel) hown hK.1 (xr_one hO) 0 rfl rfl 1 (by decide) (hts (.fieldLink RX4 17 "SharesDesk$Slip" "text" "[C") (by decide +kernel)) (fun _ h9 => h9) rfl dX4_put_5 ?_
  refine xr_alen hx hb hK.1 hC 1 rfl dX4_put_8 ?_
  refine lv_icmp_ge (tgt := 29) hx hb dX4_put_9 (by decide) (fun hc => ?_) (fun hc => ?_)
  · exact absurd ((nI_leI (by decide) (by omega)).mp hc) (by omega)
  · clear hc
    refine lv_aload_n hx hb dX4_put_12 rfl (lv_at hl 0 rfl) ?_
    refine va_get (D := g.1) (ci := 4) (v := .ref (a + 1)) (C := RX4) (T := TX4) (N := 5) hx hb hts (by decide +kernel) hown hK.1 (xr_one hO) 0 rfl rfl 1 (by decide) (hts (.fieldLink RX4 17 "SharesDesk$Slip" "text" "[C") (by decide +kernel)) (fun _ h9 => h9) rfl dX4_put_13 ?_
    refine lv_aload_n hx hb dX4_put_16 rfl (lv_at hl 0 rfl) ?_
    refine lv_dup hx hb dX4_put_17 rfl ?_
    refine va_get (D := g.1) (ci := 4) (v := .int (nI tx.length)) (C := RX4) (T := TX4) (N := 5) hx hb hts (by decide +kernel) hown hK.1 (xr_one hO) 0 rfl rfl 2 (by decide) (hts (.fieldLink RX4 29 "SharesDesk$Slip" "length" "I") (by decide +kernel)) (fun _ h9 => h9) rfl dX4_put_18 ?_
    refine lv_dup_x1 hx hb dX4_put_21 rfl rfl ?_
    refine lv_iconst (v := 1) hx hb dX4_put_22 (by decide) ?_
    refine lv_iadd hx hb dX4_put_23 ?_
    refine xr_ti (x' := nI (tx.length + 1)) (nI_1 _) ?_
    refine xr_put (ci := 4) (v := .int (nI (tx.length + 1))) (ty := .int) (C := RX4) (T := TX4) (N := 5) hx hb hts (by decide +kernel) tyX4 tyX4_ok nmX4 hown hK.1 hO hS (Or.inl rfl) rfl 2 (by decide) (hts (.fieldLink RX4 29 "SharesDesk$Slip" "length" "I") (by decide +kernel)) rfl (by decide +kernel) rfl rfl (Nat.le_of_ble_eq_true rfl) dX4_put_24 (fun H locs hz hkp hO hS => ?_)
    replace hC := hC.kept (hkp _ (by omega))
    replace hD := hD.kept (hkp _ (by omega))
    replace hN := hN.kept (hkp _ (by omega)) (hkp _ (by omega))
    refine lv_iload_n hx hb dX4_put_27 rfl (lv_at hl 1 rfl) ?_
    refine xr_cast hx hb hK.1 hS (Or.inr rfl) hC 1 rfl (vp_in_nI hlt (by decide)) dX4_put_28 (fun H locs hz hkp hC hS => ?_)
    rw [nI_clamp (by omega), c_nar hc16] at hC
    replace hD := hD.kept (hkp _ (by omega))
    replace hN := hN.kept (hkp _ (by omega)) (hkp _ (by omega))
    replace hO := hO.kept (hkp _ (by omega))
    have el : (tx ++ [c]).length = tx.length + 1 := by simp
    rw [← el] at hO
    exact xr_vret hx hb hr hlocks hS ⟨hO, ⟨_, hC, fun j hj => gd_app hCf hj⟩, by omega, ⟨fd, hD⟩, yy, hN⟩ dX4_put_29
set_option maxHeartbeats 400000 in
set_option maxRecDepth 100000 in
theorem c_X4_putProject (l : Launch) (g : WG) (H0 : Heap) (a : Nat) (ow : Int32) (p : Nat) (tx : List Nat) (hL : SlipAt g H0 a ow tx) (hlt : tx.length + 3 ≤ 1411) (hp : p < 100) : Ctr l (KK g) yX4_putProject wsX4_putProject { frames := 1, cells := 0, slots := 0, locals := 21 } [.ref a, .int (nI p)] H0 eV (fun _ H => SlipAt g H a ow (tx ++ [48 + p / 10, 48 + p % 10, 32])) (fun q => q = a ∨ q = a + 1) := by
  refine xr_enter (cc := cX4_putProject) (maxL := 2) (ret := none) (by decide) rfl (Nat.le_of_ble_eq_true rfl) ?_
  intro pgm env s mid below meth cde hx hb hr hml hts hown hlocks hnm hH hK ls hl
  subst hH
  have hl : lv_has ls 2 [(0, .ref a), (1, .int (nI p))] := hl
  have hS : va_S (fun q => q = a ∨ q = a + 1) s.heap s.heap [] := va_S.rf
  refine lv_aload_n hx hb dX4_putProject_0 rfl (lv_at hl 0 rfl) ?_
  refine lv_bipush (v := 48) hx hb dX4_putProject_1 (by decide) ?_
  refine xr_ti (x' := nI 48) rfl ?_
  refine lv_iload_n hx hb dX4_putProject_3 rfl (lv_at hl 1 rfl) ?_
  refine lv_bipush (v := 10) hx hb dX4_putProject_4 (by decide) ?_
  refine xr_ti (x' := nI 10) rfl ?_
  refine lv_idiv hx hb dX4_putProject_6 (by decide) ?_
  refine xr_ti (x' := nI (p / 10)) (pk_div (by omega) (by decide) (by decide)) ?_
  refine lv_iadd hx hb dX4_putProject_7 ?_
  refine xr_ti (x' := nI (48 + p / 10)) (nI_add _ _) ?_
  refine lv_i2c (v := nI (48 + p / 10)) hx hb dX4_putProject_8 (c_i2c (by omega)) ?_
  refine xr_Vv (rest := []) ⟨hx, hb, hml, hown, hts⟩ (KK_ok g) hK (c_X4_put l g s.heap a ow (48 + p / 10) tx hL (by omega) (by omega)) (cwV 1 hts gX4_putProject_X4_put rfl rfl rfl (by decide +kernel) ⟨Nat.le_of_ble_eq_true rfl, Nat.le_of_ble_eq_true rfl⟩) (xr_rec hK hL.1 rfl) rfl hl.1 rfl (Nat.le_of_ble_eq_true rfl) dX4_putProject_9 ⟨Nat.le_of_ble_eq_true rfl, Nat.le_of_ble_eq_true rfl⟩ hS (fun q h => h) (fun _ H locs hq hz hkp hS => ?_)
  have hL : SlipAt g H a ow (tx ++ [48 + p / 10]) := hq
  refine lv_aload_n hx hb dX4_putProject_12 rfl (lv_at hl 0 rfl) ?_
  refine lv_bipush (v := 48) hx hb dX4_putProject_13 (by decide) ?_
  refine xr_ti (x' := nI 48) rfl ?_
  refine lv_iload_n hx hb dX4_putProject_15 rfl (lv_at hl 1 rfl) ?_
  refine lv_bipush (v := 10) hx hb dX4_putProject_16 (by decide) ?_
  refine xr_ti (x' := nI 10) rfl ?_
  refine lv_irem hx hb dX4_putProject_18 (by decide) ?_
  refine xr_ti (x' := nI (p % 10)) (pk_rem (by omega) (by decide) (by decide)) ?_
  refine lv_iadd hx hb dX4_putProject_19 ?_
  refine xr_ti (x' := nI (48 + p % 10)) (nI_add _ _) ?_
  refine lv_i2c (v := nI (48 + p % 10)) hx hb dX4_putProject_20 (c_i2c (by omega)) ?_
  refine xr_Vv (rest := []) ⟨hx, hb, hml, hown, hts⟩ (KK_ok g) hK (c_X4_put l g H a ow (48 + p % 10) _ hL (by simp; omega) (by omega)) (cwV 1 hts gX4_putProject_X4_put rfl rfl rfl (by decide +kernel) ⟨Nat.le_of_ble_eq_true rfl, Nat.le_of_ble_eq_true rfl⟩) (xr_rec hK hL.1 rfl) rfl hl.1 rfl (Nat.le_of_ble_eq_true rfl) dX4_putProject_21 ⟨Nat.le_of_ble_eq_true rfl, Nat.le_of_ble_eq_true rfl⟩ hS (fun q h => h) (fun _ H locs hq hz hkp hS => ?_)
  have hL : SlipAt g H a ow (tx ++ [48 + p / 10] ++ [48 + p % 10]) := hq
  refine lv_aload_n hx hb dX4_putProject_24 rfl (lv_at hl 0 rfl) ?_
  refine lv_bipush (v := 32) hx hb dX4_putProject_25 (by decide) ?_
  refine xr_ti (x' := nI 32) rfl ?_
  refine xr_Vv (rest := []) ⟨hx, hb, hml, hown, hts⟩ (KK_ok g) hK (c_X4_put l g H a ow 32 _ hL (by simp; omega) (by decide)) (cwV 1 hts gX4_putProject_X4_put rfl rfl rfl (by decide +kernel) ⟨Nat.le_of_ble_eq_true rfl, Nat.le_of_ble_eq_true rfl⟩) (xr_rec hK hL.1 rfl) rfl hl.1 rfl (Nat.le_of_ble_eq_true rfl) dX4_putProject_27 ⟨Nat.le_of_ble_eq_true rfl, Nat.le_of_ble_eq_true rfl⟩ hS (fun q h => h) (fun _ H locs hq hz hkp hS => ?_)
  exact xr_vret hx hb hr hlocks hS (by have h9 : SlipAt g H a ow (tx ++ [48 + p / 10] ++ [48 + p % 10] ++ [32]) := hq; simpa using h9) dX4_putProject_30
set_option maxHeartbeats 1000000 in
set_option maxRecDepth 100000 in
theorem c_X4_putNatural (l : Launch) (g : WG) (H0 : Heap) (a : Nat) (ow : Int32) (b n : Nat) (tx : List Nat) (hL : SlipAt g H0 a ow tx) (hB : NatAt g H0 b n) (hab : b + 1 < a ∨ a + 5 ≤ b) (hlt : tx.length + 39 ≤ 1411) : Ctr l (KK g) yX4_putNatural wsX4_putNatural { frames := 2, cells := 0, slots := 0, locals := 61 } [.ref a, .ref b] H0 eV (fun _ H => SlipAt g H a ow (tx ++ dtx n)) (fun q => a ≤ q ∧ q < a + 5) := by
  refine xr_enter (cc := cX4_putNatural) (maxL := 4) (ret := none) (by decide) rfl (Nat.le_of_ble_eq_true rfl) ?_
  intro pgm env s mid below meth cde hx hb hr hml hts hown hlocks hnm hH hK ls hl
  subst hH
  have hl : lv_has ls 4 [(0, .ref a), (1, .ref b)] := hl
  have hS : va_S (fun q => a ≤ q ∧ q < a + 5) s.heap s.heap [] := va_S.rf
  obtain ⟨hO, ⟨f, hC, hCf⟩, hle, ⟨fd, hD⟩, ⟨yy, hN⟩⟩ := id hL
  have hn128 := hB.2.2
  have out : ∀ (j k : Nat), j ≤ k → k ≤ 39 → dtx n = dg n k → ∀ (H : Heap) (locs : List Loc) (tx1 : List Nat), SlipAt g H a ow tx1 → tx1 ++ dg n j = tx ++ dg n k → ∀ fd : Nat → Int32, xr_ia H (a + 2) (gC g) 39 fd → (∀ i, i < k → fd (38 - i) = nI (48 + n / 10 ^ i % 10)) → va_S (fun q => a ≤ q ∧ q < a + 5) s.heap H locs → ∀ ls : Array Slot, lv_has ls 4 [(3, .int (nI (39 - j))), (0, .ref a)] → W pgm l env { frames := 2, cells := 0, slots := 0, locals := 61 } s mid ([.ref a, .ref b] : List Value).toArray below meth cde H locs 0 0 (MQ below (xr_Post eV (fun _ H => SlipAt g H a ow (tx ++ dtx n)) (fun q => a ≤ q ∧ q < a + 5)) ([.ref a, .ref b] : List Value).toArray s ({ frames := 2, cells := 0, slots := 0, locals := 61 } : Room).cells ({ frames := 2, cells := 0, slots := 0, locals := 61 } : Room).slots (fun q => a ≤ q ∧ q < a + 5)) (F0 mid 49 ls []) := by
    intro j
    induction j with
    | zero =>
      intro k h1 h2 hdt H locs tx1 hL1 htx fd hD hfd hS ls hl
      refine lv_iload_n hx hb dX4_putNatural_49 rfl (lv_at hl 0 rfl) ?_
      refine lv_bipush (v := 39) hx hb dX4_putNatural_50 (by decide) ?_
      refine lv_icmp_ge (tgt := 71) hx hb dX4_putNatural_52 (by decide) (fun hc => ?_) (fun hc => ?_)
      · clear hc
        exact xr_vret hx hb hr hlocks hS (by rw [hdt, ← htx]; simpa [dg] using hL1) dX4_putNatural_71
      · exact absurd (by decide) hc
    | succ j ih =>
      intro k h1 h2 hdt H locs tx1 hL1 htx fd hD hfd hS ls hl
      have hlen : tx1.length + (j + 1) = tx.length + k := by
        have h9 := congrArg List.length htx
        rw [List.length_append, List.length_append, dg_len, dg_len] at h9
        exact h9
      obtain ⟨hO, -⟩ := id hL1
      refine lv_iload_n hx hb dX4_putNatural_49 rfl (lv_at hl 0 rfl) ?_
      refine lv_bipush (v := 39) hx hb dX4_putNatural_50 (by decide) ?_
      refine lv_icmp_ge (tgt := 71) hx hb dX4_putNatural_52 (by decide) (fun hc => ?_) (fun hc => ?_)
      · exact absurd ((nI_leI (a := 39) (b := 39 - (j + 1)) (by decide) (by omega)).mp hc) (by omega)
      · clear hc
        refine lv_aload_n hx hb dX4_putNatural_55 rfl (lv_at hl 1 rfl) ?_
        refine lv_aload_n hx hb dX4_putNatural_56 rfl (lv_at hl 1 rfl) ?_
        refine va_get (D := g.1) (ci := 4) (v := .ref (a + 2)) (C := RX4) (T := TX4) (N := 5) hx hb hts (by decide +kernel) hown hK.1 (xr_one hO) 0 rfl rfl 3 (by decide) (hts (.fieldLink RX4 21 "SharesDesk$Slip" "digits" "[C") (by decide +kernel)) (fun _ h9 => h9) rfl dX4_putNatural_57 ?_
        refine lv_iload_n hx hb dX4_putNatural_60 rfl (lv_at hl 0 rfl) ?_
        refine xr_cald hx hb hK.1 hD 1 rfl (vp_in_nI (show 39 - (j + 1) < 39 by omega) (by decide)) dX4_putNatural_61 ?_
        rw [nI_clamp (by omega), show 39 - (j + 1) = 38 - j by omega]
        refine xr_ti (x' := nI (48 + n / 10 ^ j % 10)) (hfd j (by omega)) ?_
        refine xr_Vv (rest := []) ⟨hx, hb, hml, hown, hts⟩ (KK_ok g) hK (c_X4_put l g H a ow (48 + n / 10 ^ j % 10) tx1 hL1 (by omega) (by omega)) (cwV 1 hts gX4_putNatural_X4_put rfl rfl rfl (by decide +kernel) ⟨Nat.le_of_ble_eq_true rfl, Nat.le_of_ble_eq_true rfl⟩) (xr_rec hK hL1.1 rfl) rfl hl.1 rfl (Nat.le_of_ble_eq_true rfl) dX4_putNatural_62 ⟨Nat.le_of_ble_eq_true rfl, Nat.le_of_ble_eq_true rfl⟩ hS (fun q h => by have h : q = a ∨ q = a + 1 := h; show a ≤ q ∧ q < a + 5; omega) (fun _ H locs hq hz hkp hS => ?_)
        replace hkp := fun (q : Nat) h1 (h2 : ¬ (q = a ∨ q = a + 1)) => hkp q h1 h2
        replace hD := hD.kept (hkp _ hD.lt (by omega))
        have hL1 : SlipAt g H a ow (tx1 ++ [48 + n / 10 ^ j % 10]) := hq
        rw [show 39 - (j + 1) = 38 - j by omega] at hl
        refine lv_iinc (v := nI (39 - j)) (lv' := [(3, .int (nI (39 - j))), (0, .ref a)]) hx hb dX4_putNatural_65 hl (k := 0) rfl ((nI_1 (38 - j)).trans (by rw [show 38 - j + 1 = 39 - j by omega])) (by decide) rfl (fun ls hl => ?_)
        refine lv_goto (tgt := 49) hx hb dX4_putNatural_68 (by decide) ?_
        exact ih k (by omega) h2 hdt H locs _ hL1 (by rw [← htx]; simp [dg]) fd hD hfd hS ls (lv_sub hl [0, 1] rfl)
  have loop : ∀ (r k : Nat), k + r = 39 → (k = 0 ∨ n / 10 ^ k ≠ 0) → ∀ (H : Heap) (locs : List Loc) (fd : Nat → Int32), obj g H a 4 [.int ow, .ref (a + 1), .int (nI tx.length), .ref (a + 2), .ref (a + 3)] → xr_ia H (a + 1) (gC g) 1411 f → xr_ia H (a + 2) (gC g) 39 fd → NatAt g H (a + 3) (n / 10 ^ k) → (∀ i, i < k → fd (38 - i) = nI (48 + n / 10 ^ i % 10)) → va_S (fun q => a ≤ q ∧ q < a + 5) s.heap H locs → ∀ ls : Array Slot, lv_has ls 4 [(2, .int (nI (39 - k))), (0, .ref a)] → W pgm l env { frames := 2, cells := 0, slots := 0, locals := 61 } s mid ([.ref a, .ref b] : List Value).toArray below meth cde H locs 0 0 (MQ below (xr_Post eV (fun _ H => SlipAt g H a ow (tx ++ dtx n)) (fun q => a ≤ q ∧ q < a + 5)) ([.ref a, .ref b] : List Value).toArray s ({ frames := 2, cells := 0, slots := 0, locals := 61 } : Room).cells ({ frames := 2, cells := 0, slots := 0, locals := 61 } : Room).slots (fun q => a ≤ q ∧ q < a + 5)) (F0 mid 11 ls []) := by
    intro r
    induction r with
    | zero =>
      intro k h1 h2
      have e : k = 39 := by omega
      subst e
      exact absurd (d10_39 hn128) (h2.resolve_left (by decide))
    | succ r ih =>
      intro k h1 h2 H locs fd hO hC hD hN hfd hS ls hl
      refine lv_iinc (v := nI (38 - k)) (lv' := [(2, .int (nI (38 - k))), (0, .ref a)]) hx hb dX4_putNatural_11 hl (k := 0) rfl (by rw [show 39 - k = 38 - k + 1 by omega]; exact pk_m1 _) (by decide) rfl (fun ls hl => ?_)
      refine lv_aload_n hx hb dX4_putNatural_14 rfl (lv_at hl 1 rfl) ?_
      refine va_get (D := g.1) (ci := 4) (v := .ref (a + 2)) (C := RX4) (T := TX4) (N := 5) hx hb hts (by decide +kernel) hown hK.1 (xr_one hO) 0 rfl rfl 3 (by decide) (hts (.fieldLink RX4 21 "SharesDesk$Slip" "digits" "[C") (by decide +kernel)) (fun _ h9 => h9) rfl dX4_putNatural_15 ?_
      refine lv_iload_n hx hb dX4_putNatural_18 rfl (lv_at hl 0 rfl) ?_
      refine lv_bipush (v := 48) hx hb dX4_putNatural_19 (by decide) ?_
      refine xr_ti (x' := nI 48) rfl ?_
      refine lv_aload_n hx hb dX4_putNatural_21 rfl (lv_at hl 1 rfl) ?_
      refine va_get (D := g.1) (ci := 4) (v := .ref (a + 3)) (C := RX4) (T := TX4) (N := 5) hx hb hts (by decide +kernel) hown hK.1 (xr_one hO) 0 rfl rfl 4 (by decide) (hts (.fieldLink RX4 25 "SharesDesk$Slip" "rest" "LSharesDesk$Natural;") (by decide +kernel)) (fun _ h9 => h9) rfl dX4_putNatural_22 ?_
      refine lv_bipush (v := 10) hx hb dX4_putNatural_25 (by decide) ?_
      refine xr_ti (x' := nI 10) rfl ?_
      refine xr_Vi (rest := [.int (nI 48), .int (nI (38 - k)), .ref (a + 2)]) ⟨hx, hb, hml, hown, hts⟩ (KK_ok g) hK (c_X0_divide l g H (a + 3) (n / 10 ^ k) 10 hN (by decide) (by decide)) (cwV 1 hts gX4_putNatural_X0_divide rfl rfl rfl (by decide +kernel) ⟨Nat.le_of_ble_eq_true rfl, Nat.le_of_ble_eq_true rfl⟩) (xr_rec hK hN.1 rfl) rfl hl.1 rfl (Nat.le_of_ble_eq_true rfl) dX4_putNatural_27 ⟨Nat.le_of_ble_eq_true rfl, Nat.le_of_ble_eq_true rfl⟩ hS (fun q h => by have h : q = a + 3 + 1 := h; show a ≤ q ∧ q < a + 5; omega) (fun r H locs hq hz hkp hS => ?_)
      replace hkp := fun (q : Nat) h1 (h2 : ¬ (q = a + 3 + 1)) => hkp q h1 h2
      replace hO := hO.kept (hkp _ hO.lt (by omega))
      replace hC := hC.kept (hkp _ hC.lt (by omega))
      replace hD := hD.kept (hkp _ hD.lt (by omega))
      obtain ⟨rfl, hN⟩ := hq
      rw [d10_s] at hN
      refine lv_iadd hx hb dX4_putNatural_30 ?_
      refine xr_ti (x' := nI (48 + n / 10 ^ k % 10)) (nI_add _ _) ?_
      refine lv_i2c (v := nI (48 + n / 10 ^ k % 10)) hx hb dX4_putNatural_31 (c_i2c (by omega)) ?_
      refine xr_cast hx hb hK.1 hS (show a ≤ a + 2 ∧ a + 2 < a + 5 by omega) hD 1 rfl (vp_in_nI (show 38 - k < 39 by omega) (by decide)) dX4_putNatural_32 (fun H locs hz hkp hD hS => ?_)
      rw [nI_clamp (by omega), c_nar (by omega)] at hD
      replace hO := hO.kept (hkp _ (by omega))
      replace hC := hC.kept (hkp _ (by omega))
      replace hN := hN.kept (hkp _ (by omega)) (hkp _ (by omega))
      have hfd : ∀ i, i < k + 1 → upd fd (38 - k) (nI (48 + n / 10 ^ k % 10)) (38 - i) = nI (48 + n / 10 ^ i % 10) := fun i hi => if e : i = k then by rw [e, upd_at] else by rw [upd_ne (by omega), hfd i (by omega)]
      have hL1 : SlipAt g H a ow tx := ⟨hO, ⟨f, hC, hCf⟩, hle, ⟨_, hD⟩, _, hN⟩
      refine lv_iload_n hx hb dX4_putNatural_33 rfl (lv_at hl 0 rfl) ?_
      refine lv_if_le (tgt := 47) hx hb dX4_putNatural_34 (by decide) (fun hc => ?_) (fun hc => ?_)
      · have e : k = 38 := by have := (nI_leI (a := 38 - k) (b := 0) (by omega) (by decide)).mp hc; omega
        refine lv_iload_n hx hb dX4_putNatural_47 rfl (lv_at hl 0 rfl) ?_
        refine lv_istore_n (lv' := [(3, .int (nI (38 - k))), (2, .int (nI (38 - k))), (0, .ref a)]) hx hb dX4_putNatural_48 rfl hl (by decide) rfl (fun ls hl => ?_)
        exact out (k + 1) (k + 1) (Nat.le_refl _) (by omega) (dtx_is (by omega) (by omega) (by subst e; exact d10_39 hn128) (by rcases h2 with h2 | h2; exact Or.inl (by omega); exact Or.inr h2)) H locs tx hL1 rfl _ hD hfd hS ls (by have h9 := lv_sub hl [0, 2] rfl; rw [show 38 - k = 39 - (k + 1) by omega] at h9; exact h9)
      · have hk : k < 38 := Nat.lt_of_not_le fun h => hc (by rw [show 38 - k = 0 by omega]; decide)
        refine lv_aload_n hx hb dX4_putNatural_37 rfl (lv_at hl 1 rfl) ?_
        refine va_get (D := g.1) (ci := 4) (v := .ref (a + 3)) (C := RX4) (T := TX4) (N := 5) hx hb hts (by decide +kernel) hown hK.1 (xr_one hO) 0 rfl rfl 4 (by decide) (hts (.fieldLink RX4 25 "SharesDesk$Slip" "rest" "LSharesDesk$Natural;") (by decide +kernel)) (fun _ h9 => h9) rfl dX4_putNatural_38 ?_
        refine xr_Vi (rest := []) ⟨hx, hb, hml, hown, hts⟩ (KK_ok g) hK (c_X0_isZero l g H (a + 3) (n / 10 ^ (k + 1)) hN) (cwV 0 hts gX4_putNatural_X0_isZero rfl rfl rfl (by decide +kernel) ⟨Nat.le_of_ble_eq_true rfl, Nat.le_of_ble_eq_true rfl⟩) (xr_rec hK hN.1 rfl) rfl hl.1 rfl (Nat.le_of_ble_eq_true rfl) dX4_putNatural_41 ⟨Nat.le_of_ble_eq_true rfl, Nat.le_of_ble_eq_true rfl⟩ hS (fun q h => h.elim) (fun r H locs hq hz hkp hS96 => ?_)
        obtain ⟨rfl, rfl⟩ := hq
        have hS := hS96
        refine lv_if_eq (tgt := 11) hx hb dX4_putNatural_44 (by decide) (fun hd => ?_) (fun hd => ?_)
        · have h0 : ¬ n / 10 ^ (k + 1) = 0 := of_decide_eq_false (b2i_0.mp hd)
          exact ih (k + 1) (by omega) (Or.inr h0) H locs _ hO hC hD hN hfd hS ls (by have h9 := lv_sub hl [0, 1] rfl; rw [show 38 - k = 39 - (k + 1) by omega] at h9; exact h9)
        · have h0 : n / 10 ^ (k + 1) = 0 := of_decide_eq_true (b2i_n0.mp hd)
          refine lv_iload_n hx hb dX4_putNatural_47 rfl (lv_at hl 0 rfl) ?_
          refine lv_istore_n (lv' := [(3, .int (nI (38 - k))), (2, .int (nI (38 - k))), (0, .ref a)]) hx hb dX4_putNatural_48 rfl hl (by decide) rfl (fun ls hl => ?_)
          exact out (k + 1) (k + 1) (Nat.le_refl _) (by omega) (dtx_is (by omega) (by omega) (h0) (by rcases h2 with h2 | h2; exact Or.inl (by omega); exact Or.inr h2)) H locs tx hL1 rfl _ hD hfd hS ls (by have h9 := lv_sub hl [0, 2] rfl; rw [show 38 - k = 39 - (k + 1) by omega] at h9; exact h9)
  refine lv_aload_n hx hb dX4_putNatural_0 rfl (lv_at hl 0 rfl) ?_
  refine va_get (D := g.1) (ci := 4) (v := .ref (a + 3)) (C := RX4) (T := TX4) (N := 5) hx hb hts (by decide +kernel) hown hK.1 (xr_one hO) 0 rfl rfl 4 (by decide) (hts (.fieldLink RX4 25 "SharesDesk$Slip" "rest" "LSharesDesk$Natural;") (by decide +kernel)) (fun _ h9 => h9) rfl dX4_putNatural_1 ?_
  refine lv_aload_n hx hb dX4_putNatural_4 rfl (lv_at hl 1 rfl) ?_
  refine xr_Vv (rest := []) ⟨hx, hb, hml, hown, hts⟩ (KK_ok g) hK (c_X0_copy l g s.heap (a + 3) b yy n hN hB (by omega)) (cwV 1 hts gX4_putNatural_X0_copy rfl rfl rfl (by decide +kernel) ⟨Nat.le_of_ble_eq_true rfl, Nat.le_of_ble_eq_true rfl⟩) (xr_rec hK hN.1 rfl) rfl hl.1 rfl (Nat.le_of_ble_eq_true rfl) dX4_putNatural_5 ⟨Nat.le_of_ble_eq_true rfl, Nat.le_of_ble_eq_true rfl⟩ hS (fun q h => by have h : q = a + 3 + 1 := h; show a ≤ q ∧ q < a + 5; omega) (fun _ H locs hq hz hkp hS => ?_)
  replace hkp := fun (q : Nat) h1 (h2 : ¬ (q = a + 3 + 1)) => hkp q h1 h2
  replace hO := hO.kept (hkp _ hO.lt (by omega))
  replace hC := hC.kept (hkp _ hC.lt (by omega))
  replace hD := hD.kept (hkp _ hD.lt (by omega))
  have hN : NatAt g H (a + 3) n := hq
  refine lv_bipush (v := 39) hx hb dX4_putNatural_8 (by decide) ?_
  refine xr_ti (x' := nI (39 - 0)) rfl ?_
  refine lv_istore_n (lv' := [(2, .int (nI (39 - 0))), (0, .ref a), (1, .ref b)]) hx hb dX4_putNatural_10 rfl hl (by decide) rfl (fun ls hl => ?_)
  exact loop 39 0 (by omega) (Or.inl rfl) H locs fd hO hC hD (by rw [Nat.pow_zero, Nat.div_one]; exact hN) (fun i hi => absurd hi (Nat.not_lt_zero i)) hS ls (lv_sub hl [0, 1] rfl)
set_option maxHeartbeats 400000 in
set_option maxRecDepth 100000 in
theorem c_X4_putRatio (l : Launch) (g : WG) (H0 : Heap) (a : Nat) (ow : Int32) (b t u : Nat) (tx : List Nat) (hL : SlipAt g H0 a ow tx) (hB : RatioAt g H0 b t u) (hab : b + 5 ≤ a ∨ a + 5 ≤ b) (hlt : tx.length + 79 ≤ 1411) : Ctr l (KK g) yX4_putRatio wsX4_putRatio { frames := 3, cells := 0, slots := 0, locals := 84 } [.ref a, .ref b] H0 eV (fun _ H => SlipAt g H a ow (tx ++ rtx t u)) (fun q => a ≤ q ∧ q < a + 5) := by
  refine xr_enter (cc := cX4_putRatio) (maxL := 2) (ret := none) (by decide) rfl (Nat.le_of_ble_eq_true rfl) ?_
  intro pgm env s mid below meth cde hx hb hr hml hts hown hlocks hnm hH hK ls hl
  subst hH
  have hl : lv_has ls 2 [(0, .ref a), (1, .ref b)] := hl
  have hS : va_S (fun q => a ≤ q ∧ q < a + 5) s.heap s.heap [] := va_S.rf
  obtain ⟨hO, hN1, hN2⟩ := id hB
  have hdl := dtx_len t
  refine lv_aload_n hx hb dX4_putRatio_0 rfl (lv_at hl 0 rfl) ?_
  refine lv_aload_n hx hb dX4_putRatio_1 rfl (lv_at hl 1 rfl) ?_
  refine va_get (D := g.1) (ci := 2) (v := .ref (b + 1)) (C := RX2) (T := TX2) (N := 2) hx hb hts (by decide +kernel) hown hK.1 (xr_one hO) 0 rfl rfl 0 (by decide) (hts (.fieldLink RX4 36 "SharesDesk$Ratio" "top" "LSharesDesk$Natural;") (by decide +kernel)) (fun _ h9 => h9) rfl dX4_putRatio_2 ?_
  refine xr_Vv (rest := []) ⟨hx, hb, hml, hown, hts⟩ (KK_ok g) hK (c_X4_putNatural l g s.heap a ow (b + 1) t tx hL hN1 (by omega) (by omega)) (cwV 1 hts gX4_putRatio_X4_putNatural rfl rfl rfl (by decide +kernel) ⟨Nat.le_of_ble_eq_true rfl, Nat.le_of_ble_eq_true rfl⟩) (xr_rec hK hL.1 rfl) rfl hl.1 rfl (Nat.le_of_ble_eq_true rfl) dX4_putRatio_5 ⟨Nat.le_of_ble_eq_true rfl, Nat.le_of_ble_eq_true rfl⟩ hS (fun q h => h) (fun _ H locs hq hz hkp hS => ?_)
  replace hkp := fun (q : Nat) h1 (h2 : ¬ (a ≤ q ∧ q < a + 5)) => hkp q h1 h2
  replace hO := hO.kept (hkp _ hO.lt (by omega))
  replace hN2 := hN2.kept (hkp _ hN2.1.lt (by omega)) (hkp _ hN2.2.1.lt (by omega))
  have hL : SlipAt g H a ow (tx ++ dtx t) := hq
  refine lv_aload_n hx hb dX4_putRatio_8 rfl (lv_at hl 1 rfl) ?_
  refine va_get (D := g.1) (ci := 2) (v := .ref (b + 3)) (C := RX2) (T := TX2) (N := 2) hx hb hts (by decide +kernel) hown hK.1 (xr_one hO) 0 rfl rfl 1 (by decide) (hts (.fieldLink RX4 45 "SharesDesk$Ratio" "bottom" "LSharesDesk$Natural;") (by decide +kernel)) (fun _ h9 => h9) rfl dX4_putRatio_9 ?_
  refine xr_Vi (rest := []) ⟨hx, hb, hml, hown, hts⟩ (KK_ok g) hK (c_X0_isOne l g H (b + 3) u hN2) (cwV 0 hts gX4_putRatio_X0_isOne rfl rfl rfl (by decide +kernel) ⟨Nat.le_of_ble_eq_true rfl, Nat.le_of_ble_eq_true rfl⟩) (xr_rec hK hN2.1 rfl) rfl hl.1 rfl (Nat.le_of_ble_eq_true rfl) dX4_putRatio_12 ⟨Nat.le_of_ble_eq_true rfl, Nat.le_of_ble_eq_true rfl⟩ hS (fun q h => h.elim) (fun r H locs hq hz hkp hS97 => ?_)
  obtain ⟨rfl, rfl⟩ := hq
  have hS := hS97
  refine lv_if_ne (tgt := 32) hx hb dX4_putRatio_15 (by decide) (fun hc => ?_) (fun hc => ?_)
  · have h1 : u = 1 := of_decide_eq_true (b2i_n0.mp hc)
    exact xr_vret hx hb hr hlocks hS (by unfold rtx; rw [if_pos h1, List.append_nil]; exact hL) dX4_putRatio_32
  · have h1 : ¬ u = 1 := of_decide_eq_false (b2i_0.mp hc)
    refine lv_aload_n hx hb dX4_putRatio_18 rfl (lv_at hl 0 rfl) ?_
    refine lv_bipush (v := 47) hx hb dX4_putRatio_19 (by decide) ?_
    refine xr_ti (x' := nI 47) rfl ?_
    refine xr_Vv (rest := []) ⟨hx, hb, hml, hown, hts⟩ (KK_ok g) hK (c_X4_put l g H a ow 47 _ hL (by simp; omega) (by decide)) (cwV 1 hts gX4_putRatio_X4_put rfl rfl rfl (by decide +kernel) ⟨Nat.le_of_ble_eq_true rfl, Nat.le_of_ble_eq_true rfl⟩) (xr_rec hK hL.1 rfl) rfl hl.1 rfl (Nat.le_of_ble_eq_true rfl) dX4_putRatio_21 ⟨Nat.le_of_ble_eq_true rfl, Nat.le_of_ble_eq_true rfl⟩ hS (fun q h => by have h : q = a ∨ q = a + 1 := h; show a ≤ q ∧ q < a + 5; omega) (fun _ H locs hq hz hkp hS => ?_)
    replace hkp := fun (q : Nat) h1 (h2 : ¬ (q = a ∨ q = a + 1)) => hkp q h1 h2
    replace hO := hO.kept (hkp _ hO.lt (by omega))
    replace hN2 := hN2.kept (hkp _ hN2.1.lt (by omega)) (hkp _ hN2.2.1.lt (by omega))
    have hL : SlipAt g H a ow (tx ++ dtx t ++ [47]) := hq
    refine lv_aload_n hx hb dX4_putRatio_24 rfl (lv_at hl 0 rfl) ?_
    refine lv_aload_n hx hb dX4_putRatio_25 rfl (lv_at hl 1 rfl) ?_
    refine va_get (D := g.1) (ci := 2) (v := .ref (b + 3)) (C := RX2) (T := TX2) (N := 2) hx hb hts (by decide +kernel) hown hK.1 (xr_one hO) 0 rfl rfl 1 (by decide) (hts (.fieldLink RX4 45 "SharesDesk$Ratio" "bottom" "LSharesDesk$Natural;") (by decide +kernel)) (fun _ h9 => h9) rfl dX4_putRatio_26 ?_
    refine xr_Vv (rest := []) ⟨hx, hb, hml, hown, hts⟩ (KK_ok g) hK (c_X4_putNatural l g H a ow (b + 3) u _ hL hN2 (by omega) (by simp; omega)) (cwV 1 hts gX4_putRatio_X4_putNatural rfl rfl rfl (by decide +kernel) ⟨Nat.le_of_ble_eq_true rfl, Nat.le_of_ble_eq_true rfl⟩) (xr_rec hK hL.1 rfl) rfl hl.1 rfl (Nat.le_of_ble_eq_true rfl) dX4_putRatio_29 ⟨Nat.le_of_ble_eq_true rfl, Nat.le_of_ble_eq_true rfl⟩ hS (fun q h => h) (fun _ H locs hq hz hkp hS => ?_)
    exact xr_vret hx hb hr hlocks hS (by have h9 : SlipAt g H a ow (tx ++ dtx t ++ [47] ++ dtx u) := hq; unfold rtx; rw [if_neg h1]; simpa using h9) dX4_putRatio_32
