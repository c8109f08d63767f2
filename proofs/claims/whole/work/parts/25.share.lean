set_option maxHeartbeats 400000 in
set_option maxRecDepth 100000 in
theorem c_X3_init (l : Launch) (g : WG) (H0 : Heap) (a : Nat) (hO : obj g H0 a 3 [.null, .int 0, .null, .null]) (hsz : H0.size = a + 1) : Ctr l (KK g) yX3_init wsX3_init { frames := 2, cells := 6, slots := 15, locals := 32 } [.ref a] H0 eV (fun _ H => ShareAt g H a 0 0 ∧ H.size = a + 7) (fun q => q = a ∨ a + 1 ≤ q) := by
  refine xr_enter (cc := cX3_init) (maxL := 1) (ret := none) (by decide) rfl (Nat.le_of_ble_eq_true rfl) ?_
  intro pgm env s mid below meth cde hx hb hr hml hts hown hlocks hnm hH hK ls hl
  subst hH
  have hl : lv_has ls 1 [(0, .ref a)] := hl
  have hS : va_S (fun q => q = a ∨ a + 1 ≤ q) s.heap s.heap [] := va_S.rf
  refine lv_aload_n hx hb dX3_init_0 rfl (lv_at hl 0 rfl) ?_
  refine W.objInit hx hb hown (hts (.methodLink RX3 1 objectInit) (by decide +kernel)) (hts (.instanceMethod objectInit) (by decide +kernel)) (hts _ (List.mem_cons_of_mem _ (List.mem_append_left _ (List.mem_append_left _ (List.mem_of_getElem? (i := 2) rfl))))) rfl (by rw [hml]; exact hl.1) rfl dX3_init_1 (Nat.le_of_ble_eq_true rfl) (Nat.le_of_ble_eq_true rfl) ?_
  refine W.eq (g2 := F0 mid 4 ls []) rfl ?_
  refine lv_aload_n hx hb dX3_init_4 rfl (lv_at hl 0 rfl) ?_
  refine xr_new (ci := 0) (fs := [.null]) (C := RX0) (T := TX0) (N := 1) hx hb hts (by decide +kernel) tyX0 tyX0_ok hown (hts (.classLink RX3 7 RX0) (by decide +kernel)) (hts (.instantiable RX0 1) (by decide +kernel)) (hts (.initialized RX0) (by decide +kernel)) hK.1 hS rfl (fun j hj => by rcases (show j = 0 by omega) with rfl <;> rfl) (Nat.le_of_ble_eq_true rfl) (Nat.le_of_ble_eq_true rfl) dX3_init_5 (fun H hz hkp hQ hS => ?_)
  refine W.widen (k := 1) (n := 1) (Nat.le_of_ble_eq_true rfl) (Nat.le_of_ble_eq_true rfl) ?_
  rw [hsz] at hQ hz hkp ⊢
  replace hO := hO.kept (hkp _ (by omega))
  have hsz := hz
  refine lv_dup hx hb dX3_init_8 rfl ?_
  refine xr_INv (rest := [.ref (a + 1), .ref a]) ⟨hx, hb, hml, hown, hts⟩ (KK_ok g) hK (c_X0_init l g H (a + 1) hQ hsz) ⟨va_cnB 0 hts gX3_init_X0_init_n9 rfl rfl rfl (hK.2.2.1 (RX3, 9, yX0_init) (by decide +kernel)) (hts (.initialized RX0) (by decide +kernel)) (by decide +kernel) ⟨Nat.le_of_ble_eq_true rfl, Nat.le_of_ble_eq_true rfl⟩, rfl, (hts (.instanceMethod yX0_init) (by decide +kernel))⟩ rfl hl.1 rfl (Nat.le_of_ble_eq_true rfl) dX3_init_9 ⟨Nat.le_of_ble_eq_true rfl, Nat.le_of_ble_eq_true rfl⟩ hS (fun q h => by have h : q = a + 1 ∨ a + 1 + 1 ≤ q := h; show q = a ∨ a + 1 ≤ q; omega) (fun _ H locs hq hz hkp hS => ?_)
  refine W.widen (k := 2) (n := 5) (Nat.le_of_ble_eq_true rfl) (Nat.le_of_ble_eq_true rfl) ?_
  replace hkp := fun (q : Nat) h1 (h2 : ¬ (q = a + 1 ∨ a + 1 + 1 ≤ q)) => hkp q h1 h2
  replace hO := hO.kept (hkp _ hO.lt (by omega))
  obtain ⟨hN1, hsz⟩ := hq
  refine xr_putF (ci := 3) (v := .ref (a + 1)) (ty := .object "SharesDesk$Natural") (C := RX3) (T := TX3) (N := 4) hx hb hts (by decide +kernel) tyX3 tyX3_ok nmX3 hown hK.1 hO hS (Or.inl rfl) rfl 0 (by decide) (hts (.fieldLink RX3 10 "SharesDesk$Share" "rest" "LSharesDesk$Natural;") (by decide +kernel)) rfl hnm rfl (by decide +kernel) rfl rfl (Nat.le_of_ble_eq_true rfl) dX3_init_12 (fun H locs hz hkp hO hS => ?_)
  replace hN1 := hN1.kept (hkp _ (by omega)) (hkp _ (by omega))
  have hsz := hz.trans hsz
  refine lv_aload_n hx hb dX3_init_15 rfl (lv_at hl 0 rfl) ?_
  refine xr_new (ci := 0) (fs := [.null]) (C := RX0) (T := TX0) (N := 1) hx hb hts (by decide +kernel) tyX0 tyX0_ok hown (hts (.classLink RX3 7 RX0) (by decide +kernel)) (hts (.instantiable RX0 1) (by decide +kernel)) (hts (.initialized RX0) (by decide +kernel)) hK.1 hS rfl (fun j hj => by rcases (show j = 0 by omega) with rfl <;> rfl) (Nat.le_of_ble_eq_true rfl) (Nat.le_of_ble_eq_true rfl) dX3_init_16 (fun H hz hkp hQ hS => ?_)
  refine W.widen (k := 3) (n := 6) (Nat.le_of_ble_eq_true rfl) (Nat.le_of_ble_eq_true rfl) ?_
  rw [hsz] at hQ hz hkp ⊢
  replace hN1 := hN1.kept (hkp _ (by omega)) (hkp _ (by omega))
  replace hO := hO.kept (hkp _ (by omega))
  have hsz := hz
  refine lv_dup hx hb dX3_init_19 rfl ?_
  refine xr_INv (rest := [.ref (a + 3), .ref a]) ⟨hx, hb, hml, hown, hts⟩ (KK_ok g) hK (c_X0_init l g H (a + 3) hQ hsz) ⟨va_cnB 0 hts gX3_init_X0_init_n9 rfl rfl rfl (hK.2.2.1 (RX3, 9, yX0_init) (by decide +kernel)) (hts (.initialized RX0) (by decide +kernel)) (by decide +kernel) ⟨Nat.le_of_ble_eq_true rfl, Nat.le_of_ble_eq_true rfl⟩, rfl, (hts (.instanceMethod yX0_init) (by decide +kernel))⟩ rfl hl.1 rfl (Nat.le_of_ble_eq_true rfl) dX3_init_20 ⟨Nat.le_of_ble_eq_true rfl, Nat.le_of_ble_eq_true rfl⟩ hS (fun q h => by have h : q = a + 3 ∨ a + 3 + 1 ≤ q := h; show q = a ∨ a + 1 ≤ q; omega) (fun _ H locs hq hz hkp hS => ?_)
  refine W.widen (k := 4) (n := 10) (Nat.le_of_ble_eq_true rfl) (Nat.le_of_ble_eq_true rfl) ?_
  replace hkp := fun (q : Nat) h1 (h2 : ¬ (q = a + 3 ∨ a + 3 + 1 ≤ q)) => hkp q h1 h2
  replace hN1 := hN1.kept (hkp _ hN1.1.lt (by omega)) (hkp _ hN1.2.1.lt (by omega))
  replace hO := hO.kept (hkp _ hO.lt (by omega))
  obtain ⟨hN2, hsz⟩ := hq
  refine xr_putF (ci := 3) (v := .ref (a + 3)) (ty := .object "SharesDesk$Natural") (C := RX3) (T := TX3) (N := 4) hx hb hts (by decide +kernel) tyX3 tyX3_ok nmX3 hown hK.1 hO hS (Or.inl rfl) rfl 2 (by decide) (hts (.fieldLink RX3 16 "SharesDesk$Share" "left" "LSharesDesk$Natural;") (by decide +kernel)) rfl hnm rfl (by decide +kernel) rfl rfl (Nat.le_of_ble_eq_true rfl) dX3_init_23 (fun H locs hz hkp hO hS => ?_)
  replace hN1 := hN1.kept (hkp _ (by omega)) (hkp _ (by omega))
  replace hN2 := hN2.kept (hkp _ (by omega)) (hkp _ (by omega))
  have hsz := hz.trans hsz
  refine lv_aload_n hx hb dX3_init_26 rfl (lv_at hl 0 rfl) ?_
  refine xr_new (ci := 0) (fs := [.null]) (C := RX0) (T := TX0) (N := 1) hx hb hts (by decide +kernel) tyX0 tyX0_ok hown (hts (.classLink RX3 7 RX0) (by decide +kernel)) (hts (.instantiable RX0 1) (by decide +kernel)) (hts (.initialized RX0) (by decide +kernel)) hK.1 hS rfl (fun j hj => by rcases (show j = 0 by omega) with rfl <;> rfl) (Nat.le_of_ble_eq_true rfl) (Nat.le_of_ble_eq_true rfl) dX3_init_27 (fun H hz hkp hQ hS => ?_)
  refine W.widen (k := 5) (n := 11) (Nat.le_of_ble_eq_true rfl) (Nat.le_of_ble_eq_true rfl) ?_
  rw [hsz] at hQ hz hkp ⊢
  replace hN1 := hN1.kept (hkp _ (by omega)) (hkp _ (by omega))
  replace hN2 := hN2.kept (hkp _ (by omega)) (hkp _ (by omega))
  replace hO := hO.kept (hkp _ (by omega))
  have hsz := hz
  refine lv_dup hx hb dX3_init_30 rfl ?_
  refine xr_INv (rest := [.ref (a + 5), .ref a]) ⟨hx, hb, hml, hown, hts⟩ (KK_ok g) hK (c_X0_init l g H (a + 5) hQ hsz) ⟨va_cnB 0 hts gX3_init_X0_init_n9 rfl rfl rfl (hK.2.2.1 (RX3, 9, yX0_init) (by decide +kernel)) (hts (.initialized RX0) (by decide +kernel)) (by decide +kernel) ⟨Nat.le_of_ble_eq_true rfl, Nat.le_of_ble_eq_true rfl⟩, rfl, (hts (.instanceMethod yX0_init) (by decide +kernel))⟩ rfl hl.1 rfl (Nat.le_of_ble_eq_true rfl) dX3_init_31 ⟨Nat.le_of_ble_eq_true rfl, Nat.le_of_ble_eq_true rfl⟩ hS (fun q h => by have h : q = a + 5 ∨ a + 5 + 1 ≤ q := h; show q = a ∨ a + 1 ≤ q; omega) (fun _ H locs hq hz hkp hS => ?_)
  refine W.widen (k := 6) (n := 15) (Nat.le_of_ble_eq_true rfl) (Nat.le_of_ble_eq_true rfl) ?_
  replace hkp := fun (q : Nat) h1 (h2 : ¬ (q = a + 5 ∨ a + 5 + 1 ≤ q)) => hkp q h1 h2
  replace hN1 := hN1.kept (hkp _ hN1.1.lt (by omega)) (hkp _ hN1.2.1.lt (by omega))
  replace hN2 := hN2.kept (hkp _ hN2.1.lt (by omega)) (hkp _ hN2.2.1.lt (by omega))
  replace hO := hO.kept (hkp _ hO.lt (by omega))
  obtain ⟨hN3, hsz⟩ := hq
  refine xr_putF (ci := 3) (v := .ref (a + 5)) (ty := .object "SharesDesk$Natural") (C := RX3) (T := TX3) (N := 4) hx hb hts (by decide +kernel) tyX3 tyX3_ok nmX3 hown hK.1 hO hS (Or.inl rfl) rfl 3 (by decide) (hts (.fieldLink RX3 19 "SharesDesk$Share" "right" "LSharesDesk$Natural;") (by decide +kernel)) rfl hnm rfl (by decide +kernel) rfl rfl (Nat.le_of_ble_eq_true rfl) dX3_init_34 (fun H locs hz hkp hO hS => ?_)
  replace hN1 := hN1.kept (hkp _ (by omega)) (hkp _ (by omega))
  replace hN2 := hN2.kept (hkp _ (by omega)) (hkp _ (by omega))
  replace hN3 := hN3.kept (hkp _ (by omega)) (hkp _ (by omega))
  have hsz := hz.trans hsz
  exact xr_vret hx hb hr hlocks hS ⟨⟨hO, hN1, ⟨0, hN2⟩, ⟨0, hN3⟩⟩, hsz⟩ dX3_init_37
set_option maxHeartbeats 400000 in
set_option maxRecDepth 100000 in
theorem c_X3_isWithin (l : Launch) (g : WG) (H0 : Heap) (a b r k x : Nat) (hA : ShareAt g H0 a r k) (hB : NatAt g H0 b x) (hab : b + 1 < a ∨ a + 7 ≤ b) (hk : k < 2 ^ 31) (hxk : x * k < 2 ^ 128) : Ctr l (KK g) yX3_isWithin wsX3_isWithin { frames := 2, cells := 0, slots := 0, locals := 61 } [.ref a, .ref b] H0 eI (fun z H => z = b2i (decide (r ≤ x * k)) ∧ ShareAt g H a r k) (fun q => q = a + 4) := by
  refine xr_enter (cc := cX3_isWithin) (maxL := 2) (ret := (some .boolean)) (by decide) rfl (Nat.le_of_ble_eq_true rfl) ?_
  intro pgm env s mid below meth cde hx hb hr hml hts hown hlocks hnm hH hK ls hl
  subst hH
  have hl : lv_has ls 2 [(0, .ref a), (1, .ref b)] := hl
  have hS : va_S (fun q => q = a + 4) s.heap s.heap [] := va_S.rf
  obtain ⟨hO, hN1, ⟨u2, hN2⟩, ⟨u3, hN3⟩⟩ := id hA
  refine lv_aload_n hx hb dX3_isWithin_0 rfl (lv_at hl 0 rfl) ?_
  refine va_get (D := g.1) (ci := 3) (v := .ref (a + 3)) (C := RX3) (T := TX3) (N := 4) hx hb hts (by decide +kernel) hown hK.1 (xr_one hO) 0 rfl rfl 2 (by decide) (hts (.fieldLink RX3 16 "SharesDesk$Share" "left" "LSharesDesk$Natural;") (by decide +kernel)) (fun _ h9 => h9) rfl dX3_isWithin_1 ?_
  refine lv_aload_n hx hb dX3_isWithin_4 rfl (lv_at hl 1 rfl) ?_
  refine xr_Vv (rest := []) ⟨hx, hb, hml, hown, hts⟩ (KK_ok g) hK (c_X0_copy l g s.heap (a + 3) b u2 x hN2 hB (by omega)) (cwV 1 hts gX3_isWithin_X0_copy rfl rfl rfl (by decide +kernel) ⟨Nat.le_of_ble_eq_true rfl, Nat.le_of_ble_eq_true rfl⟩) (xr_rec hK hN2.1 rfl) rfl hl.1 rfl (Nat.le_of_ble_eq_true rfl) dX3_isWithin_5 ⟨Nat.le_of_ble_eq_true rfl, Nat.le_of_ble_eq_true rfl⟩ hS (fun q h => h) (fun _ H locs hq hz hkp hS => ?_)
  replace hkp := fun (q : Nat) h1 (h2 : ¬ (q = a + 3 + 1)) => hkp q h1 h2
  replace hO := hO.kept (hkp _ hO.lt (by omega))
  replace hN1 := hN1.kept (hkp _ hN1.1.lt (by omega)) (hkp _ hN1.2.1.lt (by omega))
  replace hN3 := hN3.kept (hkp _ hN3.1.lt (by omega)) (hkp _ hN3.2.1.lt (by omega))
  replace hB := hB.kept (hkp _ hB.1.lt (by omega)) (hkp _ hB.2.1.lt (by omega))
  have hN2 : NatAt g H (a + 3) x := hq
  refine lv_aload_n hx hb dX3_isWithin_8 rfl (lv_at hl 0 rfl) ?_
  refine va_get (D := g.1) (ci := 3) (v := .ref (a + 3)) (C := RX3) (T := TX3) (N := 4) hx hb hts (by decide +kernel) hown hK.1 (xr_one hO) 0 rfl rfl 2 (by decide) (hts (.fieldLink RX3 16 "SharesDesk$Share" "left" "LSharesDesk$Natural;") (by decide +kernel)) (fun _ h9 => h9) rfl dX3_isWithin_9 ?_
  refine lv_aload_n hx hb dX3_isWithin_12 rfl (lv_at hl 0 rfl) ?_
  refine va_get (D := g.1) (ci := 3) (v := .int (nI k)) (C := RX3) (T := TX3) (N := 4) hx hb hts (by decide +kernel) hown hK.1 (xr_one hO) 0 rfl rfl 1 (by decide) (hts (.fieldLink RX3 26 "SharesDesk$Share" "payers" "I") (by decide +kernel)) (fun _ h9 => h9) rfl dX3_isWithin_13 ?_
  refine xr_Vv (rest := []) ⟨hx, hb, hml, hown, hts⟩ (KK_ok g) hK (c_X0_times l g H (a + 3) x k hN2 hk hxk) (cwV 1 hts gX3_isWithin_X0_times rfl rfl rfl (by decide +kernel) ⟨Nat.le_of_ble_eq_true rfl, Nat.le_of_ble_eq_true rfl⟩) (xr_rec hK hN2.1 rfl) rfl hl.1 rfl (Nat.le_of_ble_eq_true rfl) dX3_isWithin_16 ⟨Nat.le_of_ble_eq_true rfl, Nat.le_of_ble_eq_true rfl⟩ hS (fun q h => h) (fun _ H locs hq hz hkp hS => ?_)
  replace hkp := fun (q : Nat) h1 (h2 : ¬ (q = a + 3 + 1)) => hkp q h1 h2
  replace hO := hO.kept (hkp _ hO.lt (by omega))
  replace hN1 := hN1.kept (hkp _ hN1.1.lt (by omega)) (hkp _ hN1.2.1.lt (by omega))
  replace hN3 := hN3.kept (hkp _ hN3.1.lt (by omega)) (hkp _ hN3.2.1.lt (by omega))
  replace hB := hB.kept (hkp _ hB.1.lt (by omega)) (hkp _ hB.2.1.lt (by omega))
  have hN2 : NatAt g H (a + 3) (x * k) := hq
  refine lv_aload_n hx hb dX3_isWithin_19 rfl (lv_at hl 0 rfl) ?_
  refine va_get (D := g.1) (ci := 3) (v := .ref (a + 3)) (C := RX3) (T := TX3) (N := 4) hx hb hts (by decide +kernel) hown hK.1 (xr_one hO) 0 rfl rfl 2 (by decide) (hts (.fieldLink RX3 16 "SharesDesk$Share" "left" "LSharesDesk$Natural;") (by decide +kernel)) (fun _ h9 => h9) rfl dX3_isWithin_20 ?_
  refine lv_aload_n hx hb dX3_isWithin_23 rfl (lv_at hl 0 rfl) ?_
  refine va_get (D := g.1) (ci := 3) (v := .ref (a + 1)) (C := RX3) (T := TX3) (N := 4) hx hb hts (by decide +kernel) hown hK.1 (xr_one hO) 0 rfl rfl 0 (by decide) (hts (.fieldLink RX3 10 "SharesDesk$Share" "rest" "LSharesDesk$Natural;") (by decide +kernel)) (fun _ h9 => h9) rfl dX3_isWithin_24 ?_
  refine xr_Vi (rest := []) ⟨hx, hb, hml, hown, hts⟩ (KK_ok g) hK (c_X0_against l g H (a + 3) (a + 1) (x * k) r hN2 hN1) (cwV 1 hts gX3_isWithin_X0_against rfl rfl rfl (by decide +kernel) ⟨Nat.le_of_ble_eq_true rfl, Nat.le_of_ble_eq_true rfl⟩) (xr_rec hK hN2.1 rfl) rfl hl.1 rfl (Nat.le_of_ble_eq_true rfl) dX3_isWithin_27 ⟨Nat.le_of_ble_eq_true rfl, Nat.le_of_ble_eq_true rfl⟩ hS (fun q h => h.elim) (fun r H locs hq hz hkp hS9 => ?_)
  obtain ⟨rfl, rfl⟩ := hq
  have hS := hS9
  refine lv_if_lt (tgt := 37) hx hb dX3_isWithin_30 (by decide) (fun hc => ?_) (fun hc => ?_)
  · have h9 : ¬ r ≤ x * k := fun q => cmpI_ge q hc
    refine lv_iconst (v := 0) hx hb dX3_isWithin_37 (by decide) ?_
    exact xr_zret hx hb hr rfl hlocks hS ⟨by rw [decide_eq_false h9]; rfl, hO, hN1, ⟨_, hN2⟩, ⟨_, hN3⟩⟩ dX3_isWithin_38
  · have h9 : r ≤ x * k := Nat.le_of_not_lt fun q => hc (cmpI_l q)
    refine lv_iconst (v := 1) hx hb dX3_isWithin_33 (by decide) ?_
    refine lv_goto (tgt := 38) hx hb dX3_isWithin_34 (by decide) ?_
    exact xr_zret hx hb hr rfl hlocks hS ⟨by rw [decide_eq_true h9]; rfl, hO, hN1, ⟨_, hN2⟩, ⟨_, hN3⟩⟩ dX3_isWithin_38
set_option maxHeartbeats 400000 in
set_option maxRecDepth 100000 in
theorem c_X3_against (l : Launch) (g : WG) (H0 : Heap) (a b r k r2 k2 : Nat) (hA : ShareAt g H0 a r k) (hB : ShareAt g H0 b r2 k2) (hab : b + 7 ≤ a ∨ a + 7 ≤ b) (hk : k < 2 ^ 31) (hk2 : k2 < 2 ^ 31) (h1 : r * k2 < 2 ^ 128) (h2 : r2 * k < 2 ^ 128) : Ctr l (KK g) yX3_against wsX3_against { frames := 2, cells := 0, slots := 0, locals := 61 } [.ref a, .ref b] H0 eI (fun z H => z = cmpI (r * k2) (r2 * k) ∧ ShareAt g H a r k) (fun q => q = a + 4 ∨ q = a + 6) := by
  refine xr_enter (cc := cX3_against) (maxL := 2) (ret := (some .int)) (by decide) rfl (Nat.le_of_ble_eq_true rfl) ?_
  intro pgm env s mid below meth cde hx hb hr hml hts hown hlocks hnm hH hK ls hl
  subst hH
  have hl : lv_has ls 2 [(0, .ref a), (1, .ref b)] := hl
  have hS : va_S (fun q => q = a + 4 ∨ q = a + 6) s.heap s.heap [] := va_S.rf
  obtain ⟨hO, hN1, ⟨u2, hN2⟩, ⟨u3, hN3⟩⟩ := id hA
  obtain ⟨hP, hM1, -, -⟩ := id hB
  refine lv_aload_n hx hb dX3_against_0 rfl (lv_at hl 0 rfl) ?_
  refine va_get (D := g.1) (ci := 3) (v := .ref (a + 3)) (C := RX3) (T := TX3) (N := 4) hx hb hts (by decide +kernel) hown hK.1 (xr_one hO) 0 rfl rfl 2 (by decide) (hts (.fieldLink RX3 16 "SharesDesk$Share" "left" "LSharesDesk$Natural;") (by decide +kernel)) (fun _ h9 => h9) rfl dX3_against_1 ?_
  refine lv_aload_n hx hb dX3_against_4 rfl (lv_at hl 0 rfl) ?_
  refine va_get (D := g.1) (ci := 3) (v := .ref (a + 1)) (C := RX3) (T := TX3) (N := 4) hx hb hts (by decide +kernel) hown hK.1 (xr_one hO) 0 rfl rfl 0 (by decide) (hts (.fieldLink RX3 10 "SharesDesk$Share" "rest" "LSharesDesk$Natural;") (by decide +kernel)) (fun _ h9 => h9) rfl dX3_against_5 ?_
  refine xr_Vv (rest := []) ⟨hx, hb, hml, hown, hts⟩ (KK_ok g) hK (c_X0_copy l g s.heap (a + 3) (a + 1) u2 r hN2 hN1 (by omega)) (cwV 1 hts gX3_against_X0_copy rfl rfl rfl (by decide +kernel) ⟨Nat.le_of_ble_eq_true rfl, Nat.le_of_ble_eq_true rfl⟩) (xr_rec hK hN2.1 rfl) rfl hl.1 rfl (Nat.le_of_ble_eq_true rfl) dX3_against_8 ⟨Nat.le_of_ble_eq_true rfl, Nat.le_of_ble_eq_true rfl⟩ hS (fun q h => by have h : q = a + 3 + 1 := h; show q = a + 4 ∨ q = a + 6; omega) (fun _ H locs hq hz hkp hS => ?_)
  replace hkp := fun (q : Nat) h1 (h2 : ¬ (q = a + 3 + 1)) => hkp q h1 h2
  replace hO := hO.kept (hkp _ hO.lt (by omega))
  replace hP := hP.kept (hkp _ hP.lt (by omega))
  replace hN1 := hN1.kept (hkp _ hN1.1.lt (by omega)) (hkp _ hN1.2.1.lt (by omega))
  replace hN3 := hN3.kept (hkp _ hN3.1.lt (by omega)) (hkp _ hN3.2.1.lt (by omega))
  replace hM1 := hM1.kept (hkp _ hM1.1.lt (by omega)) (hkp _ hM1.2.1.lt (by omega))
  have hN2 : NatAt g H (a + 3) r := hq
  refine lv_aload_n hx hb dX3_against_11 rfl (lv_at hl 0 rfl) ?_
  refine va_get (D := g.1) (ci := 3) (v := .ref (a + 3)) (C := RX3) (T := TX3) (N := 4) hx hb hts (by decide +kernel) hown hK.1 (xr_one hO) 0 rfl rfl 2 (by decide) (hts (.fieldLink RX3 16 "SharesDesk$Share" "left" "LSharesDesk$Natural;") (by decide +kernel)) (fun _ h9 => h9) rfl dX3_against_12 ?_
  refine lv_aload_n hx hb dX3_against_15 rfl (lv_at hl 1 rfl) ?_
  refine va_get (D := g.1) (ci := 3) (v := .int (nI k2)) (C := RX3) (T := TX3) (N := 4) hx hb hts (by decide +kernel) hown hK.1 (xr_one hP) 0 rfl rfl 1 (by decide) (hts (.fieldLink RX3 26 "SharesDesk$Share" "payers" "I") (by decide +kernel)) (fun _ h9 => h9) rfl dX3_against_16 ?_
  refine xr_Vv (rest := []) ⟨hx, hb, hml, hown, hts⟩ (KK_ok g) hK (c_X0_times l g H (a + 3) r k2 hN2 hk2 h1) (cwV 1 hts gX3_against_X0_times rfl rfl rfl (by decide +kernel) ⟨Nat.le_of_ble_eq_true rfl, Nat.le_of_ble_eq_true rfl⟩) (xr_rec hK hN2.1 rfl) rfl hl.1 rfl (Nat.le_of_ble_eq_true rfl) dX3_against_19 ⟨Nat.le_of_ble_eq_true rfl, Nat.le_of_ble_eq_true rfl⟩ hS (fun q h => by have h : q = a + 3 + 1 := h; show q = a + 4 ∨ q = a + 6; omega) (fun _ H locs hq hz hkp hS => ?_)
  replace hkp := fun (q : Nat) h1 (h2 : ¬ (q = a + 3 + 1)) => hkp q h1 h2
  replace hO := hO.kept (hkp _ hO.lt (by omega))
  replace hP := hP.kept (hkp _ hP.lt (by omega))
  replace hN1 := hN1.kept (hkp _ hN1.1.lt (by omega)) (hkp _ hN1.2.1.lt (by omega))
  replace hN3 := hN3.kept (hkp _ hN3.1.lt (by omega)) (hkp _ hN3.2.1.lt (by omega))
  replace hM1 := hM1.kept (hkp _ hM1.1.lt (by omega)) (hkp _ hM1.2.1.lt (by omega))
  have hN2 : NatAt g H (a + 3) (r * k2) := hq
  refine lv_aload_n hx hb dX3_against_22 rfl (lv_at hl 0 rfl) ?_
  refine va_get (D := g.1) (ci := 3) (v := .ref (a + 5)) (C := RX3) (T := TX3) (N := 4) hx hb hts (by decide +kernel) hown hK.1 (xr_one hO) 0 rfl rfl 3 (by decide) (hts (.fieldLink RX3 19 "SharesDesk$Share" "right" "LSharesDesk$Natural;") (by decide +kernel)) (fun _ h9 => h9) rfl dX3_against_23 ?_
  refine lv_aload_n hx hb dX3_against_26 rfl (lv_at hl 1 rfl) ?_
  refine va_get (D := g.1) (ci := 3) (v := .ref (b + 1)) (C := RX3) (T := TX3) (N := 4) hx hb hts (by decide +kernel) hown hK.1 (xr_one hP) 0 rfl rfl 0 (by decide) (hts (.fieldLink RX3 10 "SharesDesk$Share" "rest" "LSharesDesk$Natural;") (by decide +kernel)) (fun _ h9 => h9) rfl dX3_against_27 ?_
  refine xr_Vv (rest := []) ⟨hx, hb, hml, hown, hts⟩ (KK_ok g) hK (c_X0_copy l g H (a + 5) (b + 1) u3 r2 hN3 hM1 (by omega)) (cwV 1 hts gX3_against_X0_copy rfl rfl rfl (by decide +kernel) ⟨Nat.le_of_ble_eq_true rfl, Nat.le_of_ble_eq_true rfl⟩) (xr_rec hK hN3.1 rfl) rfl hl.1 rfl (Nat.le_of_ble_eq_true rfl) dX3_against_30 ⟨Nat.le_of_ble_eq_true rfl, Nat.le_of_ble_eq_true rfl⟩ hS (fun q h => by have h : q = a + 5 + 1 := h; show q = a + 4 ∨ q = a + 6; omega) (fun _ H locs hq hz hkp hS => ?_)
  replace hkp := fun (q : Nat) h1 (h2 : ¬ (q = a + 5 + 1)) => hkp q h1 h2
  replace hO := hO.kept (hkp _ hO.lt (by omega))
  replace hP := hP.kept (hkp _ hP.lt (by omega))
  replace hN1 := hN1.kept (hkp _ hN1.1.lt (by omega)) (hkp _ hN1.2.1.lt (by omega))
  replace hM1 := hM1.kept (hkp _ hM1.1.lt (by omega)) (hkp _ hM1.2.1.lt (by omega))
  replace hN2 := hN2.kept (hkp _ hN2.1.lt (by omega)) (hkp _ hN2.2.1.lt (by omega))
  have hN3 : NatAt g H (a + 5) r2 := hq
  refine lv_aload_n hx hb dX3_against_33 rfl (lv_at hl 0 rfl) ?_
  refine va_get (D := g.1) (ci := 3) (v := .ref (a + 5)) (C := RX3) (T := TX3) (N := 4) hx hb hts (by decide +kernel) hown hK.1 (xr_one hO) 0 rfl rfl 3 (by decide) (hts (.fieldLink RX3 19 "SharesDesk$Share" "right" "LSharesDesk$Natural;") (by decide +kernel)) (fun _ h9 => h9) rfl dX3_against_34 ?_
  refine lv_aload_n hx hb dX3_against_37 rfl (lv_at hl 0 rfl) ?_
  refine va_get (D := g.1) (ci := 3) (v := .int (nI k)) (C := RX3) (T := TX3) (N := 4) hx hb hts (by decide +kernel) hown hK.1 (xr_one hO) 0 rfl rfl 1 (by decide) (hts (.fieldLink RX3 26 "SharesDesk$Share" "payers" "I") (by decide +kernel)) (fun _ h9 => h9) rfl dX3_against_38 ?_
  refine xr_Vv (rest := []) ⟨hx, hb, hml, hown, hts⟩ (KK_ok g) hK (c_X0_times l g H (a + 5) r2 k hN3 hk h2) (cwV 1 hts gX3_against_X0_times rfl rfl rfl (by decide +kernel) ⟨Nat.le_of_ble_eq_true rfl, Nat.le_of_ble_eq_true rfl⟩) (xr_rec hK hN3.1 rfl) rfl hl.1 rfl (Nat.le_of_ble_eq_true rfl) dX3_against_41 ⟨Nat.le_of_ble_eq_true rfl, Nat.le_of_ble_eq_true rfl⟩ hS (fun q h => by have h : q = a + 5 + 1 := h; show q = a + 4 ∨ q = a + 6; omega) (fun _ H locs hq hz hkp hS => ?_)
  replace hkp := fun (q : Nat) h1 (h2 : ¬ (q = a + 5 + 1)) => hkp q h1 h2
  replace hO := hO.kept (hkp _ hO.lt (by omega))
  replace hP := hP.kept (hkp _ hP.lt (by omega))
  replace hN1 := hN1.kept (hkp _ hN1.1.lt (by omega)) (hkp _ hN1.2.1.lt (by omega))
  replace hM1 := hM1.kept (hkp _ hM1.1.lt (by omega)) (hkp _ hM1.2.1.lt (by omega))
  replace hN2 := hN2.kept (hkp _ hN2.1.lt (by omega)) (hkp _ hN2.2.1.lt (by omega))
  have hN3 : NatAt g H (a + 5) (r2 * k) := hq
  refine lv_aload_n hx hb dX3_against_44 rfl (lv_at hl 0 rfl) ?_
  refine va_get (D := g.1) (ci := 3) (v := .ref (a + 3)) (C := RX3) (T := TX3) (N := 4) hx hb hts (by decide +kernel) hown hK.1 (xr_one hO) 0 rfl rfl 2 (by decide) (hts (.fieldLink RX3 16 "SharesDesk$Share" "left" "LSharesDesk$Natural;") (by decide +kernel)) (fun _ h9 => h9) rfl dX3_against_45 ?_
  refine lv_aload_n hx hb dX3_against_48 rfl (lv_at hl 0 rfl) ?_
  refine va_get (D := g.1) (ci := 3) (v := .ref (a + 5)) (C := RX3) (T := TX3) (N := 4) hx hb hts (by decide +kernel) hown hK.1 (xr_one hO) 0 rfl rfl 3 (by decide) (hts (.fieldLink RX3 19 "SharesDesk$Share" "right" "LSharesDesk$Natural;") (by decide +kernel)) (fun _ h9 => h9) rfl dX3_against_49 ?_
  refine xr_Vi (rest := []) ⟨hx, hb, hml, hown, hts⟩ (KK_ok g) hK (c_X0_against l g H (a + 3) (a + 5) (r * k2) (r2 * k) hN2 hN3) (cwV 1 hts gX3_against_X0_against rfl rfl rfl (by decide +kernel) ⟨Nat.le_of_ble_eq_true rfl, Nat.le_of_ble_eq_true rfl⟩) (xr_rec hK hN2.1 rfl) rfl hl.1 rfl (Nat.le_of_ble_eq_true rfl) dX3_against_52 ⟨Nat.le_of_ble_eq_true rfl, Nat.le_of_ble_eq_true rfl⟩ hS (fun q h => h.elim) (fun r H locs hq hz hkp hS9 => ?_)
  obtain ⟨rfl, rfl⟩ := hq
  have hS := hS9
  exact xr_iret hx hb hr hlocks hS ⟨rfl, hO, hN1, ⟨_, hN2⟩, ⟨_, hN3⟩⟩ dX3_against_55
