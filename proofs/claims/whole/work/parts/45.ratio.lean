set_option maxHeartbeats 400000 in
set_option maxRecDepth 100000 in
theorem c_X2_init (l : Launch) (g : WG) (H0 : Heap) (a : Nat) (hO : obj g H0 a 2 [.null, .null]) (hsz : H0.size = a + 1) : Ctr l (KK g) yX2_init wsX2_init { frames := 2, cells := 4, slots := 10, locals := 32 } [.ref a] H0 eV (fun _ H => RatioAt g H a 0 0 ∧ H.size = a + 5) (fun q => q = a ∨ a + 1 ≤ q) := by
  refine xr_enter (cc := cX2_init) (maxL := 1) (ret := none) (by decide) rfl (Nat.le_of_ble_eq_true rfl) ?_
  intro pgm env s mid below meth cde hx hb hr hml hts hown hlocks hnm hH hK ls hl
  subst hH
  have hl : lv_has ls 1 [(0, .ref a)] := hl
  have hS : va_S (fun q => q = a ∨ a + 1 ≤ q) s.heap s.heap [] := va_S.rf
  refine lv_aload_n hx hb dX2_init_0 rfl (lv_at hl 0 rfl) ?_
  refine W.objInit hx hb hown (hts (.methodLink RX2 1 objectInit) (by decide +kernel)) (hts (.instanceMethod objectInit) (by decide +kernel)) (hts _ (List.mem_cons_of_mem _ (List.mem_append_left _ (List.mem_append_left _ (List.mem_of_getElem? (i := 2) rfl))))) rfl (by rw [hml]; exact hl.1) rfl dX2_init_1 (Nat.le_of_ble_eq_true rfl) (Nat.le_of_ble_eq_true rfl) ?_
  refine W.eq (g2 := F0 mid 4 ls []) rfl ?_
  refine lv_aload_n hx hb dX2_init_4 rfl (lv_at hl 0 rfl) ?_
  refine xr_new (ci := 0) (fs := [.null]) (C := RX0) (T := TX0) (N := 1) hx hb hts (by decide +kernel) tyX0 tyX0_ok hown (hts (.classLink RX2 7 RX0) (by decide +kernel)) (hts (.instantiable RX0 1) (by decide +kernel)) (hts (.initialized RX0) (by decide +kernel)) hK.1 hS rfl (fun j hj => by rcases (show j = 0 by omega) with rfl <;> rfl) (Nat.le_of_ble_eq_true rfl) (Nat.le_of_ble_eq_true rfl) dX2_init_5 (fun H hz hkp hQ hS => ?_)
  refine W.widen (k := 1) (n := 1) (Nat.le_of_ble_eq_true rfl) (Nat.le_of_ble_eq_true rfl) ?_
  rw [hsz] at hQ hz hkp ⊢
  replace hO := hO.kept (hkp _ (by omega))
  have hsz := hz
  refine lv_dup hx hb dX2_init_8 rfl ?_
  refine xr_INv (rest := [.ref (a + 1), .ref a]) ⟨hx, hb, hml, hown, hts⟩ (KK_ok g) hK (c_X0_init l g H (a + 1) hQ hsz) ⟨va_cnB 0 hts gX2_init_X0_init_n9 rfl rfl rfl (hK.2.2.1 (RX2, 9, yX0_init) (by decide +kernel)) (hts (.initialized RX0) (by decide +kernel)) (by decide +kernel) ⟨Nat.le_of_ble_eq_true rfl, Nat.le_of_ble_eq_true rfl⟩, rfl, (hts (.instanceMethod yX0_init) (by decide +kernel))⟩ rfl hl.1 rfl (Nat.le_of_ble_eq_true rfl) dX2_init_9 ⟨Nat.le_of_ble_eq_true rfl, Nat.le_of_ble_eq_true rfl⟩ hS (fun q h => by have h : q = a + 1 ∨ a + 1 + 1 ≤ q := h; show q = a ∨ a + 1 ≤ q; omega) (fun _ H locs hq hz hkp hS => ?_)
  refine W.widen (k := 2) (n := 5) (Nat.le_of_ble_eq_true rfl) (Nat.le_of_ble_eq_true rfl) ?_
  replace hkp := fun (q : Nat) h1 (h2 : ¬ (q = a + 1 ∨ a + 1 + 1 ≤ q)) => hkp q h1 h2
  replace hO := hO.kept (hkp _ hO.lt (by omega))
  obtain ⟨hN1, hsz⟩ := hq
  refine xr_putF (ci := 2) (v := .ref (a + 1)) (ty := .object "SharesDesk$Natural") (C := RX2) (T := TX2) (N := 2) hx hb hts (by decide +kernel) tyX2 tyX2_ok nmX2 hown hK.1 hO hS (Or.inl rfl) rfl 0 (by decide) (hts (.fieldLink RX2 10 "SharesDesk$Ratio" "top" "LSharesDesk$Natural;") (by decide +kernel)) rfl hnm rfl (by decide +kernel) rfl rfl (Nat.le_of_ble_eq_true rfl) dX2_init_12 (fun H locs hz hkp hO hS => ?_)
  replace hN1 := hN1.kept (hkp _ (by omega)) (hkp _ (by omega))
  have hsz := hz.trans hsz
  refine lv_aload_n hx hb dX2_init_15 rfl (lv_at hl 0 rfl) ?_
  refine xr_new (ci := 0) (fs := [.null]) (C := RX0) (T := TX0) (N := 1) hx hb hts (by decide +kernel) tyX0 tyX0_ok hown (hts (.classLink RX2 7 RX0) (by decide +kernel)) (hts (.instantiable RX0 1) (by decide +kernel)) (hts (.initialized RX0) (by decide +kernel)) hK.1 hS rfl (fun j hj => by rcases (show j = 0 by omega) with rfl <;> rfl) (Nat.le_of_ble_eq_true rfl) (Nat.le_of_ble_eq_true rfl) dX2_init_16 (fun H hz hkp hQ hS => ?_)
  refine W.widen (k := 3) (n := 6) (Nat.le_of_ble_eq_true rfl) (Nat.le_of_ble_eq_true rfl) ?_
  rw [hsz] at hQ hz hkp ⊢
  replace hN1 := hN1.kept (hkp _ (by omega)) (hkp _ (by omega))
  replace hO := hO.kept (hkp _ (by omega))
  have hsz := hz
  refine lv_dup hx hb dX2_init_19 rfl ?_
  refine xr_INv (rest := [.ref (a + 3), .ref a]) ⟨hx, hb, hml, hown, hts⟩ (KK_ok g) hK (c_X0_init l g H (a + 3) hQ hsz) ⟨va_cnB 0 hts gX2_init_X0_init_n9 rfl rfl rfl (hK.2.2.1 (RX2, 9, yX0_init) (by decide +kernel)) (hts (.initialized RX0) (by decide +kernel)) (by decide +kernel) ⟨Nat.le_of_ble_eq_true rfl, Nat.le_of_ble_eq_true rfl⟩, rfl, (hts (.instanceMethod yX0_init) (by decide +kernel))⟩ rfl hl.1 rfl (Nat.le_of_ble_eq_true rfl) dX2_init_20 ⟨Nat.le_of_ble_eq_true rfl, Nat.le_of_ble_eq_true rfl⟩ hS (fun q h => by have h : q = a + 3 ∨ a + 3 + 1 ≤ q := h; show q = a ∨ a + 1 ≤ q; omega) (fun _ H locs hq hz hkp hS => ?_)
  refine W.widen (k := 4) (n := 10) (Nat.le_of_ble_eq_true rfl) (Nat.le_of_ble_eq_true rfl) ?_
  replace hkp := fun (q : Nat) h1 (h2 : ¬ (q = a + 3 ∨ a + 3 + 1 ≤ q)) => hkp q h1 h2
  replace hN1 := hN1.kept (hkp _ hN1.1.lt (by omega)) (hkp _ hN1.2.1.lt (by omega))
  replace hO := hO.kept (hkp _ hO.lt (by omega))
  obtain ⟨hN2, hsz⟩ := hq
  refine xr_putF (ci := 2) (v := .ref (a + 3)) (ty := .object "SharesDesk$Natural") (C := RX2) (T := TX2) (N := 2) hx hb hts (by decide +kernel) tyX2 tyX2_ok nmX2 hown hK.1 hO hS (Or.inl rfl) rfl 1 (by decide) (hts (.fieldLink RX2 16 "SharesDesk$Ratio" "bottom" "LSharesDesk$Natural;") (by decide +kernel)) rfl hnm rfl (by decide +kernel) rfl rfl (Nat.le_of_ble_eq_true rfl) dX2_init_23 (fun H locs hz hkp hO hS => ?_)
  replace hN1 := hN1.kept (hkp _ (by omega)) (hkp _ (by omega))
  replace hN2 := hN2.kept (hkp _ (by omega)) (hkp _ (by omega))
  have hsz := hz.trans hsz
  exact xr_vret hx hb hr hlocks hS ⟨⟨hO, hN1, hN2⟩, hsz⟩ dX2_init_26
set_option maxHeartbeats 400000 in
set_option maxRecDepth 100000 in
theorem c_X2_takeZero (l : Launch) (g : WG) (H0 : Heap) (a t b : Nat) (hR : RatioAt g H0 a t b) : Ctr l (KK g) yX2_takeZero wsX2_takeZero { frames := 2, cells := 0, slots := 0, locals := 44 } [.ref a] H0 eV (fun _ H => RatioAt g H a 0 1) (fun q => q = a + 2 ∨ q = a + 4) := by
  refine xr_enter (cc := cX2_takeZero) (maxL := 1) (ret := none) (by decide) rfl (Nat.le_of_ble_eq_true rfl) ?_
  intro pgm env s mid below meth cde hx hb hr hml hts hown hlocks hnm hH hK ls hl
  subst hH
  have hl : lv_has ls 1 [(0, .ref a)] := hl
  have hS : va_S (fun q => q = a + 2 ∨ q = a + 4) s.heap s.heap [] := va_S.rf
  obtain ⟨hO, hN1, hN2⟩ := id hR
  refine lv_aload_n hx hb dX2_takeZero_0 rfl (lv_at hl 0 rfl) ?_
  refine va_get (D := g.1) (ci := 2) (v := .ref (a + 1)) (C := RX2) (T := TX2) (N := 2) hx hb hts (by decide +kernel) hown hK.1 (xr_one hO) 0 rfl rfl 0 (by decide) (hts (.fieldLink RX2 10 "SharesDesk$Ratio" "top" "LSharesDesk$Natural;") (by decide +kernel)) (fun _ h9 => h9) rfl dX2_takeZero_1 ?_
  refine lv_iconst (v := 0) hx hb dX2_takeZero_4 (by decide) ?_
  refine xr_ti (x' := nI 0) rfl ?_
  refine xr_Vv (rest := []) ⟨hx, hb, hml, hown, hts⟩ (KK_ok g) hK (c_X0_set l g s.heap (a + 1) t 0 hN1 (by decide)) (cwV 1 hts gX2_takeZero_X0_set rfl rfl rfl (by decide +kernel) ⟨Nat.le_of_ble_eq_true rfl, Nat.le_of_ble_eq_true rfl⟩) (xr_rec hK hN1.1 rfl) rfl hl.1 rfl (Nat.le_of_ble_eq_true rfl) dX2_takeZero_5 ⟨Nat.le_of_ble_eq_true rfl, Nat.le_of_ble_eq_true rfl⟩ hS (fun q h => by have h : q = a + 1 + 1 := h; show q = a + 2 ∨ q = a + 4; omega) (fun _ H locs hq hz hkp hS => ?_)
  replace hkp := fun (q : Nat) h1 (h2 : ¬ (q = a + 1 + 1)) => hkp q h1 h2
  replace hO := hO.kept (hkp _ hO.lt (by omega))
  replace hN2 := hN2.kept (hkp _ hN2.1.lt (by omega)) (hkp _ hN2.2.1.lt (by omega))
  have hN1 : NatAt g H (a + 1) 0 := hq
  refine lv_aload_n hx hb dX2_takeZero_8 rfl (lv_at hl 0 rfl) ?_
  refine va_get (D := g.1) (ci := 2) (v := .ref (a + 3)) (C := RX2) (T := TX2) (N := 2) hx hb hts (by decide +kernel) hown hK.1 (xr_one hO) 0 rfl rfl 1 (by decide) (hts (.fieldLink RX2 16 "SharesDesk$Ratio" "bottom" "LSharesDesk$Natural;") (by decide +kernel)) (fun _ h9 => h9) rfl dX2_takeZero_9 ?_
  refine lv_iconst (v := 1) hx hb dX2_takeZero_12 (by decide) ?_
  refine xr_ti (x' := nI 1) rfl ?_
  refine xr_Vv (rest := []) ⟨hx, hb, hml, hown, hts⟩ (KK_ok g) hK (c_X0_set l g H (a + 3) b 1 hN2 (by decide)) (cwV 1 hts gX2_takeZero_X0_set rfl rfl rfl (by decide +kernel) ⟨Nat.le_of_ble_eq_true rfl, Nat.le_of_ble_eq_true rfl⟩) (xr_rec hK hN2.1 rfl) rfl hl.1 rfl (Nat.le_of_ble_eq_true rfl) dX2_takeZero_13 ⟨Nat.le_of_ble_eq_true rfl, Nat.le_of_ble_eq_true rfl⟩ hS (fun q h => by have h : q = a + 3 + 1 := h; show q = a + 2 ∨ q = a + 4; omega) (fun _ H locs hq hz hkp hS => ?_)
  replace hkp := fun (q : Nat) h1 (h2 : ¬ (q = a + 3 + 1)) => hkp q h1 h2
  replace hO := hO.kept (hkp _ hO.lt (by omega))
  replace hN1 := hN1.kept (hkp _ hN1.1.lt (by omega)) (hkp _ hN1.2.1.lt (by omega))
  have hN2 : NatAt g H (a + 3) 1 := hq
  exact xr_vret hx hb hr hlocks hS ⟨hO, hN1, hN2⟩ dX2_takeZero_16
set_option maxHeartbeats 400000 in
set_option maxRecDepth 100000 in
theorem c_X2_wordOf (l : Launch) (g : WG) (H0 : Heap) (a t b : Nat) (part word : Int32) (hR : RatioAt g H0 a t b) : Ctr l (KK g) yX2_wordOf wsX2_wordOf { frames := 1, cells := 0, slots := 0, locals := 21 } [.ref a, .int part, .int word] H0 eI (fun r H => r = rwd t b part word ∧ H = H0) (fun _ => False) := by
  refine xr_enter (cc := cX2_wordOf) (maxL := 3) (ret := (some .int)) (by decide) rfl (Nat.le_of_ble_eq_true rfl) ?_
  intro pgm env s mid below meth cde hx hb hr hml hts hown hlocks hnm hH hK ls hl
  subst hH
  have hl : lv_has ls 3 [(0, .ref a), (1, .int part), (2, .int word)] := hl
  have hS : va_S (fun _ => False) s.heap s.heap [] := va_S.rf
  obtain ⟨hO, hN1, hN2⟩ := id hR
  refine lv_iload_n hx hb dX2_wordOf_0 rfl (lv_at hl 1 rfl) ?_
  refine lv_if_ne (tgt := 13) hx hb dX2_wordOf_1 (by decide) (fun h0 => ?_) (fun h0 => ?_)
  · have h0 := h0
    refine lv_iload_n hx hb dX2_wordOf_13 rfl (lv_at hl 1 rfl) ?_
    refine lv_iconst (v := 1) hx hb dX2_wordOf_14 (by decide) ?_
    refine lv_icmp_ne (tgt := 29) hx hb dX2_wordOf_15 (by decide) (fun h1 => ?_) (fun h1 => ?_)
    · have h1 := h1
      refine lv_iconst (v := 0) hx hb dX2_wordOf_29 (by decide) ?_
      exact xr_iret hx hb hr hlocks hS ⟨by unfold rwd; rw [if_neg h0, if_neg h1], rfl⟩ dX2_wordOf_30
    · have h1 := h1
      refine lv_aload_n hx hb dX2_wordOf_18 rfl (lv_at hl 0 rfl) ?_
      refine va_get (D := g.1) (ci := 2) (v := .ref (a + 3)) (C := RX2) (T := TX2) (N := 2) hx hb hts (by decide +kernel) hown hK.1 (xr_one hO) 0 rfl rfl 1 (by decide) (hts (.fieldLink RX2 16 "SharesDesk$Ratio" "bottom" "LSharesDesk$Natural;") (by decide +kernel)) (fun _ h9 => h9) rfl dX2_wordOf_19 ?_
      refine lv_iload_n hx hb dX2_wordOf_22 rfl (lv_at hl 2 rfl) ?_
      refine xr_Vi (rest := []) ⟨hx, hb, hml, hown, hts⟩ (KK_ok g) hK (c_X0_wordAt l g s.heap (a + 3) b word hN2) (cwV 1 hts gX2_wordOf_X0_wordAt rfl rfl rfl (by decide +kernel) ⟨Nat.le_of_ble_eq_true rfl, Nat.le_of_ble_eq_true rfl⟩) (xr_rec hK hN2.1 rfl) rfl hl.1 rfl (Nat.le_of_ble_eq_true rfl) dX2_wordOf_23 ⟨Nat.le_of_ble_eq_true rfl, Nat.le_of_ble_eq_true rfl⟩ hS (fun q h => h.elim) (fun r H locs hq hz hkp hS91 => ?_)
      obtain ⟨rfl, rfl⟩ := hq
      have hS := hS91
      refine lv_goto (tgt := 30) hx hb dX2_wordOf_26 (by decide) ?_
      exact xr_iret hx hb hr hlocks hS ⟨by unfold rwd; rw [if_neg h0, if_pos h1], rfl⟩ dX2_wordOf_30
  · have h0 := h0
    refine lv_aload_n hx hb dX2_wordOf_4 rfl (lv_at hl 0 rfl) ?_
    refine va_get (D := g.1) (ci := 2) (v := .ref (a + 1)) (C := RX2) (T := TX2) (N := 2) hx hb hts (by decide +kernel) hown hK.1 (xr_one hO) 0 rfl rfl 0 (by decide) (hts (.fieldLink RX2 10 "SharesDesk$Ratio" "top" "LSharesDesk$Natural;") (by decide +kernel)) (fun _ h9 => h9) rfl dX2_wordOf_5 ?_
    refine lv_iload_n hx hb dX2_wordOf_8 rfl (lv_at hl 2 rfl) ?_
    refine xr_Vi (rest := []) ⟨hx, hb, hml, hown, hts⟩ (KK_ok g) hK (c_X0_wordAt l g s.heap (a + 1) t word hN1) (cwV 1 hts gX2_wordOf_X0_wordAt rfl rfl rfl (by decide +kernel) ⟨Nat.le_of_ble_eq_true rfl, Nat.le_of_ble_eq_true rfl⟩) (xr_rec hK hN1.1 rfl) rfl hl.1 rfl (Nat.le_of_ble_eq_true rfl) dX2_wordOf_9 ⟨Nat.le_of_ble_eq_true rfl, Nat.le_of_ble_eq_true rfl⟩ hS (fun q h => h.elim) (fun r H locs hq hz hkp hS92 => ?_)
    obtain ⟨rfl, rfl⟩ := hq
    have hS := hS92
    exact xr_iret hx hb hr hlocks hS ⟨by unfold rwd; rw [if_pos h0], rfl⟩ dX2_wordOf_12
set_option maxHeartbeats 800000 in
set_option maxRecDepth 100000 in
theorem c_X2_cancel (l : Launch) (g : WG) (H0 : Heap) (a t b d : Nat) (hR : RatioAt g H0 a t b) (hb0 : 0 < b) (hd1 : 1 < d) (hd : d < 48) : Ctr l (KK g) yX2_cancel wsX2_cancel { frames := 1, cells := 0, slots := 0, locals := 26 } [.ref a, .int (nI d)] H0 eV (fun _ H => ∃ t2 b2, RatioAt g H a t2 b2 ∧ Red t b t2 b2 ∧ ¬ (t2 % d = 0 ∧ b2 % d = 0)) (fun q => q = a + 2 ∨ q = a + 4) := by
  refine xr_enter (cc := cX2_cancel) (maxL := 3) (ret := none) (by decide) rfl (Nat.le_of_ble_eq_true rfl) ?_
  intro pgm env s mid below meth cde hx hb hr hml hts hown hlocks hnm hH hK ls hl
  subst hH
  have hl : lv_has ls 3 [(0, .ref a), (1, .int (nI d))] := hl
  have hS : va_S (fun q => q = a + 2 ∨ q = a + 4) s.heap s.heap [] := va_S.rf
  have loop : ∀ (n i : Nat), i + n = 128 → ∀ (H : Heap) (locs : List Loc) (t1 b1 : Nat), RatioAt g H a t1 b1 → Red t b t1 b1 → b1 * 2 ^ i ≤ b → va_S (fun q => q = a + 2 ∨ q = a + 4) s.heap H locs → ∀ ls : Array Slot, lv_has ls 3 [(2, .int (nI i)), (0, .ref a), (1, .int (nI d))] → W pgm l env { frames := 1, cells := 0, slots := 0, locals := 26 } s mid ([.ref a, .int (nI d)] : List Value).toArray below meth cde H locs 0 0 (MQ below (xr_Post eV (fun _ H => ∃ t2 b2, RatioAt g H a t2 b2 ∧ Red t b t2 b2 ∧ ¬ (t2 % d = 0 ∧ b2 % d = 0)) (fun q => q = a + 2 ∨ q = a + 4)) ([.ref a, .int (nI d)] : List Value).toArray s ({ frames := 1, cells := 0, slots := 0, locals := 26 } : Room).cells ({ frames := 1, cells := 0, slots := 0, locals := 26 } : Room).slots (fun q => q = a + 2 ∨ q = a + 4)) (F0 mid 2 ls []) := by
    intro n
    induction n with
    | zero =>
      intro i h1 H locs t1 b1 hR1 hRd hbi hS ls hl
      have e : i = 128 := by omega
      subst e
      exfalso
      have h5 := hRd.pos hb0
      have h6 := hR.2.2.2.2
      have h7 : 1 * 2 ^ 128 ≤ b1 * 2 ^ 128 := Nat.mul_le_mul_right _ h5
      omega
    | succ n ih =>
      intro i h1 H locs t1 b1 hR1 hRd hbi hS ls hl
      obtain ⟨hO, hN1, hN2⟩ := id hR1
      refine lv_iload_n hx hb dX2_cancel_2 rfl (lv_at hl 0 rfl) ?_
      refine lv_sipush (v := 128) hx hb dX2_cancel_3 (by decide) ?_
      refine lv_icmp_ge (tgt := 56) hx hb dX2_cancel_6 (by decide) (fun hc => ?_) (fun hc => ?_)
      · exact absurd ((nI_leI (a := 128) (b := i) (by decide) (by omega)).mp hc) (by omega)
      · clear hc
        refine lv_aload_n hx hb dX2_cancel_9 rfl (lv_at hl 1 rfl) ?_
        refine va_get (D := g.1) (ci := 2) (v := .ref (a + 3)) (C := RX2) (T := TX2) (N := 2) hx hb hts (by decide +kernel) hown hK.1 (xr_one hO) 0 rfl rfl 1 (by decide) (hts (.fieldLink RX2 16 "SharesDesk$Ratio" "bottom" "LSharesDesk$Natural;") (by decide +kernel)) (fun _ h9 => h9) rfl dX2_cancel_10 ?_
        refine lv_iload_n hx hb dX2_cancel_13 rfl (lv_at hl 2 rfl) ?_
        refine xr_Vi (rest := []) ⟨hx, hb, hml, hown, hts⟩ (KK_ok g) hK (c_X0_modulo l g H (a + 3) b1 d hN2 (by omega) (by omega)) (cwV 1 hts gX2_cancel_X0_modulo rfl rfl rfl (by decide +kernel) ⟨Nat.le_of_ble_eq_true rfl, Nat.le_of_ble_eq_true rfl⟩) (xr_rec hK hN2.1 rfl) rfl hl.1 rfl (Nat.le_of_ble_eq_true rfl) dX2_cancel_14 ⟨Nat.le_of_ble_eq_true rfl, Nat.le_of_ble_eq_true rfl⟩ hS (fun q h => h.elim) (fun r H locs hq hz hkp hS93 => ?_)
        obtain ⟨rfl, rfl⟩ := hq
        have hS := hS93
        have hm1 : b1 % d < d := Nat.mod_lt _ (by omega)
        have hm2 : t1 % d < d := Nat.mod_lt _ (by omega)
        refine lv_if_ne (tgt := 31) hx hb dX2_cancel_17 (by decide) (fun hc => ?_) (fun hc => ?_)
        · have h9 : ¬ b1 % d = 0 := fun q => hc (by rw [q]; rfl)
          exact xr_vret hx hb hr hlocks hS ⟨t1, b1, hR1, hRd, fun q9 => h9 q9.2⟩ dX2_cancel_31
        · have h8 : b1 % d = 0 := (nI_inj (by omega) (by decide)).mp hc
          refine lv_aload_n hx hb dX2_cancel_20 rfl (lv_at hl 1 rfl) ?_
          refine va_get (D := g.1) (ci := 2) (v := .ref (a + 1)) (C := RX2) (T := TX2) (N := 2) hx hb hts (by decide +kernel) hown hK.1 (xr_one hO) 0 rfl rfl 0 (by decide) (hts (.fieldLink RX2 10 "SharesDesk$Ratio" "top" "LSharesDesk$Natural;") (by decide +kernel)) (fun _ h9 => h9) rfl dX2_cancel_21 ?_
          refine lv_iload_n hx hb dX2_cancel_24 rfl (lv_at hl 2 rfl) ?_
          refine xr_Vi (rest := []) ⟨hx, hb, hml, hown, hts⟩ (KK_ok g) hK (c_X0_modulo l g H (a + 1) t1 d hN1 (by omega) (by omega)) (cwV 1 hts gX2_cancel_X0_modulo rfl rfl rfl (by decide +kernel) ⟨Nat.le_of_ble_eq_true rfl, Nat.le_of_ble_eq_true rfl⟩) (xr_rec hK hN1.1 rfl) rfl hl.1 rfl (Nat.le_of_ble_eq_true rfl) dX2_cancel_25 ⟨Nat.le_of_ble_eq_true rfl, Nat.le_of_ble_eq_true rfl⟩ hS (fun q h => h.elim) (fun r H locs hq hz hkp hS94 => ?_)
          obtain ⟨rfl, rfl⟩ := hq
          have hS := hS94
          refine lv_if_eq (tgt := 32) hx hb dX2_cancel_28 (by decide) (fun hc => ?_) (fun hc => ?_)
          · have h7 : t1 % d = 0 := (nI_inj (by omega) (by decide)).mp hc
            refine lv_aload_n hx hb dX2_cancel_32 rfl (lv_at hl 1 rfl) ?_
            refine va_get (D := g.1) (ci := 2) (v := .ref (a + 3)) (C := RX2) (T := TX2) (N := 2) hx hb hts (by decide +kernel) hown hK.1 (xr_one hO) 0 rfl rfl 1 (by decide) (hts (.fieldLink RX2 16 "SharesDesk$Ratio" "bottom" "LSharesDesk$Natural;") (by decide +kernel)) (fun _ h9 => h9) rfl dX2_cancel_33 ?_
            refine lv_iload_n hx hb dX2_cancel_36 rfl (lv_at hl 2 rfl) ?_
            refine xr_Vi (rest := []) ⟨hx, hb, hml, hown, hts⟩ (KK_ok g) hK (c_X0_divide l g H (a + 3) b1 d hN2 (by omega) (by omega)) (cwV 1 hts gX2_cancel_X0_divide rfl rfl rfl (by decide +kernel) ⟨Nat.le_of_ble_eq_true rfl, Nat.le_of_ble_eq_true rfl⟩) (xr_rec hK hN2.1 rfl) rfl hl.1 rfl (Nat.le_of_ble_eq_true rfl) dX2_cancel_37 ⟨Nat.le_of_ble_eq_true rfl, Nat.le_of_ble_eq_true rfl⟩ hS (fun q h => by have h : q = a + 3 + 1 := h; show q = a + 2 ∨ q = a + 4; omega) (fun r H locs hq hz hkp hS => ?_)
            replace hkp := fun (q : Nat) h1 (h2 : ¬ (q = a + 3 + 1)) => hkp q h1 h2
            replace hO := hO.kept (hkp _ hO.lt (by omega))
            replace hN1 := hN1.kept (hkp _ hN1.1.lt (by omega)) (hkp _ hN1.2.1.lt (by omega))
            have hN2 : NatAt g H (a + 3) (b1 / d) := hq.2
            refine lv_pop hx hb dX2_cancel_40 rfl ?_
            refine lv_aload_n hx hb dX2_cancel_41 rfl (lv_at hl 1 rfl) ?_
            refine va_get (D := g.1) (ci := 2) (v := .ref (a + 1)) (C := RX2) (T := TX2) (N := 2) hx hb hts (by decide +kernel) hown hK.1 (xr_one hO) 0 rfl rfl 0 (by decide) (hts (.fieldLink RX2 10 "SharesDesk$Ratio" "top" "LSharesDesk$Natural;") (by decide +kernel)) (fun _ h9 => h9) rfl dX2_cancel_42 ?_
            refine lv_iload_n hx hb dX2_cancel_45 rfl (lv_at hl 2 rfl) ?_
            refine xr_Vi (rest := []) ⟨hx, hb, hml, hown, hts⟩ (KK_ok g) hK (c_X0_divide l g H (a + 1) t1 d hN1 (by omega) (by omega)) (cwV 1 hts gX2_cancel_X0_divide rfl rfl rfl (by decide +kernel) ⟨Nat.le_of_ble_eq_true rfl, Nat.le_of_ble_eq_true rfl⟩) (xr_rec hK hN1.1 rfl) rfl hl.1 rfl (Nat.le_of_ble_eq_true rfl) dX2_cancel_46 ⟨Nat.le_of_ble_eq_true rfl, Nat.le_of_ble_eq_true rfl⟩ hS (fun q h => by have h : q = a + 1 + 1 := h; show q = a + 2 ∨ q = a + 4; omega) (fun r H locs hq hz hkp hS => ?_)
            replace hkp := fun (q : Nat) h1 (h2 : ¬ (q = a + 1 + 1)) => hkp q h1 h2
            replace hO := hO.kept (hkp _ hO.lt (by omega))
            replace hN2 := hN2.kept (hkp _ hN2.1.lt (by omega)) (hkp _ hN2.2.1.lt (by omega))
            have hN1 : NatAt g H (a + 1) (t1 / d) := hq.2
            refine lv_pop hx hb dX2_cancel_49 rfl ?_
            refine lv_iinc (v := nI (i + 1)) (lv' := [(2, .int (nI (i + 1))), (0, .ref a), (1, .int (nI d))]) hx hb dX2_cancel_50 hl (k := 0) rfl (nI_1 i) (by decide) rfl (fun ls hl => ?_)
            refine lv_goto (tgt := 2) hx hb dX2_cancel_53 (by decide) ?_
            exact ih (i + 1) (by omega) H locs (t1 / d) (b1 / d) ⟨hO, hN1, hN2⟩ (hRd.step (by omega) h7 h8) (can_half hd1 hbi) hS ls (lv_sub hl [0, 1, 2] rfl)
          · have h9 : ¬ t1 % d = 0 := fun q => hc (by rw [q]; rfl)
            exact xr_vret hx hb hr hlocks hS ⟨t1, b1, hR1, hRd, fun q9 => h9 q9.1⟩ dX2_cancel_31
  refine lv_iconst (v := 0) hx hb dX2_cancel_0 (by decide) ?_
  refine xr_ti (x' := nI 0) rfl ?_
  refine lv_istore_n (lv' := [(2, .int (nI 0)), (0, .ref a), (1, .int (nI d))]) hx hb dX2_cancel_1 rfl hl (by decide) rfl (fun ls hl => ?_)
  exact loop 128 0 (by omega) s.heap [] t b hR Red.rf (by simp) hS ls (lv_sub hl [0, 1, 2] rfl)
set_option maxHeartbeats 800000 in
set_option maxRecDepth 100000 in
theorem c_X2_take (l : Launch) (g : WG) (H0 : Heap) (a t u x y n b : Nat) (hR : RatioAt g H0 a t u) (hP : PrimesAt g H0) (hp1 : g.2.2.1.1 < a ∨ a + 5 ≤ g.2.2.1.1) (hp2 : g.2.2.2.2.1 < a ∨ a + 5 ≤ g.2.2.2.2.1) (hX : NatAt g H0 x n) (hY : NatAt g H0 y b) (hx1 : x + 1 < a ∨ a + 5 ≤ x) (hy1 : y + 1 < a ∨ a + 5 ≤ y) (hb0 : 0 < b) (hsm : Smooth b) : Ctr l (KK g) yX2_take wsX2_take { frames := 3, cells := 0, slots := 0, locals := 64 } [.ref a, .ref x, .ref y] H0 eV (fun _ H => RatioAt g H a (n / Nat.gcd n b) (b / Nat.gcd n b)) (fun q => q = a + 2 ∨ q = a + 4) := by
  refine xr_enter (cc := cX2_take) (maxL := 7) (ret := none) (by decide) rfl (Nat.le_of_ble_eq_true rfl) ?_
  intro pgm env s mid below meth cde hx hb hr hml hts hown hlocks hnm hH hK ls hl
  subst hH
  have hl : lv_has ls 7 [(0, .ref a), (1, .ref x), (2, .ref y)] := hl
  have hS : va_S (fun q => q = a + 2 ∨ q = a + 4) s.heap s.heap [] := va_S.rf
  obtain ⟨hO, hN1, hN2⟩ := id hR
  have loop : ∀ (k i : Nat), i + k = 15 → ∀ (H : Heap) (locs : List Loc) (t1 b1 : Nat), RatioAt g H a t1 b1 → PrimesAt g H → Red n b t1 b1 → (∀ j, j < i → ¬ (t1 % pr15 j = 0 ∧ b1 % pr15 j = 0)) → va_S (fun q => q = a + 2 ∨ q = a + 4) s.heap H locs → ∀ ls : Array Slot, lv_has ls 7 [(5, .int (nI i)), (4, .int (nI 15)), (3, .ref g.2.2.2.2.1), (0, .ref a)] → W pgm l env { frames := 3, cells := 0, slots := 0, locals := 64 } s mid ([.ref a, .ref x, .ref y] : List Value).toArray below meth cde H locs 0 0 (MQ below (xr_Post eV (fun _ H => RatioAt g H a (n / Nat.gcd n b) (b / Nat.gcd n b)) (fun q => q = a + 2 ∨ q = a + 4)) ([.ref a, .ref x, .ref y] : List Value).toArray s ({ frames := 3, cells := 0, slots := 0, locals := 64 } : Room).cells ({ frames := 3, cells := 0, slots := 0, locals := 64 } : Room).slots (fun q => q = a + 2 ∨ q = a + 4)) (F0 mid 39 ls []) := by
    intro k
    induction k with
    | zero =>
      intro i h1 H locs t1 b1 hR1 hP hRd hno hS ls hl
      have e : i = 15 := by omega
      subst e
      refine lv_iload hx hb dX2_take_39 (lv_at hl 0 rfl) ?_
      refine lv_iload hx hb dX2_take_41 (lv_at hl 1 rfl) ?_
      refine lv_icmp_ge (tgt := 64) hx hb dX2_take_43 (by decide) (fun hc => ?_) (fun hc => ?_)
      · obtain ⟨e1, e2⟩ := hRd.fin hb0 hsm hno
        subst e1 e2
        exact xr_vret hx hb hr hlocks hS hR1 dX2_take_64
      · exact absurd (by decide) hc
    | succ k ih =>
      intro i h1 H locs t1 b1 hR1 hP hRd hno hS ls hl
      have hpb := pr15_b i (by omega)
      refine lv_iload hx hb dX2_take_39 (lv_at hl 0 rfl) ?_
      refine lv_iload hx hb dX2_take_41 (lv_at hl 1 rfl) ?_
      refine lv_icmp_ge (tgt := 64) hx hb dX2_take_43 (by decide) (fun hc => ?_) (fun hc => ?_)
      · exact absurd ((nI_leI (a := 15) (b := i) (by decide) (by omega)).mp hc) (by omega)
      · clear hc
        refine lv_aload_n hx hb dX2_take_46 rfl (lv_at hl 2 rfl) ?_
        refine lv_iload hx hb dX2_take_47 (lv_at hl 0 rfl) ?_
        refine xr_pr hx hb hK hP (show i < 15 by omega) dX2_take_49 ?_
        refine lv_istore (lv' := [(6, .int (nI (pr15 i))), (5, .int (nI i)), (4, .int (nI 15)), (3, .ref g.2.2.2.2.1), (0, .ref a)]) hx hb dX2_take_50 hl (by decide) rfl (fun ls hl => ?_)
        refine lv_aload_n hx hb dX2_take_52 rfl (lv_at hl 4 rfl) ?_
        refine lv_iload hx hb dX2_take_53 (lv_at hl 0 rfl) ?_
        refine xr_Vv (rest := []) ⟨hx, hb, hml, hown, hts⟩ (KK_ok g) hK (c_X2_cancel l g H a t1 b1 (pr15 i) hR1 (hRd.pos hb0) hpb.1 hpb.2) (cwV 1 hts gX2_take_X2_cancel rfl rfl rfl (by decide +kernel) ⟨Nat.le_of_ble_eq_true rfl, Nat.le_of_ble_eq_true rfl⟩) (xr_rec hK hR1.1 rfl) rfl hl.1 rfl (Nat.le_of_ble_eq_true rfl) dX2_take_55 ⟨Nat.le_of_ble_eq_true rfl, Nat.le_of_ble_eq_true rfl⟩ hS (fun q h => h) (fun _ H locs hq hz hkp hS => ?_)
        replace hkp := fun (q : Nat) h1 (h2 : ¬ (q = a + 2 ∨ q = a + 4)) => hkp q h1 h2
        replace hP := hP.kept (hkp _ hP.l1 (by omega)) (hkp _ hP.l2 (by omega))
        obtain ⟨t2, b2, hR2, hRd2, hn2⟩ := hq
        refine lv_iinc (v := nI (i + 1)) (lv' := [(5, .int (nI (i + 1))), (6, .int (nI (pr15 i))), (4, .int (nI 15)), (3, .ref g.2.2.2.2.1), (0, .ref a)]) hx hb dX2_take_58 hl (k := 1) rfl (nI_1 i) (by decide) rfl (fun ls hl => ?_)
        refine lv_goto (tgt := 39) hx hb dX2_take_61 (by decide) ?_
        exact ih (i + 1) (by omega) H locs t2 b2 hR2 hP (hRd.trans hRd2) (fun j hj => if e : j = i then e ▸ hn2 else hRd2.no (hno j (by omega))) hS ls (lv_sub hl [0, 2, 3, 4] rfl)
  refine lv_aload_n hx hb dX2_take_0 rfl (lv_at hl 1 rfl) ?_
  refine xr_Vi (rest := []) ⟨hx, hb, hml, hown, hts⟩ (KK_ok g) hK (c_X0_isZero l g s.heap x n hX) (cwV 0 hts gX2_take_X0_isZero rfl rfl rfl (by decide +kernel) ⟨Nat.le_of_ble_eq_true rfl, Nat.le_of_ble_eq_true rfl⟩) (xr_rec hK hX.1 rfl) rfl hl.1 rfl (Nat.le_of_ble_eq_true rfl) dX2_take_1 ⟨Nat.le_of_ble_eq_true rfl, Nat.le_of_ble_eq_true rfl⟩ hS (fun q h => h.elim) (fun r H locs hq hz hkp hS95 => ?_)
  obtain ⟨rfl, rfl⟩ := hq
  have hS := hS95
  refine lv_if_eq (tgt := 12) hx hb dX2_take_4 (by decide) (fun hc => ?_) (fun hc => ?_)
  · have h0 : ¬ n = 0 := of_decide_eq_false (b2i_0.mp hc)
    refine lv_aload_n hx hb dX2_take_12 rfl (lv_at hl 0 rfl) ?_
    refine va_get (D := g.1) (ci := 2) (v := .ref (a + 1)) (C := RX2) (T := TX2) (N := 2) hx hb hts (by decide +kernel) hown hK.1 (xr_one hO) 0 rfl rfl 0 (by decide) (hts (.fieldLink RX2 10 "SharesDesk$Ratio" "top" "LSharesDesk$Natural;") (by decide +kernel)) (fun _ h9 => h9) rfl dX2_take_13 ?_
    refine lv_aload_n hx hb dX2_take_16 rfl (lv_at hl 1 rfl) ?_
    refine xr_Vv (rest := []) ⟨hx, hb, hml, hown, hts⟩ (KK_ok g) hK (c_X0_copy l g s.heap (a + 1) x t n hN1 hX (by omega)) (cwV 1 hts gX2_take_X0_copy rfl rfl rfl (by decide +kernel) ⟨Nat.le_of_ble_eq_true rfl, Nat.le_of_ble_eq_true rfl⟩) (xr_rec hK hN1.1 rfl) rfl hl.1 rfl (Nat.le_of_ble_eq_true rfl) dX2_take_17 ⟨Nat.le_of_ble_eq_true rfl, Nat.le_of_ble_eq_true rfl⟩ hS (fun q h => by have h : q = a + 1 + 1 := h; show q = a + 2 ∨ q = a + 4; omega) (fun _ H locs hq hz hkp hS => ?_)
    replace hkp := fun (q : Nat) h1 (h2 : ¬ (q = a + 1 + 1)) => hkp q h1 h2
    replace hO := hO.kept (hkp _ hO.lt (by omega))
    replace hN2 := hN2.kept (hkp _ hN2.1.lt (by omega)) (hkp _ hN2.2.1.lt (by omega))
    replace hY := hY.kept (hkp _ hY.1.lt (by omega)) (hkp _ hY.2.1.lt (by omega))
    replace hP := hP.kept (hkp _ hP.l1 (by omega)) (hkp _ hP.l2 (by omega))
    have hN1 : NatAt g H (a + 1) n := hq
    refine lv_aload_n hx hb dX2_take_20 rfl (lv_at hl 0 rfl) ?_
    refine va_get (D := g.1) (ci := 2) (v := .ref (a + 3)) (C := RX2) (T := TX2) (N := 2) hx hb hts (by decide +kernel) hown hK.1 (xr_one hO) 0 rfl rfl 1 (by decide) (hts (.fieldLink RX2 16 "SharesDesk$Ratio" "bottom" "LSharesDesk$Natural;") (by decide +kernel)) (fun _ h9 => h9) rfl dX2_take_21 ?_
    refine lv_aload_n hx hb dX2_take_24 rfl (lv_at hl 2 rfl) ?_
    refine xr_Vv (rest := []) ⟨hx, hb, hml, hown, hts⟩ (KK_ok g) hK (c_X0_copy l g H (a + 3) y u b hN2 hY (by omega)) (cwV 1 hts gX2_take_X0_copy rfl rfl rfl (by decide +kernel) ⟨Nat.le_of_ble_eq_true rfl, Nat.le_of_ble_eq_true rfl⟩) (xr_rec hK hN2.1 rfl) rfl hl.1 rfl (Nat.le_of_ble_eq_true rfl) dX2_take_25 ⟨Nat.le_of_ble_eq_true rfl, Nat.le_of_ble_eq_true rfl⟩ hS (fun q h => by have h : q = a + 3 + 1 := h; show q = a + 2 ∨ q = a + 4; omega) (fun _ H locs hq hz hkp hS => ?_)
    replace hkp := fun (q : Nat) h1 (h2 : ¬ (q = a + 3 + 1)) => hkp q h1 h2
    replace hO := hO.kept (hkp _ hO.lt (by omega))
    replace hP := hP.kept (hkp _ hP.l1 (by omega)) (hkp _ hP.l2 (by omega))
    replace hN1 := hN1.kept (hkp _ hN1.1.lt (by omega)) (hkp _ hN1.2.1.lt (by omega))
    have hN2 : NatAt g H (a + 3) b := hq
    refine xr_gp hx hb hK hP hown (hts (.fieldLink RX2 34 "SharesDesk$Ratio" "PRIMES" "[I") (by decide +kernel)) dX2_take_28 ?_
    refine lv_astore_n (lv' := [(3, .ref g.2.2.2.2.1), (0, .ref a), (1, .ref x), (2, .ref y)]) hx hb dX2_take_31 rfl hl (by decide) rfl (fun ls hl => ?_)
    refine lv_aload_n hx hb dX2_take_32 rfl (lv_at hl 0 rfl) ?_
    refine xr_pn hx hb hK hP dX2_take_33 ?_
    refine lv_istore (lv' := [(4, .int (nI 15)), (3, .ref g.2.2.2.2.1), (0, .ref a), (1, .ref x), (2, .ref y)]) hx hb dX2_take_34 hl (by decide) rfl (fun ls hl => ?_)
    refine lv_iconst (v := 0) hx hb dX2_take_36 (by decide) ?_
    refine xr_ti (x' := nI 0) rfl ?_
    refine lv_istore (lv' := [(5, .int (nI 0)), (4, .int (nI 15)), (3, .ref g.2.2.2.2.1), (0, .ref a), (1, .ref x), (2, .ref y)]) hx hb dX2_take_37 hl (by decide) rfl (fun ls hl => ?_)
    exact loop 15 0 (by omega) H locs n b ⟨hO, hN1, hN2⟩ hP Red.rf (fun j hj => absurd hj (Nat.not_lt_zero j)) hS ls (lv_sub hl [0, 1, 2, 3] rfl)
  · have h0 : n = 0 := of_decide_eq_true (b2i_n0.mp hc)
    subst h0
    refine lv_aload_n hx hb dX2_take_7 rfl (lv_at hl 0 rfl) ?_
    refine xr_Vv (rest := []) ⟨hx, hb, hml, hown, hts⟩ (KK_ok g) hK (c_X2_takeZero l g s.heap a t u hR) (cwV 0 hts gX2_take_X2_takeZero rfl rfl rfl (by decide +kernel) ⟨Nat.le_of_ble_eq_true rfl, Nat.le_of_ble_eq_true rfl⟩) (xr_rec hK hR.1 rfl) rfl hl.1 rfl (Nat.le_of_ble_eq_true rfl) dX2_take_8 ⟨Nat.le_of_ble_eq_true rfl, Nat.le_of_ble_eq_true rfl⟩ hS (fun q h => h) (fun _ H locs hq hz hkp hS => ?_)
    exact xr_vret hx hb hr hlocks hS (by rw [Nat.gcd_zero_left, Nat.zero_div, Nat.div_self hb0]; exact hq) dX2_take_11
