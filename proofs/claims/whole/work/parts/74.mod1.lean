set_option maxHeartbeats 400000 in
set_option maxRecDepth 100000 in
theorem c_X7_copy (l : Launch) (g : WG) (H0 : Heap) (b : Nat) (th bu ob cn rn py ln : Int32) (hO : obj g H0 b 7 (moF b th bu ob cn rn py ln)) (Rw : Nat → Nat) (hM : RwsAt g H0 b Rw) (d a : Nat) (hd : d < 860) (ha : a < 860) : Ctr l (KK g) yX7_copy wsX7_copy { frames := 0, cells := 0, slots := 0, locals := 0 } [.ref b, .int (nI d), .int (nI a)] H0 eV (fun _ H => RwsAt g H b (va_up Rw d (Rw a))) (fun q => q = b + 1) := by
  refine xr_enter (cc := cX7_copy) (maxL := 4) (ret := none) (by decide) rfl (Nat.le_of_ble_eq_true rfl) ?_
  intro pgm env s mid below meth cde hx hb hr hml hts hown hlocks hnm hH hK ls hl
  subst hH
  have hl : lv_has ls 4 [(0, .ref b), (1, .int (nI d)), (2, .int (nI a))] := hl
  have hS : va_S (fun q => q = b + 1) s.heap s.heap [] := va_S.rf
  obtain ⟨hf, hRb⟩ := id hM
  have loop : ∀ (n k : Nat), k + n = 12 → ∀ (H : Heap) (locs : List Loc), obj g H b 7 (moF b th bu ob cn rn py ln) → xr_ia H (b + 1) (gI g) 10320 (rwA (va_up Rw d (mixR k (Rw a) (Rw d)))) → va_S (fun q => q = b + 1) s.heap H locs → ∀ ls : Array Slot, lv_has ls 4 [(3, .int (nI k)), (0, .ref b), (1, .int (nI d)), (2, .int (nI a))] → W pgm l env { frames := 0, cells := 0, slots := 0, locals := 0 } s mid ([.ref b, .int (nI d), .int (nI a)] : List Value).toArray below meth cde H locs 0 0 (MQ below (xr_Post eV (fun _ H => RwsAt g H b (va_up Rw d (Rw a))) (fun q => q = b + 1)) ([.ref b, .int (nI d), .int (nI a)] : List Value).toArray s ({ frames := 0, cells := 0, slots := 0, locals := 0 } : Room).cells ({ frames := 0, cells := 0, slots := 0, locals := 0 } : Room).slots (fun q => q = b + 1)) (F0 mid 2 ls []) := by
    intro n
    induction n with
    | zero =>
      intro k h1 H locs hO hf hS ls hl
      have e : k = 12 := by omega
      subst e
      refine lv_iload_n hx hb dX7_copy_2 rfl (lv_at hl 0 rfl) ?_
      refine lv_bipush (v := 12) hx hb dX7_copy_3 (by decide) ?_
      refine lv_icmp_ge (tgt := 36) hx hb dX7_copy_5 (by decide) (fun hc => ?_) (fun hc => ?_)
      · clear hc
        rw [mix_12 (hRb a ha) (hRb d hd)] at hf
        exact xr_vret hx hb hr hlocks hS ⟨hf, rw_all hRb (hRb a ha)⟩ dX7_copy_36
      · exact absurd (by decide) hc
    | succ n ih =>
      intro k h1 H locs hO hf hS ls hl
      refine lv_iload_n hx hb dX7_copy_2 rfl (lv_at hl 0 rfl) ?_
      refine lv_bipush (v := 12) hx hb dX7_copy_3 (by decide) ?_
      refine lv_icmp_ge (tgt := 36) hx hb dX7_copy_5 (by decide) (fun hc => ?_) (fun hc => ?_)
      · exact absurd ((nI_leI (a := 12) (b := k) (by decide) (by omega)).mp hc) (by omega)
      · clear hc
        refine lv_aload_n hx hb dX7_copy_8 rfl (lv_at hl 1 rfl) ?_
        refine va_get (D := g.1) (ci := 7) (v := .ref (b + 1)) (C := RX7) (T := TX7) (N := 18) hx hb hts (by decide +kernel) hown hK.1 (xr_one hO) 0 rfl rfl 1 (by decide) (hts (.fieldLink RX7 7 "SharesDeskModel" "m" "[I") (by decide +kernel)) (fun _ h9 => h9) rfl dX7_copy_9 ?_
        refine lv_bipush (v := 12) hx hb dX7_copy_12 (by decide) ?_
        refine xr_ti (x' := nI 12) rfl ?_
        refine lv_iload_n hx hb dX7_copy_14 rfl (lv_at hl 2 rfl) ?_
        refine lv_imul hx hb dX7_copy_15 ?_
        refine xr_ti (x' := nI (12 * d)) (pk_mul _ _) ?_
        refine lv_iload_n hx hb dX7_copy_16 rfl (lv_at hl 0 rfl) ?_
        refine lv_iadd hx hb dX7_copy_17 ?_
        refine xr_ti (x' := nI (12 * d + k)) (nI_add _ _) ?_
        refine lv_aload_n hx hb dX7_copy_18 rfl (lv_at hl 1 rfl) ?_
        refine va_get (D := g.1) (ci := 7) (v := .ref (b + 1)) (C := RX7) (T := TX7) (N := 18) hx hb hts (by decide +kernel) hown hK.1 (xr_one hO) 0 rfl rfl 1 (by decide) (hts (.fieldLink RX7 7 "SharesDeskModel" "m" "[I") (by decide +kernel)) (fun _ h9 => h9) rfl dX7_copy_19 ?_
        refine lv_bipush (v := 12) hx hb dX7_copy_22 (by decide) ?_
        refine xr_ti (x' := nI 12) rfl ?_
        refine lv_iload_n hx hb dX7_copy_24 rfl (lv_at hl 3 rfl) ?_
        refine lv_imul hx hb dX7_copy_25 ?_
        refine xr_ti (x' := nI (12 * a)) (pk_mul _ _) ?_
        refine lv_iload_n hx hb dX7_copy_26 rfl (lv_at hl 0 rfl) ?_
        refine lv_iadd hx hb dX7_copy_27 ?_
        refine xr_ti (x' := nI (12 * a + k)) (nI_add _ _) ?_
        refine xr_rd hx hb hK hf (show 12 * a + k < 10320 by omega) (by decide) dX7_copy_28 ?_
        refine xr_ti (x' := nI (lb (Rw a) k)) (rw_rd (by omega) (Nat.le_refl k)) ?_
        refine xr_wr hx hb hK hS (show b + 1 = b + 1 from rfl) hf (show 12 * d + k < 10320 by omega) (by decide) dX7_copy_29 (fun H locs hz hkp hf hS => ?_)
        have hO := hO.kept (hkp b (by omega))
        rw [rw_put (by omega) rfl] at hf
        refine lv_iinc (v := nI (k + 1)) (lv' := [(3, .int (nI (k + 1))), (0, .ref b), (1, .int (nI d)), (2, .int (nI a))]) hx hb dX7_copy_30 hl (k := 0) rfl (nI_1 k) (by decide) rfl (fun ls hl => ?_)
        refine lv_goto (tgt := 2) hx hb dX7_copy_33 (by decide) ?_
        exact ih (k + 1) (by omega) H locs hO hf hS ls (lv_sub hl [0, 1, 2, 3] rfl)
  refine lv_iconst (v := 0) hx hb dX7_copy_0 (by decide) ?_
  refine xr_ti (x' := nI 0) rfl ?_
  refine lv_istore_n (lv' := [(3, .int (nI 0)), (0, .ref b), (1, .int (nI d)), (2, .int (nI a))]) hx hb dX7_copy_1 rfl hl (by decide) rfl (fun ls hl => ?_)
  exact loop 12 0 (by omega) s.heap [] hO (by rw [mix_0, va_same]; exact hf) hS ls (lv_sub hl [0, 1, 2, 3] rfl)
set_option maxHeartbeats 400000 in
set_option maxRecDepth 100000 in
theorem c_X7_set (l : Launch) (g : WG) (H0 : Heap) (b : Nat) (th bu ob cn rn py ln : Int32) (hO : obj g H0 b 7 (moF b th bu ob cn rn py ln)) (Rw : Nat → Nat) (hM : RwsAt g H0 b Rw) (d y : Nat) (hd : d < 860) (hy : y < 2 ^ 62) : Ctr l (KK g) yX7_set wsX7_set { frames := 0, cells := 0, slots := 0, locals := 0 } [.ref b, .int (nI d), .long (lN y)] H0 eV (fun _ H => RwsAt g H b (va_up Rw d (y))) (fun q => q = b + 1) := by
  refine xr_enter (cc := cX7_set) (maxL := 5) (ret := none) (by decide) rfl (Nat.le_of_ble_eq_true rfl) ?_
  intro pgm env s mid below meth cde hx hb hr hml hts hown hlocks hnm hH hK ls hl
  subst hH
  have hl : lv_has ls 5 [(0, .ref b), (1, .int (nI d)), (2, .long (lN y))] := hl
  have hS : va_S (fun q => q = b + 1) s.heap s.heap [] := va_S.rf
  obtain ⟨hf, hRb⟩ := id hM
  have hy2 : y < 2 ^ 192 := Nat.lt_trans hy (by decide)
  have loop : ∀ (n k : Nat), k + n = 12 → ∀ (H : Heap) (locs : List Loc), obj g H b 7 (moF b th bu ob cn rn py ln) → xr_ia H (b + 1) (gI g) 10320 (rwA (va_up Rw d (mixR k (y) (Rw d)))) → va_S (fun q => q = b + 1) s.heap H locs → ∀ ls : Array Slot, lv_has ls 5 [(4, .int (nI k)), (0, .ref b), (1, .int (nI d)), (2, .long (lN y))] → W pgm l env { frames := 0, cells := 0, slots := 0, locals := 0 } s mid ([.ref b, .int (nI d), .long (lN y)] : List Value).toArray below meth cde H locs 0 0 (MQ below (xr_Post eV (fun _ H => RwsAt g H b (va_up Rw d (y))) (fun q => q = b + 1)) ([.ref b, .int (nI d), .long (lN y)] : List Value).toArray s ({ frames := 0, cells := 0, slots := 0, locals := 0 } : Room).cells ({ frames := 0, cells := 0, slots := 0, locals := 0 } : Room).slots (fun q => q = b + 1)) (F0 mid 3 ls []) := by
    intro n
    induction n with
    | zero =>
      intro k h1 H locs hO hf hS ls hl
      have e : k = 12 := by omega
      subst e
      refine lv_iload hx hb dX7_set_3 (lv_at hl 0 rfl) ?_
      refine lv_bipush (v := 12) hx hb dX7_set_5 (by decide) ?_
      refine lv_icmp_ge (tgt := 50) hx hb dX7_set_7 (by decide) (fun hc => ?_) (fun hc => ?_)
      · clear hc
        rw [mix_12 hy2 (hRb d hd)] at hf
        exact xr_vret hx hb hr hlocks hS ⟨hf, rw_all hRb hy2⟩ dX7_set_50
      · exact absurd (by decide) hc
    | succ n ih =>
      intro k h1 H locs hO hf hS ls hl
      refine lv_iload hx hb dX7_set_3 (lv_at hl 0 rfl) ?_
      refine lv_bipush (v := 12) hx hb dX7_set_5 (by decide) ?_
      refine lv_icmp_ge (tgt := 50) hx hb dX7_set_7 (by decide) (fun hc => ?_) (fun hc => ?_)
      · exact absurd ((nI_leI (a := 12) (b := k) (by decide) (by omega)).mp hc) (by omega)
      · clear hc
        refine lv_aload_n hx hb dX7_set_10 rfl (lv_at hl 1 rfl) ?_
        refine va_get (D := g.1) (ci := 7) (v := .ref (b + 1)) (C := RX7) (T := TX7) (N := 18) hx hb hts (by decide +kernel) hown hK.1 (xr_one hO) 0 rfl rfl 1 (by decide) (hts (.fieldLink RX7 7 "SharesDeskModel" "m" "[I") (by decide +kernel)) (fun _ h9 => h9) rfl dX7_set_11 ?_
        refine lv_bipush (v := 12) hx hb dX7_set_14 (by decide) ?_
        refine xr_ti (x' := nI 12) rfl ?_
        refine lv_iload_n hx hb dX7_set_16 rfl (lv_at hl 2 rfl) ?_
        refine lv_imul hx hb dX7_set_17 ?_
        refine xr_ti (x' := nI (12 * d)) (pk_mul _ _) ?_
        refine lv_iload hx hb dX7_set_18 (lv_at hl 0 rfl) ?_
        refine lv_iadd hx hb dX7_set_20 ?_
        refine xr_ti (x' := nI (12 * d + k)) (nI_add _ _) ?_
        refine lv_iload hx hb dX7_set_21 (lv_at hl 0 rfl) ?_
        refine lv_iconst (v := 4) hx hb dX7_set_23 (by decide) ?_
        refine lv_icmp_ge (tgt := 42) hx hb dX7_set_24 (by decide) (fun h4 => ?_) (fun h4 => ?_)
        · have h5 : 4 ≤ k := (nI_leI (a := 4) (b := k) (by decide) (by omega)).mp h4
          refine lv_iconst (v := 0) hx hb dX7_set_42 (by decide) ?_
          refine xr_ti (x' := nI 0) rfl ?_
          refine xr_wr hx hb hK hS (show b + 1 = b + 1 from rfl) hf (show 12 * d + k < 10320 by omega) (by decide) dX7_set_43 (fun H locs hz hkp hf hS => ?_)
          have hO := hO.kept (hkp b (by omega))
          rw [rw_put (by omega) (lb_small hy h5)] at hf
          refine lv_iinc (v := nI (k + 1)) (lv' := [(4, .int (nI (k + 1))), (0, .ref b), (1, .int (nI d)), (2, .long (lN y))]) hx hb dX7_set_44 hl (k := 0) rfl (nI_1 k) (by decide) rfl (fun ls hl => ?_)
          refine lv_goto (tgt := 3) hx hb dX7_set_47 (by decide) ?_
          exact ih (k + 1) (by omega) H locs hO hf hS ls (lv_sub hl [0, 1, 2, 3] rfl)
        · have h5 : k < 4 := Nat.lt_of_not_le fun q => h4 (nI_le q (by omega))
          refine lv_lload_n hx hb dX7_set_27 rfl (lv_at hl 3 rfl) ?_
          refine lv_bipush (v := 16) hx hb dX7_set_28 (by decide) ?_
          refine xr_ti (x' := nI 16) rfl ?_
          refine lv_iload hx hb dX7_set_30 (lv_at hl 0 rfl) ?_
          refine lv_imul hx hb dX7_set_32 ?_
          refine xr_ti (x' := nI (16 * k)) (pk_mul _ _) ?_
          refine lv_lshr (v := lN (y / 2 ^ (16 * k))) hx hb dX7_set_33 (pf_shr (sh64 (16 * k) (by omega)) hy) ?_
          refine lv_ldc2 (v := (65535)) hx hb hown (hts (.constantLong RX7 54 (65535)) (by decide +kernel)) dX7_set_34 ?_
          refine lv_land hx hb dX7_set_37 ?_
          refine xr_tl (x' := lN (lb y k)) (l_and16 (Nat.lt_of_le_of_lt (Nat.div_le_self _ _) (by omega))) ?_
          refine lv_l2i (v := nI (lb y k)) hx hb dX7_set_38 (lN_i _) ?_
          refine lv_goto (tgt := 43) hx hb dX7_set_39 (by decide) ?_
          refine xr_wr hx hb hK hS (show b + 1 = b + 1 from rfl) hf (show 12 * d + k < 10320 by omega) (by decide) dX7_set_43 (fun H locs hz hkp hf hS => ?_)
          have hO := hO.kept (hkp b (by omega))
          rw [rw_put (by omega) (rfl)] at hf
          refine lv_iinc (v := nI (k + 1)) (lv' := [(4, .int (nI (k + 1))), (0, .ref b), (1, .int (nI d)), (2, .long (lN y))]) hx hb dX7_set_44 hl (k := 0) rfl (nI_1 k) (by decide) rfl (fun ls hl => ?_)
          refine lv_goto (tgt := 3) hx hb dX7_set_47 (by decide) ?_
          exact ih (k + 1) (by omega) H locs hO hf hS ls (lv_sub hl [0, 1, 2, 3] rfl)
  refine lv_iconst (v := 0) hx hb dX7_set_0 (by decide) ?_
  refine xr_ti (x' := nI 0) rfl ?_
  refine lv_istore (lv' := [(4, .int (nI 0)), (0, .ref b), (1, .int (nI d)), (2, .long (lN y))]) hx hb dX7_set_1 hl (by decide) rfl (fun ls hl => ?_)
  exact loop 12 0 (by omega) s.heap [] hO (by rw [mix_0, va_same]; exact hf) hS ls (lv_sub hl [0, 1, 2, 3] rfl)
set_option maxHeartbeats 400000 in
set_option maxRecDepth 100000 in
theorem c_X7_add (l : Launch) (g : WG) (H0 : Heap) (b : Nat) (th bu ob cn rn py ln : Int32) (hO : obj g H0 b 7 (moF b th bu ob cn rn py ln)) (Rw : Nat → Nat) (hM : RwsAt g H0 b Rw) (d a c : Nat) (hd : d < 860) (ha : a < 860) (hc9 : c < 860) (hs9 : Rw a + Rw c < 2 ^ 192) : Ctr l (KK g) yX7_add wsX7_add { frames := 0, cells := 0, slots := 0, locals := 0 } [.ref b, .int (nI d), .int (nI a), .int (nI c)] H0 eV (fun _ H => RwsAt g H b (va_up Rw d (Rw a + Rw c))) (fun q => q = b + 1) := by
  refine xr_enter (cc := cX7_add) (maxL := 7) (ret := none) (by decide) rfl (Nat.le_of_ble_eq_true rfl) ?_
  intro pgm env s mid below meth cde hx hb hr hml hts hown hlocks hnm hH hK ls hl
  subst hH
  have hl : lv_has ls 7 [(0, .ref b), (1, .int (nI d)), (2, .int (nI a)), (3, .int (nI c))] := hl
  have hS : va_S (fun q => q = b + 1) s.heap s.heap [] := va_S.rf
  obtain ⟨hf, hRb⟩ := id hM
  have loop : ∀ (n k : Nat), k + n = 12 → ∀ (H : Heap) (locs : List Loc), obj g H b 7 (moF b th bu ob cn rn py ln) → xr_ia H (b + 1) (gI g) 10320 (rwA (va_up Rw d (mixR k (Rw a + Rw c) (Rw d)))) → va_S (fun q => q = b + 1) s.heap H locs → ∀ ls : Array Slot, lv_has ls 7 [(5, .int (nI k)), (4, .int (nI ((Rw a % 2 ^ (16 * k) + Rw c % 2 ^ (16 * k)) / 2 ^ (16 * k)))), (0, .ref b), (1, .int (nI d)), (2, .int (nI a)), (3, .int (nI c))] → W pgm l env { frames := 0, cells := 0, slots := 0, locals := 0 } s mid ([.ref b, .int (nI d), .int (nI a), .int (nI c)] : List Value).toArray below meth cde H locs 0 0 (MQ below (xr_Post eV (fun _ H => RwsAt g H b (va_up Rw d (Rw a + Rw c))) (fun q => q = b + 1)) ([.ref b, .int (nI d), .int (nI a), .int (nI c)] : List Value).toArray s ({ frames := 0, cells := 0, slots := 0, locals := 0 } : Room).cells ({ frames := 0, cells := 0, slots := 0, locals := 0 } : Room).slots (fun q => q = b + 1)) (F0 mid 6 ls []) := by
    intro n
    induction n with
    | zero =>
      intro k h1 H locs hO hf hS ls hl
      have e : k = 12 := by omega
      subst e
      refine lv_iload hx hb dX7_add_6 (lv_at hl 0 rfl) ?_
      refine lv_bipush (v := 12) hx hb dX7_add_8 (by decide) ?_
      refine lv_icmp_ge (tgt := 73) hx hb dX7_add_10 (by decide) (fun hc => ?_) (fun hc => ?_)
      · clear hc
        rw [mix_12 (hs9) (hRb d hd)] at hf
        exact xr_vret hx hb hr hlocks hS ⟨hf, rw_all hRb (hs9)⟩ dX7_add_73
      · exact absurd (by decide) hc
    | succ n ih =>
      intro k h1 H locs hO hf hS ls hl
      refine lv_iload hx hb dX7_add_6 (lv_at hl 0 rfl) ?_
      refine lv_bipush (v := 12) hx hb dX7_add_8 (by decide) ?_
      refine lv_icmp_ge (tgt := 73) hx hb dX7_add_10 (by decide) (fun hc => ?_) (fun hc => ?_)
      · exact absurd ((nI_leI (a := 12) (b := k) (by decide) (by omega)).mp hc) (by omega)
      · clear hc
        have l1 := lb_lt (Rw a) k
        have l2 := lb_lt (Rw c) k
        have l3 := ad_le (x := Rw a) (y := Rw c) (Nat.two_pow_pos (16 * k))
        have hst := ad_step (x := Rw a) (y := Rw c) (P := 2 ^ (16 * k)) (B := 65536) (Nat.two_pow_pos _) (by decide)
        refine lv_aload_n hx hb dX7_add_13 rfl (lv_at hl 2 rfl) ?_
        refine va_get (D := g.1) (ci := 7) (v := .ref (b + 1)) (C := RX7) (T := TX7) (N := 18) hx hb hts (by decide +kernel) hown hK.1 (xr_one hO) 0 rfl rfl 1 (by decide) (hts (.fieldLink RX7 7 "SharesDeskModel" "m" "[I") (by decide +kernel)) (fun _ h9 => h9) rfl dX7_add_14 ?_
        refine lv_bipush (v := 12) hx hb dX7_add_17 (by decide) ?_
        refine xr_ti (x' := nI 12) rfl ?_
        refine lv_iload_n hx hb dX7_add_19 rfl (lv_at hl 4 rfl) ?_
        refine lv_imul hx hb dX7_add_20 ?_
        refine xr_ti (x' := nI (12 * a)) (pk_mul _ _) ?_
        refine lv_iload hx hb dX7_add_21 (lv_at hl 0 rfl) ?_
        refine lv_iadd hx hb dX7_add_23 ?_
        refine xr_ti (x' := nI (12 * a + k)) (nI_add _ _) ?_
        refine xr_rd hx hb hK hf (show 12 * a + k < 10320 by omega) (by decide) dX7_add_24 ?_
        refine xr_ti (x' := nI (lb (Rw a) k)) (rw_rd (by omega) (Nat.le_refl k)) ?_
        refine lv_aload_n hx hb dX7_add_25 rfl (lv_at hl 2 rfl) ?_
        refine va_get (D := g.1) (ci := 7) (v := .ref (b + 1)) (C := RX7) (T := TX7) (N := 18) hx hb hts (by decide +kernel) hown hK.1 (xr_one hO) 0 rfl rfl 1 (by decide) (hts (.fieldLink RX7 7 "SharesDeskModel" "m" "[I") (by decide +kernel)) (fun _ h9 => h9) rfl dX7_add_26 ?_
        refine lv_bipush (v := 12) hx hb dX7_add_29 (by decide) ?_
        refine xr_ti (x' := nI 12) rfl ?_
        refine lv_iload_n hx hb dX7_add_31 rfl (lv_at hl 5 rfl) ?_
        refine lv_imul hx hb dX7_add_32 ?_
        refine xr_ti (x' := nI (12 * c)) (pk_mul _ _) ?_
        refine lv_iload hx hb dX7_add_33 (lv_at hl 0 rfl) ?_
        refine lv_iadd hx hb dX7_add_35 ?_
        refine xr_ti (x' := nI (12 * c + k)) (nI_add _ _) ?_
        refine xr_rd hx hb hK hf (show 12 * c + k < 10320 by omega) (by decide) dX7_add_36 ?_
        refine xr_ti (x' := nI (lb (Rw c) k)) (rw_rd (by omega) (Nat.le_refl k)) ?_
        refine lv_iadd hx hb dX7_add_37 ?_
        refine xr_ti (x' := nI (lb (Rw a) k + lb (Rw c) k)) (nI_add _ _) ?_
        refine lv_iload hx hb dX7_add_38 (lv_at hl 1 rfl) ?_
        refine lv_iadd hx hb dX7_add_40 ?_
        refine xr_ti (x' := nI (lb (Rw a) k + lb (Rw c) k + (Rw a % 2 ^ (16 * k) + Rw c % 2 ^ (16 * k)) / 2 ^ (16 * k))) (nI_add _ _) ?_
        refine lv_istore (lv' := [(6, .int (nI (lb (Rw a) k + lb (Rw c) k + (Rw a % 2 ^ (16 * k) + Rw c % 2 ^ (16 * k)) / 2 ^ (16 * k)))), (5, .int (nI k)), (4, .int (nI ((Rw a % 2 ^ (16 * k) + Rw c % 2 ^ (16 * k)) / 2 ^ (16 * k)))), (0, .ref b), (1, .int (nI d)), (2, .int (nI a)), (3, .int (nI c))]) hx hb dX7_add_41 hl (by decide) rfl (fun ls hl => ?_)
        refine lv_aload_n hx hb dX7_add_43 rfl (lv_at hl 3 rfl) ?_
        refine va_get (D := g.1) (ci := 7) (v := .ref (b + 1)) (C := RX7) (T := TX7) (N := 18) hx hb hts (by decide +kernel) hown hK.1 (xr_one hO) 0 rfl rfl 1 (by decide) (hts (.fieldLink RX7 7 "SharesDeskModel" "m" "[I") (by decide +kernel)) (fun _ h9 => h9) rfl dX7_add_44 ?_
        refine lv_bipush (v := 12) hx hb dX7_add_47 (by decide) ?_
        refine xr_ti (x' := nI 12) rfl ?_
        refine lv_iload_n hx hb dX7_add_49 rfl (lv_at hl 4 rfl) ?_
        refine lv_imul hx hb dX7_add_50 ?_
        refine xr_ti (x' := nI (12 * d)) (pk_mul _ _) ?_
        refine lv_iload hx hb dX7_add_51 (lv_at hl 1 rfl) ?_
        refine lv_iadd hx hb dX7_add_53 ?_
        refine xr_ti (x' := nI (12 * d + k)) (nI_add _ _) ?_
        refine lv_iload hx hb dX7_add_54 (lv_at hl 0 rfl) ?_
        refine lv_ldc (v := (65535)) hx hb hown (hts (.constant RX7 56 (65535)) (by decide +kernel)) dX7_add_56 ?_
        refine lv_iand hx hb dX7_add_58 ?_
        refine xr_ti (x' := nI ((lb (Rw a) k + lb (Rw c) k + (Rw a % 2 ^ (16 * k) + Rw c % 2 ^ (16 * k)) / 2 ^ (16 * k)) % 65536)) (pk_andN (by omega) 16 rfl) ?_
        refine xr_wr hx hb hK hS (show b + 1 = b + 1 from rfl) hf (show 12 * d + k < 10320 by omega) (by decide) dX7_add_59 (fun H locs hz hkp hf hS => ?_)
        have hO := hO.kept (hkp b (by omega))
        rw [rw_put (by omega) (show (lb (Rw a) k + lb (Rw c) k + (Rw a % 2 ^ (16 * k) + Rw c % 2 ^ (16 * k)) / 2 ^ (16 * k)) % 65536 = lb (Rw a + Rw c) k from hst.1.symm)] at hf
        refine lv_iload hx hb dX7_add_60 (lv_at hl 0 rfl) ?_
        refine lv_bipush (v := 16) hx hb dX7_add_62 (by decide) ?_
        refine lv_ishr hx hb dX7_add_64 ?_
        refine xr_ti (x' := nI ((lb (Rw a) k + lb (Rw c) k + (Rw a % 2 ^ (16 * k) + Rw c % 2 ^ (16 * k)) / 2 ^ (16 * k)) / 65536)) (pk_shrN (by omega) _ 16 (by decide)) ?_
        refine xr_ti (x' := nI ((Rw a % 2 ^ (16 * (k + 1)) + Rw c % 2 ^ (16 * (k + 1))) / 2 ^ (16 * (k + 1)))) (by rw [p16s, hst.2]; rfl) ?_
        refine lv_istore (lv' := [(4, .int (nI ((Rw a % 2 ^ (16 * (k + 1)) + Rw c % 2 ^ (16 * (k + 1))) / 2 ^ (16 * (k + 1))))), (6, .int (nI (lb (Rw a) k + lb (Rw c) k + (Rw a % 2 ^ (16 * k) + Rw c % 2 ^ (16 * k)) / 2 ^ (16 * k)))), (5, .int (nI k)), (0, .ref b), (1, .int (nI d)), (2, .int (nI a)), (3, .int (nI c))]) hx hb dX7_add_65 hl (by decide) rfl (fun ls hl => ?_)
        refine lv_iinc (v := nI (k + 1)) (lv' := [(5, .int (nI (k + 1))), (4, .int (nI ((Rw a % 2 ^ (16 * (k + 1)) + Rw c % 2 ^ (16 * (k + 1))) / 2 ^ (16 * (k + 1))))), (6, .int (nI (lb (Rw a) k + lb (Rw c) k + (Rw a % 2 ^ (16 * k) + Rw c % 2 ^ (16 * k)) / 2 ^ (16 * k)))), (0, .ref b), (1, .int (nI d)), (2, .int (nI a)), (3, .int (nI c))]) hx hb dX7_add_67 hl (k := 2) rfl (nI_1 k) (by decide) rfl (fun ls hl => ?_)
        refine lv_goto (tgt := 6) hx hb dX7_add_70 (by decide) ?_
        exact ih (k + 1) (by omega) H locs hO hf hS ls (lv_sub hl [0, 1, 3, 4, 5, 6] rfl)
  refine lv_iconst (v := 0) hx hb dX7_add_0 (by decide) ?_
  refine xr_ti (x' := nI ((Rw a % 2 ^ (16 * 0) + Rw c % 2 ^ (16 * 0)) / 2 ^ (16 * 0))) (by rw [Nat.mul_zero, Nat.pow_zero, Nat.mod_one, Nat.mod_one]; rfl) ?_
  refine lv_istore (lv' := [(4, .int (nI ((Rw a % 2 ^ (16 * 0) + Rw c % 2 ^ (16 * 0)) / 2 ^ (16 * 0)))), (0, .ref b), (1, .int (nI d)), (2, .int (nI a)), (3, .int (nI c))]) hx hb dX7_add_1 hl (by decide) rfl (fun ls hl => ?_)
  refine lv_iconst (v := 0) hx hb dX7_add_3 (by decide) ?_
  refine xr_ti (x' := nI 0) rfl ?_
  refine lv_istore (lv' := [(5, .int (nI 0)), (4, .int (nI ((Rw a % 2 ^ (16 * 0) + Rw c % 2 ^ (16 * 0)) / 2 ^ (16 * 0)))), (0, .ref b), (1, .int (nI d)), (2, .int (nI a)), (3, .int (nI c))]) hx hb dX7_add_4 hl (by decide) rfl (fun ls hl => ?_)
  exact loop 12 0 (by omega) s.heap [] hO (by rw [mix_0, va_same]; exact hf) hS ls (lv_sub hl [0, 1, 2, 3, 4, 5] rfl)
set_option maxHeartbeats 400000 in
set_option maxRecDepth 100000 in
theorem c_X7_lessen (l : Launch) (g : WG) (H0 : Heap) (b : Nat) (th bu ob cn rn py ln : Int32) (hO : obj g H0 b 7 (moF b th bu ob cn rn py ln)) (Rw : Nat → Nat) (hM : RwsAt g H0 b Rw) (d a c : Nat) (hd : d < 860) (ha : a < 860) (hc9 : c < 860) (hs9 : Rw c ≤ Rw a) : Ctr l (KK g) yX7_lessen wsX7_lessen { frames := 0, cells := 0, slots := 0, locals := 0 } [.ref b, .int (nI d), .int (nI a), .int (nI c)] H0 eV (fun _ H => RwsAt g H b (va_up Rw d (Rw a - Rw c))) (fun q => q = b + 1) := by
  refine xr_enter (cc := cX7_lessen) (maxL := 7) (ret := none) (by decide) rfl (Nat.le_of_ble_eq_true rfl) ?_
  intro pgm env s mid below meth cde hx hb hr hml hts hown hlocks hnm hH hK ls hl
  subst hH
  have hl : lv_has ls 7 [(0, .ref b), (1, .int (nI d)), (2, .int (nI a)), (3, .int (nI c))] := hl
  have hS : va_S (fun q => q = b + 1) s.heap s.heap [] := va_S.rf
  obtain ⟨hf, hRb⟩ := id hM
  have hda : Rw a - Rw c < 2 ^ 192 := Nat.lt_of_le_of_lt (Nat.sub_le _ _) (hRb a ha)
  have loop : ∀ (n k : Nat), k + n = 12 → ∀ (H : Heap) (locs : List Loc), obj g H b 7 (moF b th bu ob cn rn py ln) → xr_ia H (b + 1) (gI g) 10320 (rwA (va_up Rw d (mixR k (Rw a - Rw c) (Rw d)))) → va_S (fun q => q = b + 1) s.heap H locs → ∀ ls : Array Slot, lv_has ls 7 [(5, .int (nI k)), (4, .int (nI (if Rw a % 2 ^ (16 * k) < Rw c % 2 ^ (16 * k) then 1 else 0))), (0, .ref b), (1, .int (nI d)), (2, .int (nI a)), (3, .int (nI c))] → W pgm l env { frames := 0, cells := 0, slots := 0, locals := 0 } s mid ([.ref b, .int (nI d), .int (nI a), .int (nI c)] : List Value).toArray below meth cde H locs 0 0 (MQ below (xr_Post eV (fun _ H => RwsAt g H b (va_up Rw d (Rw a - Rw c))) (fun q => q = b + 1)) ([.ref b, .int (nI d), .int (nI a), .int (nI c)] : List Value).toArray s ({ frames := 0, cells := 0, slots := 0, locals := 0 } : Room).cells ({ frames := 0, cells := 0, slots := 0, locals := 0 } : Room).slots (fun q => q = b + 1)) (F0 mid 6 ls []) := by
    intro n
    induction n with
    | zero =>
      intro k h1 H locs hO hf hS ls hl
      have e : k = 12 := by omega
      subst e
      refine lv_iload hx hb dX7_lessen_6 (lv_at hl 0 rfl) ?_
      refine lv_bipush (v := 12) hx hb dX7_lessen_8 (by decide) ?_
      refine lv_icmp_ge (tgt := 78) hx hb dX7_lessen_10 (by decide) (fun hc => ?_) (fun hc => ?_)
      · clear hc
        rw [mix_12 hda (hRb d hd)] at hf
        exact xr_vret hx hb hr hlocks hS ⟨hf, rw_all hRb hda⟩ dX7_lessen_78
      · exact absurd (by decide) hc
    | succ n ih =>
      intro k h1 H locs hO hf hS ls hl
      refine lv_iload hx hb dX7_lessen_6 (lv_at hl 0 rfl) ?_
      refine lv_bipush (v := 12) hx hb dX7_lessen_8 (by decide) ?_
      refine lv_icmp_ge (tgt := 78) hx hb dX7_lessen_10 (by decide) (fun hc => ?_) (fun hc => ?_)
      · exact absurd ((nI_leI (a := 12) (b := k) (by decide) (by omega)).mp hc) (by omega)
      · clear hc
        have l1 := lb_lt (Rw a) k
        have l2 := lb_lt (Rw c) k
        have l4 := lb_lt (Rw a - Rw c) k
        obtain ⟨bo, q, hbo, hq9, hst⟩ := mn_step (x := Rw a) (y := Rw c) (P := 2 ^ (16 * k)) (B := 65536) (Nat.two_pow_pos _) (by decide) hs9
        rw [← hbo] at hl
        have hst : lb (Rw a - Rw c) k + lb (Rw c) k + bo = lb (Rw a) k + q * 65536 := hst
        have hq1 : q ≤ 1 := by rw [hq9]; split <;> omega
        refine lv_aload_n hx hb dX7_lessen_13 rfl (lv_at hl 2 rfl) ?_
        refine va_get (D := g.1) (ci := 7) (v := .ref (b + 1)) (C := RX7) (T := TX7) (N := 18) hx hb hts (by decide +kernel) hown hK.1 (xr_one hO) 0 rfl rfl 1 (by decide) (hts (.fieldLink RX7 7 "SharesDeskModel" "m" "[I") (by decide +kernel)) (fun _ h9 => h9) rfl dX7_lessen_14 ?_
        refine lv_bipush (v := 12) hx hb dX7_lessen_17 (by decide) ?_
        refine xr_ti (x' := nI 12) rfl ?_
        refine lv_iload_n hx hb dX7_lessen_19 rfl (lv_at hl 4 rfl) ?_
        refine lv_imul hx hb dX7_lessen_20 ?_
        refine xr_ti (x' := nI (12 * a)) (pk_mul _ _) ?_
        refine lv_iload hx hb dX7_lessen_21 (lv_at hl 0 rfl) ?_
        refine lv_iadd hx hb dX7_lessen_23 ?_
        refine xr_ti (x' := nI (12 * a + k)) (nI_add _ _) ?_
        refine xr_rd hx hb hK hf (show 12 * a + k < 10320 by omega) (by decide) dX7_lessen_24 ?_
        refine xr_ti (x' := nI (lb (Rw a) k)) (rw_rd (by omega) (Nat.le_refl k)) ?_
        refine lv_aload_n hx hb dX7_lessen_25 rfl (lv_at hl 2 rfl) ?_
        refine va_get (D := g.1) (ci := 7) (v := .ref (b + 1)) (C := RX7) (T := TX7) (N := 18) hx hb hts (by decide +kernel) hown hK.1 (xr_one hO) 0 rfl rfl 1 (by decide) (hts (.fieldLink RX7 7 "SharesDeskModel" "m" "[I") (by decide +kernel)) (fun _ h9 => h9) rfl dX7_lessen_26 ?_
        refine lv_bipush (v := 12) hx hb dX7_lessen_29 (by decide) ?_
        refine xr_ti (x' := nI 12) rfl ?_
        refine lv_iload_n hx hb dX7_lessen_31 rfl (lv_at hl 5 rfl) ?_
        refine lv_imul hx hb dX7_lessen_32 ?_
        refine xr_ti (x' := nI (12 * c)) (pk_mul _ _) ?_
        refine lv_iload hx hb dX7_lessen_33 (lv_at hl 0 rfl) ?_
        refine lv_iadd hx hb dX7_lessen_35 ?_
        refine xr_ti (x' := nI (12 * c + k)) (nI_add _ _) ?_
        refine xr_rd hx hb hK hf (show 12 * c + k < 10320 by omega) (by decide) dX7_lessen_36 ?_
        refine xr_ti (x' := nI (lb (Rw c) k)) (rw_rd (by omega) (Nat.le_refl k)) ?_
        refine lv_isub hx hb dX7_lessen_37 ?_
        refine lv_iload hx hb dX7_lessen_38 (lv_at hl 1 rfl) ?_
        refine lv_isub hx hb dX7_lessen_40 ?_
        refine xr_ti (x' := nI (lb (Rw a - Rw c) k) - nI (q * 65536)) (i_bw hst) ?_
        refine lv_istore (lv' := [(6, .int (nI (lb (Rw a - Rw c) k) - nI (q * 65536))), (5, .int (nI k)), (4, .int (nI bo)), (0, .ref b), (1, .int (nI d)), (2, .int (nI a)), (3, .int (nI c))]) hx hb dX7_lessen_41 hl (by decide) rfl (fun ls hl => ?_)
        refine lv_aload_n hx hb dX7_lessen_43 rfl (lv_at hl 3 rfl) ?_
        refine va_get (D := g.1) (ci := 7) (v := .ref (b + 1)) (C := RX7) (T := TX7) (N := 18) hx hb hts (by decide +kernel) hown hK.1 (xr_one hO) 0 rfl rfl 1 (by decide) (hts (.fieldLink RX7 7 "SharesDeskModel" "m" "[I") (by decide +kernel)) (fun _ h9 => h9) rfl dX7_lessen_44 ?_
        refine lv_bipush (v := 12) hx hb dX7_lessen_47 (by decide) ?_
        refine xr_ti (x' := nI 12) rfl ?_
        refine lv_iload_n hx hb dX7_lessen_49 rfl (lv_at hl 4 rfl) ?_
        refine lv_imul hx hb dX7_lessen_50 ?_
        refine xr_ti (x' := nI (12 * d)) (pk_mul _ _) ?_
        refine lv_iload hx hb dX7_lessen_51 (lv_at hl 1 rfl) ?_
        refine lv_iadd hx hb dX7_lessen_53 ?_
        refine xr_ti (x' := nI (12 * d + k)) (nI_add _ _) ?_
        refine lv_iload hx hb dX7_lessen_54 (lv_at hl 0 rfl) ?_
        refine lv_ldc (v := (65535)) hx hb hown (hts (.constant RX7 56 (65535)) (by decide +kernel)) dX7_lessen_56 ?_
        refine lv_iand hx hb dX7_lessen_58 ?_
        refine xr_ti (x' := nI (lb (Rw a - Rw c) k)) (i_bm l4 hq1) ?_
        refine xr_wr hx hb hK hS (show b + 1 = b + 1 from rfl) hf (show 12 * d + k < 10320 by omega) (by decide) dX7_lessen_59 (fun H locs hz hkp hf hS => ?_)
        have hO := hO.kept (hkp b (by omega))
        rw [rw_put (by omega) rfl] at hf
        refine lv_iload hx hb dX7_lessen_60 (lv_at hl 0 rfl) ?_
        refine lv_if_ge (tgt := 69) hx hb dX7_lessen_62 (by decide) (fun hs => ?_) (fun hs => ?_)
        · have e : q = 0 := i_bs0 l4 hq1 hs
          refine lv_iconst (v := 0) hx hb dX7_lessen_69 (by decide) ?_
          refine xr_ti (x' := nI (if Rw a % 2 ^ (16 * (k + 1)) < Rw c % 2 ^ (16 * (k + 1)) then 1 else 0)) (by rw [p16s, ← hq9, e]; rfl) ?_
          refine lv_istore (lv' := [(4, .int (nI (if Rw a % 2 ^ (16 * (k + 1)) < Rw c % 2 ^ (16 * (k + 1)) then 1 else 0))), (6, .int (nI (lb (Rw a - Rw c) k) - nI (q * 65536))), (5, .int (nI k)), (0, .ref b), (1, .int (nI d)), (2, .int (nI a)), (3, .int (nI c))]) hx hb dX7_lessen_70 hl (by decide) rfl (fun ls hl => ?_)
          refine lv_iinc (v := nI (k + 1)) (lv' := [(5, .int (nI (k + 1))), (4, .int (nI (if Rw a % 2 ^ (16 * (k + 1)) < Rw c % 2 ^ (16 * (k + 1)) then 1 else 0))), (6, .int (nI (lb (Rw a - Rw c) k) - nI (q * 65536))), (0, .ref b), (1, .int (nI d)), (2, .int (nI a)), (3, .int (nI c))]) hx hb dX7_lessen_72 hl (k := 2) rfl (nI_1 k) (by decide) rfl (fun ls hl => ?_)
          refine lv_goto (tgt := 6) hx hb dX7_lessen_75 (by decide) ?_
          exact ih (k + 1) (by omega) H locs hO hf hS ls (lv_sub hl [0, 1, 3, 4, 5, 6] rfl)
        · have e : q = 1 := i_bs1 l4 hq1 hs
          refine lv_iconst (v := 1) hx hb dX7_lessen_65 (by decide) ?_
          refine xr_ti (x' := nI (if Rw a % 2 ^ (16 * (k + 1)) < Rw c % 2 ^ (16 * (k + 1)) then 1 else 0)) (by rw [p16s, ← hq9, e]; rfl) ?_
          refine lv_goto (tgt := 70) hx hb dX7_lessen_66 (by decide) ?_
          refine lv_istore (lv' := [(4, .int (nI (if Rw a % 2 ^ (16 * (k + 1)) < Rw c % 2 ^ (16 * (k + 1)) then 1 else 0))), (6, .int (nI (lb (Rw a - Rw c) k) - nI (q * 65536))), (5, .int (nI k)), (0, .ref b), (1, .int (nI d)), (2, .int (nI a)), (3, .int (nI c))]) hx hb dX7_lessen_70 hl (by decide) rfl (fun ls hl => ?_)
          refine lv_iinc (v := nI (k + 1)) (lv' := [(5, .int (nI (k + 1))), (4, .int (nI (if Rw a % 2 ^ (16 * (k + 1)) < Rw c % 2 ^ (16 * (k + 1)) then 1 else 0))), (6, .int (nI (lb (Rw a - Rw c) k) - nI (q * 65536))), (0, .ref b), (1, .int (nI d)), (2, .int (nI a)), (3, .int (nI c))]) hx hb dX7_lessen_72 hl (k := 2) rfl (nI_1 k) (by decide) rfl (fun ls hl => ?_)
          refine lv_goto (tgt := 6) hx hb dX7_lessen_75 (by decide) ?_
          exact ih (k + 1) (by omega) H locs hO hf hS ls (lv_sub hl [0, 1, 3, 4, 5, 6] rfl)
  refine lv_iconst (v := 0) hx hb dX7_lessen_0 (by decide) ?_
  refine xr_ti (x' := nI (if Rw a % 2 ^ (16 * 0) < Rw c % 2 ^ (16 * 0) then 1 else 0)) (by rw [Nat.mul_zero, Nat.pow_zero, Nat.mod_one, Nat.mod_one]; rfl) ?_
  refine lv_istore (lv' := [(4, .int (nI (if Rw a % 2 ^ (16 * 0) < Rw c % 2 ^ (16 * 0) then 1 else 0))), (0, .ref b), (1, .int (nI d)), (2, .int (nI a)), (3, .int (nI c))]) hx hb dX7_lessen_1 hl (by decide) rfl (fun ls hl => ?_)
  refine lv_iconst (v := 0) hx hb dX7_lessen_3 (by decide) ?_
  refine xr_ti (x' := nI 0) rfl ?_
  refine lv_istore (lv' := [(5, .int (nI 0)), (4, .int (nI (if Rw a % 2 ^ (16 * 0) < Rw c % 2 ^ (16 * 0) then 1 else 0))), (0, .ref b), (1, .int (nI d)), (2, .int (nI a)), (3, .int (nI c))]) hx hb dX7_lessen_4 hl (by decide) rfl (fun ls hl => ?_)
  exact loop 12 0 (by omega) s.heap [] hO (by rw [mix_0, va_same]; exact hf) hS ls (lv_sub hl [0, 1, 2, 3, 4, 5] rfl)
set_option maxHeartbeats 400000 in
set_option maxRecDepth 100000 in
theorem c_X7_times (l : Launch) (g : WG) (H0 : Heap) (b : Nat) (th bu ob cn rn py ln : Int32) (hO : obj g H0 b 7 (moF b th bu ob cn rn py ln)) (Rw : Nat → Nat) (hM : RwsAt g H0 b Rw) (d a y : Nat) (hd : d < 860) (ha : a < 860) (hy : y < 2 ^ 31) (hs9 : Rw a * y < 2 ^ 192) : Ctr l (KK g) yX7_times wsX7_times { frames := 0, cells := 0, slots := 0, locals := 0 } [.ref b, .int (nI d), .int (nI a), .int (nI y)] H0 eV (fun _ H => RwsAt g H b (va_up Rw d (Rw a * y))) (fun q => q = b + 1) := by
  refine xr_enter (cc := cX7_times) (maxL := 9) (ret := none) (by decide) rfl (Nat.le_of_ble_eq_true rfl) ?_
  intro pgm env s mid below meth cde hx hb hr hml hts hown hlocks hnm hH hK ls hl
  subst hH
  have hl : lv_has ls 9 [(0, .ref b), (1, .int (nI d)), (2, .int (nI a)), (3, .int (nI y))] := hl
  have hS : va_S (fun q => q = b + 1) s.heap s.heap [] := va_S.rf
  obtain ⟨hf, hRb⟩ := id hM
  have loop : ∀ (n k : Nat), k + n = 12 → ∀ (H : Heap) (locs : List Loc), obj g H b 7 (moF b th bu ob cn rn py ln) → xr_ia H (b + 1) (gI g) 10320 (rwA (va_up Rw d (mixR k (Rw a * y) (Rw d)))) → va_S (fun q => q = b + 1) s.heap H locs → ∀ ls : Array Slot, lv_has ls 9 [(6, .int (nI k)), (4, .long (lN (Rw a % 2 ^ (16 * k) * y / 2 ^ (16 * k)))), (0, .ref b), (1, .int (nI d)), (2, .int (nI a)), (3, .int (nI y))] → W pgm l env { frames := 0, cells := 0, slots := 0, locals := 0 } s mid ([.ref b, .int (nI d), .int (nI a), .int (nI y)] : List Value).toArray below meth cde H locs 0 0 (MQ below (xr_Post eV (fun _ H => RwsAt g H b (va_up Rw d (Rw a * y))) (fun q => q = b + 1)) ([.ref b, .int (nI d), .int (nI a), .int (nI y)] : List Value).toArray s ({ frames := 0, cells := 0, slots := 0, locals := 0 } : Room).cells ({ frames := 0, cells := 0, slots := 0, locals := 0 } : Room).slots (fun q => q = b + 1)) (F0 mid 6 ls []) := by
    intro n
    induction n with
    | zero =>
      intro k h1 H locs hO hf hS ls hl
      have e : k = 12 := by omega
      subst e
      refine lv_iload hx hb dX7_times_6 (lv_at hl 0 rfl) ?_
      refine lv_bipush (v := 12) hx hb dX7_times_8 (by decide) ?_
      refine lv_icmp_ge (tgt := 66) hx hb dX7_times_10 (by decide) (fun hc => ?_) (fun hc => ?_)
      · clear hc
        rw [mix_12 (hs9) (hRb d hd)] at hf
        exact xr_vret hx hb hr hlocks hS ⟨hf, rw_all hRb (hs9)⟩ dX7_times_66
      · exact absurd (by decide) hc
    | succ n ih =>
      intro k h1 H locs hO hf hS ls hl
      refine lv_iload hx hb dX7_times_6 (lv_at hl 0 rfl) ?_
      refine lv_bipush (v := 12) hx hb dX7_times_8 (by decide) ?_
      refine lv_icmp_ge (tgt := 66) hx hb dX7_times_10 (by decide) (fun hc => ?_) (fun hc => ?_)
      · exact absurd ((nI_leI (a := 12) (b := k) (by decide) (by omega)).mp hc) (by omega)
      · clear hc
        have l1 := lb_lt (Rw a) k
        have l3 := tm_le (x := Rw a) (k := y) (Nat.two_pow_pos (16 * k))
        have hst := tm_step (x := Rw a) (k := y) (P := 2 ^ (16 * k)) (B := 65536) (Nat.two_pow_pos _) (by decide)
        have l5 : lb (Rw a) k * y ≤ 65535 * y := Nat.mul_le_mul_right _ (by omega)
        refine lv_aload_n hx hb dX7_times_13 rfl (lv_at hl 2 rfl) ?_
        refine va_get (D := g.1) (ci := 7) (v := .ref (b + 1)) (C := RX7) (T := TX7) (N := 18) hx hb hts (by decide +kernel) hown hK.1 (xr_one hO) 0 rfl rfl 1 (by decide) (hts (.fieldLink RX7 7 "SharesDeskModel" "m" "[I") (by decide +kernel)) (fun _ h9 => h9) rfl dX7_times_14 ?_
        refine lv_bipush (v := 12) hx hb dX7_times_17 (by decide) ?_
        refine xr_ti (x' := nI 12) rfl ?_
        refine lv_iload_n hx hb dX7_times_19 rfl (lv_at hl 4 rfl) ?_
        refine lv_imul hx hb dX7_times_20 ?_
        refine xr_ti (x' := nI (12 * a)) (pk_mul _ _) ?_
        refine lv_iload hx hb dX7_times_21 (lv_at hl 0 rfl) ?_
        refine lv_iadd hx hb dX7_times_23 ?_
        refine xr_ti (x' := nI (12 * a + k)) (nI_add _ _) ?_
        refine xr_rd hx hb hK hf (show 12 * a + k < 10320 by omega) (by decide) dX7_times_24 ?_
        refine xr_ti (x' := nI (lb (Rw a) k)) (rw_rd (by omega) (Nat.le_refl k)) ?_
        refine lv_i2l (v := lN (lb (Rw a) k)) hx hb dX7_times_25 (nI_l (by omega)) ?_
        refine lv_iload_n hx hb dX7_times_26 rfl (lv_at hl 5 rfl) ?_
        refine lv_i2l (v := lN y) hx hb dX7_times_27 (nI_l hy) ?_
        refine lv_lmul hx hb dX7_times_28 ?_
        refine xr_tl (x' := lN (lb (Rw a) k * y)) (lN_mul _ _) ?_
        refine lv_lload hx hb dX7_times_29 (lv_at hl 1 rfl) ?_
        refine lv_ladd hx hb dX7_times_31 ?_
        refine xr_tl (x' := lN (lb (Rw a) k * y + Rw a % 2 ^ (16 * k) * y / 2 ^ (16 * k))) (lN_add _ _) ?_
        refine lv_lstore (lv' := [(7, .long (lN (lb (Rw a) k * y + Rw a % 2 ^ (16 * k) * y / 2 ^ (16 * k)))), (6, .int (nI k)), (4, .long (lN (Rw a % 2 ^ (16 * k) * y / 2 ^ (16 * k)))), (0, .ref b), (1, .int (nI d)), (2, .int (nI a)), (3, .int (nI y))]) hx hb dX7_times_32 hl (by decide) rfl (fun ls hl => ?_)
        refine lv_aload_n hx hb dX7_times_34 rfl (lv_at hl 3 rfl) ?_
        refine va_get (D := g.1) (ci := 7) (v := .ref (b + 1)) (C := RX7) (T := TX7) (N := 18) hx hb hts (by decide +kernel) hown hK.1 (xr_one hO) 0 rfl rfl 1 (by decide) (hts (.fieldLink RX7 7 "SharesDeskModel" "m" "[I") (by decide +kernel)) (fun _ h9 => h9) rfl dX7_times_35 ?_
        refine lv_bipush (v := 12) hx hb dX7_times_38 (by decide) ?_
        refine xr_ti (x' := nI 12) rfl ?_
        refine lv_iload_n hx hb dX7_times_40 rfl (lv_at hl 4 rfl) ?_
        refine lv_imul hx hb dX7_times_41 ?_
        refine xr_ti (x' := nI (12 * d)) (pk_mul _ _) ?_
        refine lv_iload hx hb dX7_times_42 (lv_at hl 1 rfl) ?_
        refine lv_iadd hx hb dX7_times_44 ?_
        refine xr_ti (x' := nI (12 * d + k)) (nI_add _ _) ?_
        refine lv_lload hx hb dX7_times_45 (lv_at hl 0 rfl) ?_
        refine lv_ldc2 (v := (65535)) hx hb hown (hts (.constantLong RX7 54 (65535)) (by decide +kernel)) dX7_times_47 ?_
        refine lv_land hx hb dX7_times_50 ?_
        refine xr_tl (x' := lN ((lb (Rw a) k * y + Rw a % 2 ^ (16 * k) * y / 2 ^ (16 * k)) % 65536)) (l_and16 (by omega)) ?_
        refine lv_l2i (v := nI ((lb (Rw a) k * y + Rw a % 2 ^ (16 * k) * y / 2 ^ (16 * k)) % 65536)) hx hb dX7_times_51 (lN_i _) ?_
        refine xr_wr hx hb hK hS (show b + 1 = b + 1 from rfl) hf (show 12 * d + k < 10320 by omega) (by decide) dX7_times_52 (fun H locs hz hkp hf hS => ?_)
        have hO := hO.kept (hkp b (by omega))
        rw [rw_put (by omega) (show (lb (Rw a) k * y + Rw a % 2 ^ (16 * k) * y / 2 ^ (16 * k)) % 65536 = lb (Rw a * y) k from hst.1.symm)] at hf
        refine lv_lload hx hb dX7_times_53 (lv_at hl 0 rfl) ?_
        refine lv_bipush (v := 16) hx hb dX7_times_55 (by decide) ?_
        refine lv_lshr (v := lN ((lb (Rw a) k * y + Rw a % 2 ^ (16 * k) * y / 2 ^ (16 * k)) / 65536)) hx hb dX7_times_57 (pf_shr (d := 16) (by decide) (by omega)) ?_
        refine xr_tl (x' := lN (Rw a % 2 ^ (16 * (k + 1)) * y / 2 ^ (16 * (k + 1)))) (by rw [p16s, hst.2]; rfl) ?_
        refine lv_lstore (lv' := [(4, .long (lN (Rw a % 2 ^ (16 * (k + 1)) * y / 2 ^ (16 * (k + 1))))), (7, .long (lN (lb (Rw a) k * y + Rw a % 2 ^ (16 * k) * y / 2 ^ (16 * k)))), (6, .int (nI k)), (0, .ref b), (1, .int (nI d)), (2, .int (nI a)), (3, .int (nI y))]) hx hb dX7_times_58 hl (by decide) rfl (fun ls hl => ?_)
        refine lv_iinc (v := nI (k + 1)) (lv' := [(6, .int (nI (k + 1))), (4, .long (lN (Rw a % 2 ^ (16 * (k + 1)) * y / 2 ^ (16 * (k + 1))))), (7, .long (lN (lb (Rw a) k * y + Rw a % 2 ^ (16 * k) * y / 2 ^ (16 * k)))), (0, .ref b), (1, .int (nI d)), (2, .int (nI a)), (3, .int (nI y))]) hx hb dX7_times_60 hl (k := 2) rfl (nI_1 k) (by decide) rfl (fun ls hl => ?_)
        refine lv_goto (tgt := 6) hx hb dX7_times_63 (by decide) ?_
        exact ih (k + 1) (by omega) H locs hO hf hS ls (lv_sub hl [0, 1, 3, 4, 5, 6] rfl)
  refine lv_lconst (v := 0) hx hb dX7_times_0 (by decide) ?_
  refine xr_tl (x' := lN (Rw a % 2 ^ (16 * 0) * y / 2 ^ (16 * 0))) (by rw [Nat.mul_zero, Nat.pow_zero, Nat.mod_one, Nat.zero_mul]; rfl) ?_
  refine lv_lstore (lv' := [(4, .long (lN (Rw a % 2 ^ (16 * 0) * y / 2 ^ (16 * 0)))), (0, .ref b), (1, .int (nI d)), (2, .int (nI a)), (3, .int (nI y))]) hx hb dX7_times_1 hl (by decide) rfl (fun ls hl => ?_)
  refine lv_iconst (v := 0) hx hb dX7_times_3 (by decide) ?_
  refine xr_ti (x' := nI 0) rfl ?_
  refine lv_istore (lv' := [(6, .int (nI 0)), (4, .long (lN (Rw a % 2 ^ (16 * 0) * y / 2 ^ (16 * 0)))), (0, .ref b), (1, .int (nI d)), (2, .int (nI a)), (3, .int (nI y))]) hx hb dX7_times_4 hl (by decide) rfl (fun ls hl => ?_)
  exact loop 12 0 (by omega) s.heap [] hO (by rw [mix_0, va_same]; exact hf) hS ls (lv_sub hl [0, 1, 2, 3, 4, 5] rfl)
set_option maxHeartbeats 400000 in
set_option maxRecDepth 100000 in
theorem c_X7_twice (l : Launch) (g : WG) (H0 : Heap) (b : Nat) (th bu ob cn rn py ln : Int32) (hO : obj g H0 b 7 (moF b th bu ob cn rn py ln)) (Rw : Nat → Nat) (hM : RwsAt g H0 b Rw) (d y : Nat) (hd : d < 860) (hy : y ≤ 1) (hs9 : 2 * Rw d + y < 2 ^ 192) : Ctr l (KK g) yX7_twice wsX7_twice { frames := 0, cells := 0, slots := 0, locals := 0 } [.ref b, .int (nI d), .int (nI y)] H0 eV (fun _ H => RwsAt g H b (va_up Rw d (2 * Rw d + y))) (fun q => q = b + 1) := by
  refine xr_enter (cc := cX7_twice) (maxL := 6) (ret := none) (by decide) rfl (Nat.le_of_ble_eq_true rfl) ?_
  intro pgm env s mid below meth cde hx hb hr hml hts hown hlocks hnm hH hK ls hl
  subst hH
  have hl : lv_has ls 6 [(0, .ref b), (1, .int (nI d)), (2, .int (nI y))] := hl
  have hS : va_S (fun q => q = b + 1) s.heap s.heap [] := va_S.rf
  obtain ⟨hf, hRb⟩ := id hM
  have loop : ∀ (n k : Nat), k + n = 12 → ∀ (H : Heap) (locs : List Loc), obj g H b 7 (moF b th bu ob cn rn py ln) → xr_ia H (b + 1) (gI g) 10320 (rwA (va_up Rw d (mixR k (2 * Rw d + y) (Rw d)))) → va_S (fun q => q = b + 1) s.heap H locs → ∀ ls : Array Slot, lv_has ls 6 [(4, .int (nI k)), (3, .int (nI ((Rw d % 2 ^ (16 * k) * 2 + y) / 2 ^ (16 * k)))), (0, .ref b), (1, .int (nI d))] → W pgm l env { frames := 0, cells := 0, slots := 0, locals := 0 } s mid ([.ref b, .int (nI d), .int (nI y)] : List Value).toArray below meth cde H locs 0 0 (MQ below (xr_Post eV (fun _ H => RwsAt g H b (va_up Rw d (2 * Rw d + y))) (fun q => q = b + 1)) ([.ref b, .int (nI d), .int (nI y)] : List Value).toArray s ({ frames := 0, cells := 0, slots := 0, locals := 0 } : Room).cells ({ frames := 0, cells := 0, slots := 0, locals := 0 } : Room).slots (fun q => q = b + 1)) (F0 mid 5 ls []) := by
    intro n
    induction n with
    | zero =>
      intro k h1 H locs hO hf hS ls hl
      have e : k = 12 := by omega
      subst e
      refine lv_iload hx hb dX7_twice_5 (lv_at hl 0 rfl) ?_
      refine lv_bipush (v := 12) hx hb dX7_twice_7 (by decide) ?_
      refine lv_icmp_ge (tgt := 59) hx hb dX7_twice_9 (by decide) (fun hc => ?_) (fun hc => ?_)
      · clear hc
        rw [mix_12 (hs9) (hRb d hd)] at hf
        exact xr_vret hx hb hr hlocks hS ⟨hf, rw_all hRb (hs9)⟩ dX7_twice_59
      · exact absurd (by decide) hc
    | succ n ih =>
      intro k h1 H locs hO hf hS ls hl
      refine lv_iload hx hb dX7_twice_5 (lv_at hl 0 rfl) ?_
      refine lv_bipush (v := 12) hx hb dX7_twice_7 (by decide) ?_
      refine lv_icmp_ge (tgt := 59) hx hb dX7_twice_9 (by decide) (fun hc => ?_) (fun hc => ?_)
      · exact absurd ((nI_leI (a := 12) (b := k) (by decide) (by omega)).mp hc) (by omega)
      · clear hc
        have l1 := lb_lt (Rw d) k
        have l3 := tw_le (x := Rw d) (y := y) (Nat.two_pow_pos (16 * k)) hy
        have hst := tw_step (x := Rw d) (y := y) (P := 2 ^ (16 * k)) (B := 65536) (Nat.two_pow_pos _) (by decide)
        refine lv_iconst (v := 2) hx hb dX7_twice_12 (by decide) ?_
        refine xr_ti (x' := nI 2) rfl ?_
        refine lv_aload_n hx hb dX7_twice_13 rfl (lv_at hl 2 rfl) ?_
        refine va_get (D := g.1) (ci := 7) (v := .ref (b + 1)) (C := RX7) (T := TX7) (N := 18) hx hb hts (by decide +kernel) hown hK.1 (xr_one hO) 0 rfl rfl 1 (by decide) (hts (.fieldLink RX7 7 "SharesDeskModel" "m" "[I") (by decide +kernel)) (fun _ h9 => h9) rfl dX7_twice_14 ?_
        refine lv_bipush (v := 12) hx hb dX7_twice_17 (by decide) ?_
        refine xr_ti (x' := nI 12) rfl ?_
        refine lv_iload_n hx hb dX7_twice_19 rfl (lv_at hl 3 rfl) ?_
        refine lv_imul hx hb dX7_twice_20 ?_
        refine xr_ti (x' := nI (12 * d)) (pk_mul _ _) ?_
        refine lv_iload hx hb dX7_twice_21 (lv_at hl 0 rfl) ?_
        refine lv_iadd hx hb dX7_twice_23 ?_
        refine xr_ti (x' := nI (12 * d + k)) (nI_add _ _) ?_
        refine xr_rd hx hb hK hf (show 12 * d + k < 10320 by omega) (by decide) dX7_twice_24 ?_
        refine xr_ti (x' := nI (lb (Rw d) k)) (rw_rd (by omega) (Nat.le_refl k)) ?_
        refine lv_imul hx hb dX7_twice_25 ?_
        refine xr_ti (x' := nI (2 * lb (Rw d) k)) (pk_mul _ _) ?_
        refine lv_iload_n hx hb dX7_twice_26 rfl (lv_at hl 1 rfl) ?_
        refine lv_iadd hx hb dX7_twice_27 ?_
        refine xr_ti (x' := nI (2 * lb (Rw d) k + (Rw d % 2 ^ (16 * k) * 2 + y) / 2 ^ (16 * k))) (nI_add _ _) ?_
        refine lv_istore (lv' := [(5, .int (nI (2 * lb (Rw d) k + (Rw d % 2 ^ (16 * k) * 2 + y) / 2 ^ (16 * k)))), (4, .int (nI k)), (3, .int (nI ((Rw d % 2 ^ (16 * k) * 2 + y) / 2 ^ (16 * k)))), (0, .ref b), (1, .int (nI d))]) hx hb dX7_twice_28 hl (by decide) rfl (fun ls hl => ?_)
        refine lv_aload_n hx hb dX7_twice_30 rfl (lv_at hl 3 rfl) ?_
        refine va_get (D := g.1) (ci := 7) (v := .ref (b + 1)) (C := RX7) (T := TX7) (N := 18) hx hb hts (by decide +kernel) hown hK.1 (xr_one hO) 0 rfl rfl 1 (by decide) (hts (.fieldLink RX7 7 "SharesDeskModel" "m" "[I") (by decide +kernel)) (fun _ h9 => h9) rfl dX7_twice_31 ?_
        refine lv_bipush (v := 12) hx hb dX7_twice_34 (by decide) ?_
        refine xr_ti (x' := nI 12) rfl ?_
        refine lv_iload_n hx hb dX7_twice_36 rfl (lv_at hl 4 rfl) ?_
        refine lv_imul hx hb dX7_twice_37 ?_
        refine xr_ti (x' := nI (12 * d)) (pk_mul _ _) ?_
        refine lv_iload hx hb dX7_twice_38 (lv_at hl 1 rfl) ?_
        refine lv_iadd hx hb dX7_twice_40 ?_
        refine xr_ti (x' := nI (12 * d + k)) (nI_add _ _) ?_
        refine lv_iload hx hb dX7_twice_41 (lv_at hl 0 rfl) ?_
        refine lv_ldc (v := (65535)) hx hb hown (hts (.constant RX7 56 (65535)) (by decide +kernel)) dX7_twice_43 ?_
        refine lv_iand hx hb dX7_twice_45 ?_
        refine xr_ti (x' := nI ((2 * lb (Rw d) k + (Rw d % 2 ^ (16 * k) * 2 + y) / 2 ^ (16 * k)) % 65536)) (pk_andN (by omega) 16 rfl) ?_
        refine xr_wr hx hb hK hS (show b + 1 = b + 1 from rfl) hf (show 12 * d + k < 10320 by omega) (by decide) dX7_twice_46 (fun H locs hz hkp hf hS => ?_)
        have hO := hO.kept (hkp b (by omega))
        rw [rw_put (by omega) (show (2 * lb (Rw d) k + (Rw d % 2 ^ (16 * k) * 2 + y) / 2 ^ (16 * k)) % 65536 = lb (2 * Rw d + y) k from hst.1.symm)] at hf
        refine lv_iload hx hb dX7_twice_47 (lv_at hl 0 rfl) ?_
        refine lv_bipush (v := 16) hx hb dX7_twice_49 (by decide) ?_
        refine lv_ishr hx hb dX7_twice_51 ?_
        refine xr_ti (x' := nI ((2 * lb (Rw d) k + (Rw d % 2 ^ (16 * k) * 2 + y) / 2 ^ (16 * k)) / 65536)) (pk_shrN (by omega) _ 16 (by decide)) ?_
        refine xr_ti (x' := nI ((Rw d % 2 ^ (16 * (k + 1)) * 2 + y) / 2 ^ (16 * (k + 1)))) (by rw [p16s, hst.2]; rfl) ?_
        refine lv_istore_n (lv' := [(3, .int (nI ((Rw d % 2 ^ (16 * (k + 1)) * 2 + y) / 2 ^ (16 * (k + 1))))), (5, .int (nI (2 * lb (Rw d) k + (Rw d % 2 ^ (16 * k) * 2 + y) / 2 ^ (16 * k)))), (4, .int (nI k)), (0, .ref b), (1, .int (nI d))]) hx hb dX7_twice_52 rfl hl (by decide) rfl (fun ls hl => ?_)
        refine lv_iinc (v := nI (k + 1)) (lv' := [(4, .int (nI (k + 1))), (3, .int (nI ((Rw d % 2 ^ (16 * (k + 1)) * 2 + y) / 2 ^ (16 * (k + 1))))), (5, .int (nI (2 * lb (Rw d) k + (Rw d % 2 ^ (16 * k) * 2 + y) / 2 ^ (16 * k)))), (0, .ref b), (1, .int (nI d))]) hx hb dX7_twice_53 hl (k := 2) rfl (nI_1 k) (by decide) rfl (fun ls hl => ?_)
        refine lv_goto (tgt := 5) hx hb dX7_twice_56 (by decide) ?_
        exact ih (k + 1) (by omega) H locs hO hf hS ls (lv_sub hl [0, 1, 3, 4] rfl)
  refine lv_iload_n hx hb dX7_twice_0 rfl (lv_at hl 2 rfl) ?_
  refine xr_ti (x' := nI ((Rw d % 2 ^ (16 * 0) * 2 + y) / 2 ^ (16 * 0))) (by rw [Nat.mul_zero, Nat.pow_zero, Nat.mod_one, Nat.zero_mul, Nat.zero_add, Nat.div_one]) ?_
  refine lv_istore_n (lv' := [(3, .int (nI ((Rw d % 2 ^ (16 * 0) * 2 + y) / 2 ^ (16 * 0)))), (0, .ref b), (1, .int (nI d)), (2, .int (nI y))]) hx hb dX7_twice_1 rfl hl (by decide) rfl (fun ls hl => ?_)
  refine lv_iconst (v := 0) hx hb dX7_twice_2 (by decide) ?_
  refine xr_ti (x' := nI 0) rfl ?_
  refine lv_istore (lv' := [(4, .int (nI 0)), (3, .int (nI ((Rw d % 2 ^ (16 * 0) * 2 + y) / 2 ^ (16 * 0)))), (0, .ref b), (1, .int (nI d)), (2, .int (nI y))]) hx hb dX7_twice_3 hl (by decide) rfl (fun ls hl => ?_)
  exact loop 12 0 (by omega) s.heap [] hO (by rw [mix_0, va_same]; exact hf) hS ls (lv_sub hl [0, 1, 2, 3] rfl)
set_option maxHeartbeats 400000 in
set_option maxRecDepth 100000 in
theorem c_X7_compare (l : Launch) (g : WG) (H0 : Heap) (b : Nat) (th bu ob cn rn py ln : Int32) (hO : obj g H0 b 7 (moF b th bu ob cn rn py ln)) (Rw : Nat → Nat) (hM : RwsAt g H0 b Rw) (a c : Nat) (ha : a < 860) (hc9 : c < 860) : Ctr l (KK g) yX7_compare wsX7_compare { frames := 0, cells := 0, slots := 0, locals := 0 } [.ref b, .int (nI a), .int (nI c)] H0 eI (fun r H => r = cmpI (Rw a) (Rw c) ∧ H = H0) (fun _ => False) := by
  refine xr_enter (cc := cX7_compare) (maxL := 4) (ret := (some .int)) (by decide) rfl (Nat.le_of_ble_eq_true rfl) ?_
  intro pgm env s mid below meth cde hx hb hr hml hts hown hlocks hnm hH hK ls hl
  subst hH
  have hl : lv_has ls 4 [(0, .ref b), (1, .int (nI a)), (2, .int (nI c))] := hl
  have hS : va_S (fun _ => False) s.heap s.heap [] := va_S.rf
  obtain ⟨hf, hRb⟩ := id hM
  have loop : ∀ (k : Nat), k ≤ 12 → Rw a / 2 ^ (16 * k) = Rw c / 2 ^ (16 * k) → ∀ (locs : List Loc), va_S (fun _ => False) s.heap s.heap locs → ∀ ls : Array Slot, lv_has ls 4 [(3, .int (nI k - 1)), (0, .ref b), (1, .int (nI a)), (2, .int (nI c))] → W pgm l env { frames := 0, cells := 0, slots := 0, locals := 0 } s mid ([.ref b, .int (nI a), .int (nI c)] : List Value).toArray below meth cde s.heap locs 0 0 (MQ below (xr_Post eI (fun r H => r = cmpI (Rw a) (Rw c) ∧ H = s.heap) (fun _ => False)) ([.ref b, .int (nI a), .int (nI c)] : List Value).toArray s ({ frames := 0, cells := 0, slots := 0, locals := 0 } : Room).cells ({ frames := 0, cells := 0, slots := 0, locals := 0 } : Room).slots (fun _ => False)) (F0 mid 3 ls []) := by
    intro k
    induction k with
    | zero =>
      intro h1 he locs hS ls hl
      refine lv_iload_n hx hb dX7_compare_3 rfl (lv_at hl 0 rfl) ?_
      refine lv_if_lt (tgt := 69) hx hb dX7_compare_4 (by decide) (fun hc => ?_) (fun hc => ?_)
      · clear hc
        refine lv_iconst (v := 0) hx hb dX7_compare_69 (by decide) ?_
        exact xr_iret hx hb hr hlocks hS ⟨by rw [cmpI_0.mpr (by simpa using he)], rfl⟩ dX7_compare_70
      · exact absurd (by decide) hc
    | succ k ih =>
      intro h1 he locs hS ls hl
      have l1 := lb_lt (Rw a) k
      have l2 := lb_lt (Rw c) k
      rw [nI_pred] at hl
      rw [p16s] at he
      refine lv_iload_n hx hb dX7_compare_3 rfl (lv_at hl 0 rfl) ?_
      refine lv_if_lt (tgt := 69) hx hb dX7_compare_4 (by decide) (fun hc => ?_) (fun hc => ?_)
      · exact absurd hc (nI_pos (by omega))
      · clear hc
        refine lv_aload_n hx hb dX7_compare_7 rfl (lv_at hl 1 rfl) ?_
        refine va_get (D := g.1) (ci := 7) (v := .ref (b + 1)) (C := RX7) (T := TX7) (N := 18) hx hb hts (by decide +kernel) hown hK.1 (xr_one hO) 0 rfl rfl 1 (by decide) (hts (.fieldLink RX7 7 "SharesDeskModel" "m" "[I") (by decide +kernel)) (fun _ h9 => h9) rfl dX7_compare_8 ?_
        refine lv_bipush (v := 12) hx hb dX7_compare_11 (by decide) ?_
        refine xr_ti (x' := nI 12) rfl ?_
        refine lv_iload_n hx hb dX7_compare_13 rfl (lv_at hl 2 rfl) ?_
        refine lv_imul hx hb dX7_compare_14 ?_
        refine xr_ti (x' := nI (12 * a)) (pk_mul _ _) ?_
        refine lv_iload_n hx hb dX7_compare_15 rfl (lv_at hl 0 rfl) ?_
        refine lv_iadd hx hb dX7_compare_16 ?_
        refine xr_ti (x' := nI (12 * a + k)) (nI_add _ _) ?_
        refine xr_rd hx hb hK hf (show 12 * a + k < 10320 by omega) (by decide) dX7_compare_17 ?_
        refine xr_ti (x' := nI (lb (Rw a) k)) (rw_at (by omega)) ?_
        refine lv_aload_n hx hb dX7_compare_18 rfl (lv_at hl 1 rfl) ?_
        refine va_get (D := g.1) (ci := 7) (v := .ref (b + 1)) (C := RX7) (T := TX7) (N := 18) hx hb hts (by decide +kernel) hown hK.1 (xr_one hO) 0 rfl rfl 1 (by decide) (hts (.fieldLink RX7 7 "SharesDeskModel" "m" "[I") (by decide +kernel)) (fun _ h9 => h9) rfl dX7_compare_19 ?_
        refine lv_bipush (v := 12) hx hb dX7_compare_22 (by decide) ?_
        refine xr_ti (x' := nI 12) rfl ?_
        refine lv_iload_n hx hb dX7_compare_24 rfl (lv_at hl 3 rfl) ?_
        refine lv_imul hx hb dX7_compare_25 ?_
        refine xr_ti (x' := nI (12 * c)) (pk_mul _ _) ?_
        refine lv_iload_n hx hb dX7_compare_26 rfl (lv_at hl 0 rfl) ?_
        refine lv_iadd hx hb dX7_compare_27 ?_
        refine xr_ti (x' := nI (12 * c + k)) (nI_add _ _) ?_
        refine xr_rd hx hb hK hf (show 12 * c + k < 10320 by omega) (by decide) dX7_compare_28 ?_
        refine xr_ti (x' := nI (lb (Rw c) k)) (rw_at (by omega)) ?_
        refine lv_icmp_eq (tgt := 63) hx hb dX7_compare_29 (by decide) (fun h2 => ?_) (fun h2 => ?_)
        · have e : lb (Rw a) k = lb (Rw c) k := (nI_inj (by omega) (by omega)).mp h2
          refine lv_iinc (v := nI k - 1) (lv' := [(3, .int (nI k - 1)), (0, .ref b), (1, .int (nI a)), (2, .int (nI c))]) hx hb dX7_compare_63 hl (k := 0) rfl (by rw [Int32.sub_eq_add_neg]; rfl) (by decide) rfl (fun ls hl => ?_)
          refine lv_goto (tgt := 3) hx hb dX7_compare_66 (by decide) ?_
          exact ih (by omega) (cmpI_up (by decide) he e) locs hS ls (lv_sub hl [0, 1, 2, 3] rfl)
        · have e : ¬ lb (Rw a) k = lb (Rw c) k := fun q => h2 (by rw [q])
          refine lv_aload_n hx hb dX7_compare_32 rfl (lv_at hl 1 rfl) ?_
          refine va_get (D := g.1) (ci := 7) (v := .ref (b + 1)) (C := RX7) (T := TX7) (N := 18) hx hb hts (by decide +kernel) hown hK.1 (xr_one hO) 0 rfl rfl 1 (by decide) (hts (.fieldLink RX7 7 "SharesDeskModel" "m" "[I") (by decide +kernel)) (fun _ h9 => h9) rfl dX7_compare_33 ?_
          refine lv_bipush (v := 12) hx hb dX7_compare_36 (by decide) ?_
          refine xr_ti (x' := nI 12) rfl ?_
          refine lv_iload_n hx hb dX7_compare_38 rfl (lv_at hl 2 rfl) ?_
          refine lv_imul hx hb dX7_compare_39 ?_
          refine xr_ti (x' := nI (12 * a)) (pk_mul _ _) ?_
          refine lv_iload_n hx hb dX7_compare_40 rfl (lv_at hl 0 rfl) ?_
          refine lv_iadd hx hb dX7_compare_41 ?_
          refine xr_ti (x' := nI (12 * a + k)) (nI_add _ _) ?_
          refine xr_rd hx hb hK hf (show 12 * a + k < 10320 by omega) (by decide) dX7_compare_42 ?_
          refine xr_ti (x' := nI (lb (Rw a) k)) (rw_at (by omega)) ?_
          refine lv_aload_n hx hb dX7_compare_43 rfl (lv_at hl 1 rfl) ?_
          refine va_get (D := g.1) (ci := 7) (v := .ref (b + 1)) (C := RX7) (T := TX7) (N := 18) hx hb hts (by decide +kernel) hown hK.1 (xr_one hO) 0 rfl rfl 1 (by decide) (hts (.fieldLink RX7 7 "SharesDeskModel" "m" "[I") (by decide +kernel)) (fun _ h9 => h9) rfl dX7_compare_44 ?_
          refine lv_bipush (v := 12) hx hb dX7_compare_47 (by decide) ?_
          refine xr_ti (x' := nI 12) rfl ?_
          refine lv_iload_n hx hb dX7_compare_49 rfl (lv_at hl 3 rfl) ?_
          refine lv_imul hx hb dX7_compare_50 ?_
          refine xr_ti (x' := nI (12 * c)) (pk_mul _ _) ?_
          refine lv_iload_n hx hb dX7_compare_51 rfl (lv_at hl 0 rfl) ?_
          refine lv_iadd hx hb dX7_compare_52 ?_
          refine xr_ti (x' := nI (12 * c + k)) (nI_add _ _) ?_
          refine xr_rd hx hb hK hf (show 12 * c + k < 10320 by omega) (by decide) dX7_compare_53 ?_
          refine xr_ti (x' := nI (lb (Rw c) k)) (rw_at (by omega)) ?_
          refine lv_icmp_ge (tgt := 61) hx hb dX7_compare_54 (by decide) (fun h3 => ?_) (fun h3 => ?_)
          · have e2 : lb (Rw c) k < lb (Rw a) k := by have := (nI_leI (by omega) (by omega)).mp h3; omega
            refine lv_iconst (v := 1) hx hb dX7_compare_61 (by decide) ?_
            exact xr_iret hx hb hr hlocks hS ⟨by have h9 := cmpI_lt (Nat.two_pow_pos _) (by decide) he.symm e2; unfold cmpI; rw [if_neg (by omega), if_neg (by omega)], rfl⟩ dX7_compare_62
          · have e2 : lb (Rw a) k < lb (Rw c) k := Nat.lt_of_not_le fun q => h3 (nI_le q (by omega))
            refine lv_iconst (v := (-1)) hx hb dX7_compare_57 (by decide) ?_
            refine lv_goto (tgt := 62) hx hb dX7_compare_58 (by decide) ?_
            exact xr_iret hx hb hr hlocks hS ⟨by have h9 := cmpI_lt (Nat.two_pow_pos _) (by decide) he e2; unfold cmpI; rw [if_pos h9], rfl⟩ dX7_compare_62
  refine lv_bipush (v := 11) hx hb dX7_compare_0 (by decide) ?_
  refine xr_ti (x' := nI 12 - 1) (by decide) ?_
  refine lv_istore_n (lv' := [(3, .int (nI 12 - 1)), (0, .ref b), (1, .int (nI a)), (2, .int (nI c))]) hx hb dX7_compare_2 rfl hl (by decide) rfl (fun ls hl => ?_)
  exact loop 12 (Nat.le_refl _) (by rw [Nat.div_eq_of_lt (hRb a ha), Nat.div_eq_of_lt (hRb c hc9)]) [] hS ls (lv_sub hl [0, 1, 2, 3] rfl)
set_option maxHeartbeats 400000 in
set_option maxRecDepth 100000 in
theorem c_X7_isNone (l : Launch) (g : WG) (H0 : Heap) (b : Nat) (th bu ob cn rn py ln : Int32) (hO : obj g H0 b 7 (moF b th bu ob cn rn py ln)) (Rw : Nat → Nat) (hM : RwsAt g H0 b Rw) (a : Nat) (ha : a < 860) : Ctr l (KK g) yX7_isNone wsX7_isNone { frames := 0, cells := 0, slots := 0, locals := 0 } [.ref b, .int (nI a)] H0 eI (fun r H => r = b2i (decide (Rw a = 0)) ∧ H = H0) (fun _ => False) := by
  refine xr_enter (cc := cX7_isNone) (maxL := 3) (ret := (some .boolean)) (by decide) rfl (Nat.le_of_ble_eq_true rfl) ?_
  intro pgm env s mid below meth cde hx hb hr hml hts hown hlocks hnm hH hK ls hl
  subst hH
  have hl : lv_has ls 3 [(0, .ref b), (1, .int (nI a))] := hl
  have hS : va_S (fun _ => False) s.heap s.heap [] := va_S.rf
  obtain ⟨hf, hRb⟩ := id hM
  have loop : ∀ (n k : Nat), k + n = 12 → Rw a % 2 ^ (16 * k) = 0 → ∀ (locs : List Loc), va_S (fun _ => False) s.heap s.heap locs → ∀ ls : Array Slot, lv_has ls 3 [(2, .int (nI k)), (0, .ref b), (1, .int (nI a))] → W pgm l env { frames := 0, cells := 0, slots := 0, locals := 0 } s mid ([.ref b, .int (nI a)] : List Value).toArray below meth cde s.heap locs 0 0 (MQ below (xr_Post eI (fun r H => r = b2i (decide (Rw a = 0)) ∧ H = s.heap) (fun _ => False)) ([.ref b, .int (nI a)] : List Value).toArray s ({ frames := 0, cells := 0, slots := 0, locals := 0 } : Room).cells ({ frames := 0, cells := 0, slots := 0, locals := 0 } : Room).slots (fun _ => False)) (F0 mid 2 ls []) := by
    intro n
    induction n with
    | zero =>
      intro k h1 he locs hS ls hl
      have e : k = 12 := by omega
      subst e
      have e0 : Rw a = 0 := by rw [Nat.mod_eq_of_lt (hRb a ha)] at he; exact he
      refine lv_iload_n hx hb dX7_isNone_2 rfl (lv_at hl 0 rfl) ?_
      refine lv_bipush (v := 12) hx hb dX7_isNone_3 (by decide) ?_
      refine lv_icmp_ge (tgt := 30) hx hb dX7_isNone_5 (by decide) (fun hc => ?_) (fun hc => ?_)
      · clear hc
        refine lv_iconst (v := 1) hx hb dX7_isNone_30 (by decide) ?_
        exact xr_zret hx hb hr rfl hlocks hS ⟨by rw [decide_eq_true e0]; rfl, rfl⟩ dX7_isNone_31
      · exact absurd (by decide) hc
    | succ n ih =>
      intro k h1 he locs hS ls hl
      have l1 := lb_lt (Rw a) k
      refine lv_iload_n hx hb dX7_isNone_2 rfl (lv_at hl 0 rfl) ?_
      refine lv_bipush (v := 12) hx hb dX7_isNone_3 (by decide) ?_
      refine lv_icmp_ge (tgt := 30) hx hb dX7_isNone_5 (by decide) (fun hc => ?_) (fun hc => ?_)
      · exact absurd ((nI_leI (a := 12) (b := k) (by decide) (by omega)).mp hc) (by omega)
      · clear hc
        refine lv_aload_n hx hb dX7_isNone_8 rfl (lv_at hl 1 rfl) ?_
        refine va_get (D := g.1) (ci := 7) (v := .ref (b + 1)) (C := RX7) (T := TX7) (N := 18) hx hb hts (by decide +kernel) hown hK.1 (xr_one hO) 0 rfl rfl 1 (by decide) (hts (.fieldLink RX7 7 "SharesDeskModel" "m" "[I") (by decide +kernel)) (fun _ h9 => h9) rfl dX7_isNone_9 ?_
        refine lv_bipush (v := 12) hx hb dX7_isNone_12 (by decide) ?_
        refine xr_ti (x' := nI 12) rfl ?_
        refine lv_iload_n hx hb dX7_isNone_14 rfl (lv_at hl 2 rfl) ?_
        refine lv_imul hx hb dX7_isNone_15 ?_
        refine xr_ti (x' := nI (12 * a)) (pk_mul _ _) ?_
        refine lv_iload_n hx hb dX7_isNone_16 rfl (lv_at hl 0 rfl) ?_
        refine lv_iadd hx hb dX7_isNone_17 ?_
        refine xr_ti (x' := nI (12 * a + k)) (nI_add _ _) ?_
        refine xr_rd hx hb hK hf (show 12 * a + k < 10320 by omega) (by decide) dX7_isNone_18 ?_
        refine xr_ti (x' := nI (lb (Rw a) k)) (rw_at (by omega)) ?_
        refine lv_if_eq (tgt := 24) hx hb dX7_isNone_19 (by decide) (fun h2 => ?_) (fun h2 => ?_)
        · have e : lb (Rw a) k = 0 := (nI_inj (b := 0) (by omega) (by decide)).mp h2
          refine lv_iinc (v := nI (k + 1)) (lv' := [(2, .int (nI (k + 1))), (0, .ref b), (1, .int (nI a))]) hx hb dX7_isNone_24 hl (k := 0) rfl (nI_1 k) (by decide) rfl (fun ls hl => ?_)
          refine lv_goto (tgt := 2) hx hb dX7_isNone_27 (by decide) ?_
          exact ih (k + 1) (by omega) (lb_mz he e) locs hS ls (lv_sub hl [0, 1, 2] rfl)
        · have e : ¬ Rw a = 0 := fun q => h2 (by rw [q, lb_0]; rfl)
          refine lv_iconst (v := 0) hx hb dX7_isNone_22 (by decide) ?_
          exact xr_zret hx hb hr rfl hlocks hS ⟨by rw [decide_eq_false e]; rfl, rfl⟩ dX7_isNone_23
  refine lv_iconst (v := 0) hx hb dX7_isNone_0 (by decide) ?_
  refine xr_ti (x' := nI 0) rfl ?_
  refine lv_istore_n (lv' := [(2, .int (nI 0)), (0, .ref b), (1, .int (nI a))]) hx hb dX7_isNone_1 rfl hl (by decide) rfl (fun ls hl => ?_)
  exact loop 12 0 (by omega) (Nat.mod_one _) [] hS ls (lv_sub hl [0, 1, 2] rfl)
set_option maxHeartbeats 400000 in
set_option maxRecDepth 100000 in
theorem c_X7_tenth (l : Launch) (g : WG) (H0 : Heap) (b : Nat) (th bu ob cn rn py ln : Int32) (hO : obj g H0 b 7 (moF b th bu ob cn rn py ln)) (Rw : Nat → Nat) (hM : RwsAt g H0 b Rw) (d : Nat) (hd : d < 860) : Ctr l (KK g) yX7_tenth wsX7_tenth { frames := 0, cells := 0, slots := 0, locals := 0 } [.ref b, .int (nI d)] H0 eI (fun r H => r = nI (Rw d % 10) ∧ RwsAt g H b (va_up Rw d (Rw d / 10))) (fun q => q = b + 1) := by
  refine xr_enter (cc := cX7_tenth) (maxL := 5) (ret := (some .int)) (by decide) rfl (Nat.le_of_ble_eq_true rfl) ?_
  intro pgm env s mid below meth cde hx hb hr hml hts hown hlocks hnm hH hK ls hl
  subst hH
  have hl : lv_has ls 5 [(0, .ref b), (1, .int (nI d))] := hl
  have hS : va_S (fun q => q = b + 1) s.heap s.heap [] := va_S.rf
  obtain ⟨hf, hRb⟩ := id hM
  have hda : Rw d / 10 < 2 ^ 192 := Nat.lt_of_le_of_lt (Nat.div_le_self _ _) (hRb d hd)
  have loop : ∀ (k : Nat), k ≤ 12 → ∀ (H : Heap) (locs : List Loc), obj g H b 7 (moF b th bu ob cn rn py ln) → xr_ia H (b + 1) (gI g) 10320 (rwA (va_up Rw d (mixR k (Rw d) (Rw d / 10)))) → va_S (fun q => q = b + 1) s.heap H locs → ∀ ls : Array Slot, lv_has ls 5 [(3, .int (nI k - 1)), (2, .int (nI (Rw d / 2 ^ (16 * k) % 10))), (0, .ref b), (1, .int (nI d))] → W pgm l env { frames := 0, cells := 0, slots := 0, locals := 0 } s mid ([.ref b, .int (nI d)] : List Value).toArray below meth cde H locs 0 0 (MQ below (xr_Post eI (fun r H => r = nI (Rw d % 10) ∧ RwsAt g H b (va_up Rw d (Rw d / 10))) (fun q => q = b + 1)) ([.ref b, .int (nI d)] : List Value).toArray s ({ frames := 0, cells := 0, slots := 0, locals := 0 } : Room).cells ({ frames := 0, cells := 0, slots := 0, locals := 0 } : Room).slots (fun q => q = b + 1)) (F0 mid 5 ls []) := by
    intro k
    induction k with
    | zero =>
      intro h1 H locs hO hf hS ls hl
      refine lv_iload_n hx hb dX7_tenth_5 rfl (lv_at hl 0 rfl) ?_
      refine lv_if_lt (tgt := 55) hx hb dX7_tenth_6 (by decide) (fun hc => ?_) (fun hc => ?_)
      · clear hc
        refine lv_iload_n hx hb dX7_tenth_55 rfl (lv_at hl 1 rfl) ?_
        rw [mix_0] at hf
        exact xr_iret hx hb hr hlocks hS ⟨by rw [Nat.mul_zero, Nat.pow_zero, Nat.div_one], hf, rw_all hRb hda⟩ dX7_tenth_56
      · exact absurd (by decide) hc
    | succ k ih =>
      intro h1 H locs hO hf hS ls hl
      rw [nI_pred] at hl
      have l1 := lb_lt (Rw d) k
      have l2 : Rw d / 2 ^ (16 * (k + 1)) % 10 < 10 := Nat.mod_lt _ (by decide)
      obtain ⟨d1, d2, d3⟩ := dv_step (x := Rw d) (d := 10) (P := 2 ^ (16 * k)) (B := 65536) (Nat.two_pow_pos _) (by decide) (by decide)
      rw [← p16s] at d1 d2 d3
      refine lv_iload_n hx hb dX7_tenth_5 rfl (lv_at hl 0 rfl) ?_
      refine lv_if_lt (tgt := 55) hx hb dX7_tenth_6 (by decide) (fun hc => ?_) (fun hc => ?_)
      · exact absurd hc (nI_pos (by omega))
      · clear hc
        refine lv_iload_n hx hb dX7_tenth_9 rfl (lv_at hl 1 rfl) ?_
        refine lv_ldc (v := (65536)) hx hb hown (hts (.constant RX7 57 (65536)) (by decide +kernel)) dX7_tenth_10 ?_
        refine xr_ti (x' := nI 65536) rfl ?_
        refine lv_imul hx hb dX7_tenth_12 ?_
        refine xr_ti (x' := nI (Rw d / 2 ^ (16 * (k + 1)) % 10 * 65536)) (pk_mul _ _) ?_
        refine lv_aload_n hx hb dX7_tenth_13 rfl (lv_at hl 2 rfl) ?_
        refine va_get (D := g.1) (ci := 7) (v := .ref (b + 1)) (C := RX7) (T := TX7) (N := 18) hx hb hts (by decide +kernel) hown hK.1 (xr_one hO) 0 rfl rfl 1 (by decide) (hts (.fieldLink RX7 7 "SharesDeskModel" "m" "[I") (by decide +kernel)) (fun _ h9 => h9) rfl dX7_tenth_14 ?_
        refine lv_bipush (v := 12) hx hb dX7_tenth_17 (by decide) ?_
        refine xr_ti (x' := nI 12) rfl ?_
        refine lv_iload_n hx hb dX7_tenth_19 rfl (lv_at hl 3 rfl) ?_
        refine lv_imul hx hb dX7_tenth_20 ?_
        refine xr_ti (x' := nI (12 * d)) (pk_mul _ _) ?_
        refine lv_iload_n hx hb dX7_tenth_21 rfl (lv_at hl 0 rfl) ?_
        refine lv_iadd hx hb dX7_tenth_22 ?_
        refine xr_ti (x' := nI (12 * d + k)) (nI_add _ _) ?_
        refine xr_rd hx hb hK hf (show 12 * d + k < 10320 by omega) (by decide) dX7_tenth_23 ?_
        refine xr_ti (x' := nI (lb (Rw d) k)) (rw_rdn (by omega) (Nat.lt_succ_self k)) ?_
        refine lv_iadd hx hb dX7_tenth_24 ?_
        refine xr_ti (x' := nI (Rw d / 2 ^ (16 * (k + 1)) % 10 * 65536 + lb (Rw d) k)) (nI_add _ _) ?_
        refine lv_istore (lv' := [(4, .int (nI (Rw d / 2 ^ (16 * (k + 1)) % 10 * 65536 + lb (Rw d) k))), (3, .int (nI k)), (2, .int (nI (Rw d / 2 ^ (16 * (k + 1)) % 10))), (0, .ref b), (1, .int (nI d))]) hx hb dX7_tenth_25 hl (by decide) rfl (fun ls hl => ?_)
        refine lv_aload_n hx hb dX7_tenth_27 rfl (lv_at hl 3 rfl) ?_
        refine va_get (D := g.1) (ci := 7) (v := .ref (b + 1)) (C := RX7) (T := TX7) (N := 18) hx hb hts (by decide +kernel) hown hK.1 (xr_one hO) 0 rfl rfl 1 (by decide) (hts (.fieldLink RX7 7 "SharesDeskModel" "m" "[I") (by decide +kernel)) (fun _ h9 => h9) rfl dX7_tenth_28 ?_
        refine lv_bipush (v := 12) hx hb dX7_tenth_31 (by decide) ?_
        refine xr_ti (x' := nI 12) rfl ?_
        refine lv_iload_n hx hb dX7_tenth_33 rfl (lv_at hl 4 rfl) ?_
        refine lv_imul hx hb dX7_tenth_34 ?_
        refine xr_ti (x' := nI (12 * d)) (pk_mul _ _) ?_
        refine lv_iload_n hx hb dX7_tenth_35 rfl (lv_at hl 1 rfl) ?_
        refine lv_iadd hx hb dX7_tenth_36 ?_
        refine xr_ti (x' := nI (12 * d + k)) (nI_add _ _) ?_
        refine lv_iload hx hb dX7_tenth_37 (lv_at hl 0 rfl) ?_
        refine lv_bipush (v := 10) hx hb dX7_tenth_39 (by decide) ?_
        refine xr_ti (x' := nI 10) rfl ?_
        refine lv_idiv hx hb dX7_tenth_41 (by decide) ?_
        refine xr_ti (x' := nI ((Rw d / 2 ^ (16 * (k + 1)) % 10 * 65536 + lb (Rw d) k) / 10)) (pk_div (by omega) (by decide) (by decide)) ?_
        refine xr_wr hx hb hK hS (show b + 1 = b + 1 from rfl) hf (show 12 * d + k < 10320 by omega) (by decide) dX7_tenth_42 (fun H locs hz hkp hf hS => ?_)
        have hO := hO.kept (hkp b (by omega))
        rw [rw_putd (by omega) (show (Rw d / 2 ^ (16 * (k + 1)) % 10 * 65536 + lb (Rw d) k) / 10 = lb (Rw d / 10) k from d1.symm)] at hf
        refine lv_iload hx hb dX7_tenth_43 (lv_at hl 0 rfl) ?_
        refine lv_bipush (v := 10) hx hb dX7_tenth_45 (by decide) ?_
        refine xr_ti (x' := nI 10) rfl ?_
        refine lv_irem hx hb dX7_tenth_47 (by decide) ?_
        refine xr_ti (x' := nI ((Rw d / 2 ^ (16 * (k + 1)) % 10 * 65536 + lb (Rw d) k) % 10)) (pk_rem (by omega) (by decide) (by decide)) ?_
        refine xr_ti (x' := nI (Rw d / 2 ^ (16 * k) % 10)) (congrArg nI d2.symm) ?_
        refine lv_istore_n (lv' := [(2, .int (nI (Rw d / 2 ^ (16 * k) % 10))), (4, .int (nI (Rw d / 2 ^ (16 * (k + 1)) % 10 * 65536 + lb (Rw d) k))), (3, .int (nI k)), (0, .ref b), (1, .int (nI d))]) hx hb dX7_tenth_48 rfl hl (by decide) rfl (fun ls hl => ?_)
        refine lv_iinc (v := nI k - 1) (lv' := [(3, .int (nI k - 1)), (2, .int (nI (Rw d / 2 ^ (16 * k) % 10))), (4, .int (nI (Rw d / 2 ^ (16 * (k + 1)) % 10 * 65536 + lb (Rw d) k))), (0, .ref b), (1, .int (nI d))]) hx hb dX7_tenth_49 hl (k := 2) rfl (by rw [Int32.sub_eq_add_neg]; rfl) (by decide) rfl (fun ls hl => ?_)
        refine lv_goto (tgt := 5) hx hb dX7_tenth_52 (by decide) ?_
        exact ih (by omega) H locs hO hf hS ls (lv_sub hl [0, 1, 3, 4] rfl)
  refine lv_iconst (v := 0) hx hb dX7_tenth_0 (by decide) ?_
  refine xr_ti (x' := nI (Rw d / 2 ^ (16 * 12) % 10)) (by rw [Nat.div_eq_of_lt (hRb d hd)]; rfl) ?_
  refine lv_istore_n (lv' := [(2, .int (nI (Rw d / 2 ^ (16 * 12) % 10))), (0, .ref b), (1, .int (nI d))]) hx hb dX7_tenth_1 rfl hl (by decide) rfl (fun ls hl => ?_)
  refine lv_bipush (v := 11) hx hb dX7_tenth_2 (by decide) ?_
  refine xr_ti (x' := nI 12 - 1) (by decide) ?_
  refine lv_istore_n (lv' := [(3, .int (nI 12 - 1)), (2, .int (nI (Rw d / 2 ^ (16 * 12) % 10))), (0, .ref b), (1, .int (nI d))]) hx hb dX7_tenth_4 rfl hl (by decide) rfl (fun ls hl => ?_)
  exact loop 12 (Nat.le_refl _) s.heap [] hO (by rw [mix_12 (hRb d hd) hda, va_same]; exact hf) hS ls (lv_sub hl [0, 1, 2, 3] rfl)
set_option maxHeartbeats 400000 in
set_option maxRecDepth 100000 in
theorem c_X7_bitOf (l : Launch) (g : WG) (H0 : Heap) (b : Nat) (th bu ob cn rn py ln : Int32) (hO : obj g H0 b 7 (moF b th bu ob cn rn py ln)) (Rw : Nat → Nat) (hM : RwsAt g H0 b Rw) (a i : Nat) (ha : a < 860) (hi : i < 192) : Ctr l (KK g) yX7_bitOf wsX7_bitOf { frames := 0, cells := 0, slots := 0, locals := 0 } [.ref b, .int (nI a), .int (nI i)] H0 eI (fun r H => r = nI (Rw a / 2 ^ i % 2) ∧ H = H0) (fun _ => False) := by
  refine xr_enter (cc := cX7_bitOf) (maxL := 3) (ret := (some .int)) (by decide) rfl (Nat.le_of_ble_eq_true rfl) ?_
  intro pgm env s mid below meth cde hx hb hr hml hts hown hlocks hnm hH hK ls hl
  subst hH
  have hl : lv_has ls 3 [(0, .ref b), (1, .int (nI a)), (2, .int (nI i))] := hl
  have hS : va_S (fun _ => False) s.heap s.heap [] := va_S.rf
  obtain ⟨hf, hRb⟩ := id hM
  have l1 := lb_lt (Rw a) (i / 16)
  refine lv_aload_n hx hb dX7_bitOf_0 rfl (lv_at hl 0 rfl) ?_
  refine va_get (D := g.1) (ci := 7) (v := .ref (b + 1)) (C := RX7) (T := TX7) (N := 18) hx hb hts (by decide +kernel) hown hK.1 (xr_one hO) 0 rfl rfl 1 (by decide) (hts (.fieldLink RX7 7 "SharesDeskModel" "m" "[I") (by decide +kernel)) (fun _ h9 => h9) rfl dX7_bitOf_1 ?_
  refine lv_bipush (v := 12) hx hb dX7_bitOf_4 (by decide) ?_
  refine xr_ti (x' := nI 12) rfl ?_
  refine lv_iload_n hx hb dX7_bitOf_6 rfl (lv_at hl 1 rfl) ?_
  refine lv_imul hx hb dX7_bitOf_7 ?_
  refine xr_ti (x' := nI (12 * a)) (pk_mul _ _) ?_
  refine lv_iload_n hx hb dX7_bitOf_8 rfl (lv_at hl 2 rfl) ?_
  refine lv_bipush (v := 16) hx hb dX7_bitOf_9 (by decide) ?_
  refine xr_ti (x' := nI 16) rfl ?_
  refine lv_idiv hx hb dX7_bitOf_11 (by decide) ?_
  refine xr_ti (x' := nI (i / 16)) (pk_div (by omega) (by decide) (by decide)) ?_
  refine lv_iadd hx hb dX7_bitOf_12 ?_
  refine xr_ti (x' := nI (12 * a + i / 16)) (nI_add _ _) ?_
  refine xr_rd hx hb hK hf (show 12 * a + i / 16 < 10320 by omega) (by decide) dX7_bitOf_13 ?_
  refine xr_ti (x' := nI (lb (Rw a) (i / 16))) (rw_at (by omega)) ?_
  refine lv_iload_n hx hb dX7_bitOf_14 rfl (lv_at hl 2 rfl) ?_
  refine lv_bipush (v := 16) hx hb dX7_bitOf_15 (by decide) ?_
  refine xr_ti (x' := nI 16) rfl ?_
  refine lv_irem hx hb dX7_bitOf_17 (by decide) ?_
  refine xr_ti (x' := nI (i % 16)) (pk_rem (by omega) (by decide) (by decide)) ?_
  refine lv_ishr hx hb dX7_bitOf_18 ?_
  refine xr_ti (x' := nI (lb (Rw a) (i / 16) / 2 ^ (i % 16))) (pk_shrN (by omega) _ (i % 16) (sh32 _ (by omega))) ?_
  refine lv_iconst (v := 1) hx hb dX7_bitOf_19 (by decide) ?_
  refine lv_iand hx hb dX7_bitOf_20 ?_
  refine xr_ti (x' := nI (lb (Rw a) (i / 16) / 2 ^ (i % 16) % 2)) (pk_andN (Nat.lt_of_le_of_lt (Nat.div_le_self _ _) (by omega)) 1 rfl) ?_
  exact xr_iret hx hb hr hlocks hS ⟨by rw [bit_lb], rfl⟩ dX7_bitOf_21
set_option maxHeartbeats 400000 in
set_option maxRecDepth 100000 in
theorem c_X7_bits (l : Launch) (g : WG) (H0 : Heap) (b : Nat) (th bu ob cn rn py ln : Int32) (hO : obj g H0 b 7 (moF b th bu ob cn rn py ln)) (Rw : Nat → Nat) (hM : RwsAt g H0 b Rw) (a : Nat) (ha : a < 860) : Ctr l (KK g) yX7_bits wsX7_bits { frames := 1, cells := 0, slots := 0, locals := 22 } [.ref b, .int (nI a)] H0 eI (fun r H => r = nI (blen 192 (Rw a)) ∧ H = H0) (fun _ => False) := by
  refine xr_enter (cc := cX7_bits) (maxL := 3) (ret := (some .int)) (by decide) rfl (Nat.le_of_ble_eq_true rfl) ?_
  intro pgm env s mid below meth cde hx hb hr hml hts hown hlocks hnm hH hK ls hl
  subst hH
  have hl : lv_has ls 3 [(0, .ref b), (1, .int (nI a))] := hl
  have hS : va_S (fun _ => False) s.heap s.heap [] := va_S.rf
  obtain ⟨hf, hRb⟩ := id hM
  have loop : ∀ (k : Nat), k ≤ 192 → blen 192 (Rw a) = blen k (Rw a) → ∀ (locs : List Loc), va_S (fun _ => False) s.heap s.heap locs → ∀ ls : Array Slot, lv_has ls 3 [(2, .int (nI k)), (0, .ref b), (1, .int (nI a))] → W pgm l env { frames := 1, cells := 0, slots := 0, locals := 22 } s mid ([.ref b, .int (nI a)] : List Value).toArray below meth cde s.heap locs 0 0 (MQ below (xr_Post eI (fun r H => r = nI (blen 192 (Rw a)) ∧ H = s.heap) (fun _ => False)) ([.ref b, .int (nI a)] : List Value).toArray s ({ frames := 1, cells := 0, slots := 0, locals := 22 } : Room).cells ({ frames := 1, cells := 0, slots := 0, locals := 22 } : Room).slots (fun _ => False)) (F0 mid 4 ls []) := by
    intro k
    induction k with
    | zero =>
      intro h1 he locs hS ls hl
      refine lv_iload_n hx hb dX7_bits_4 rfl (lv_at hl 0 rfl) ?_
      refine lv_if_le (tgt := 25) hx hb dX7_bits_5 (by decide) (fun hc => ?_) (fun hc => ?_)
      · clear hc
        refine lv_iload_n hx hb dX7_bits_25 rfl (lv_at hl 0 rfl) ?_
        exact xr_iret hx hb hr hlocks hS ⟨by rw [he]; rfl, rfl⟩ dX7_bits_26
      · exact absurd (by decide) hc
    | succ k ih =>
      intro h1 he locs hS ls hl
      refine lv_iload_n hx hb dX7_bits_4 rfl (lv_at hl 0 rfl) ?_
      refine lv_if_le (tgt := 25) hx hb dX7_bits_5 (by decide) (fun hc => ?_) (fun hc => ?_)
      · exact absurd hc (nI_nle (by omega) (by omega))
      · clear hc
        refine lv_aload_n hx hb dX7_bits_8 rfl (lv_at hl 1 rfl) ?_
        refine lv_iload_n hx hb dX7_bits_9 rfl (lv_at hl 2 rfl) ?_
        refine lv_iload_n hx hb dX7_bits_10 rfl (lv_at hl 0 rfl) ?_
        refine lv_iconst (v := 1) hx hb dX7_bits_11 (by decide) ?_
        refine lv_isub hx hb dX7_bits_12 ?_
        refine xr_ti (x' := nI k) (nI_pred k) ?_
        refine xr_Vi (rest := []) ⟨hx, hb, hml, hown, hts⟩ (KK_ok g) hK (c_X7_bitOf l g s.heap b th bu ob cn rn py ln hO Rw hM a k ha (by omega)) (cwV 2 hts gX7_bits_X7_bitOf rfl rfl rfl (by decide +kernel) ⟨Nat.le_of_ble_eq_true rfl, Nat.le_of_ble_eq_true rfl⟩) (xr_rec hK hO rfl) rfl hl.1 rfl (Nat.le_of_ble_eq_true rfl) dX7_bits_13 ⟨Nat.le_of_ble_eq_true rfl, Nat.le_of_ble_eq_true rfl⟩ hS (fun q h => h.elim) (fun r H locs hq hz hkp hS9 => ?_)
        obtain ⟨rfl, rfl⟩ := hq
        have hS := hS9
        refine lv_if_ne (tgt := 25) hx hb dX7_bits_16 (by decide) (fun h2 => ?_) (fun h2 => ?_)
        · have e : ¬ Rw a / 2 ^ k % 2 = 0 := fun q => h2 (by rw [q]; rfl)
          refine lv_iload_n hx hb dX7_bits_25 rfl (lv_at hl 0 rfl) ?_
          exact xr_iret hx hb hr hlocks hS ⟨by rw [he, blen, if_neg e], rfl⟩ dX7_bits_26
        · have e : Rw a / 2 ^ k % 2 = 0 := (nI_inj (b := 0) (Nat.lt_trans (Nat.mod_lt _ (by decide : 0 < 2)) (by decide)) (by decide)).mp h2
          refine lv_iinc (v := nI k) (lv' := [(2, .int (nI k)), (0, .ref b), (1, .int (nI a))]) hx hb dX7_bits_19 hl (k := 0) rfl (pk_m1 k) (by decide) rfl (fun ls hl => ?_)
          refine lv_goto (tgt := 4) hx hb dX7_bits_22 (by decide) ?_
          exact ih (by omega) (by rw [he, blen, if_pos e]) locs hS ls (lv_sub hl [0, 1, 2] rfl)
  refine lv_sipush (v := 192) hx hb dX7_bits_0 (by decide) ?_
  refine xr_ti (x' := nI 192) rfl ?_
  refine lv_istore_n (lv' := [(2, .int (nI 192)), (0, .ref b), (1, .int (nI a))]) hx hb dX7_bits_3 rfl hl (by decide) rfl (fun ls hl => ?_)
  exact loop 192 (Nat.le_refl _) rfl [] hS ls (lv_sub hl [0, 1, 2] rfl)
