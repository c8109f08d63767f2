set_option maxHeartbeats 400000 in
set_option maxRecDepth 100000 in
/-- times: the product -/
theorem c_X0_times (l : Launch) (g : WG) (H0 : Heap) (a x k : Nat) (hN : NatAt g H0 a x) (hk : k < 2 ^ 31) (hxk : x * k < 2 ^ 128) : Ctr l (KK g) yX0_times wsX0_times rmZ [.ref a, .int (nI k)] H0 eV (fun _ H => NatAt g H a (x * k)) (fun q => q = a + 1) := by
  refine xr_enter (cc := cX0_times) (maxL := 7) (ret := none) (by decide) rfl (Nat.le_of_ble_eq_true rfl) ?_
  intro p e s m below meth c hx hb hr hml hts hown hlocks hnm hH hK ls hl
  subst hH
  have hl : lv_has ls 7 [(0, .ref a), (1, .int (nI k))] := hl
  have hS : va_S (fun q => q = a + 1) s.heap s.heap [] := va_S.rf
  obtain ⟨hO, hf, hx128⟩ := id hN
  have loop : ∀ (n i : Nat), i ≤ 4 → 4 < i + n → ∀ (H : Heap) (locs : List Loc) (f : Nat → Int32), obj g H a 0 [.ref (a + 1)] → xr_ia H (a + 1) (gI g) 4 f → (∀ j, j < 4 → f j = if j < i then wd (x * k) j else wd x j) → va_S (fun q => q = a + 1) s.heap H locs → ∀ ls : Array Slot, lv_has ls 7 [(4, .int (nI i)), (2, .long (lN (x % 2 ^ (32 * i) * k / 2 ^ (32 * i)))), (0, .ref a), (1, .int (nI k))] → W p l e rmZ s m ([.ref a, .int (nI k)] : List Value).toArray below meth c H locs 0 0 (MQ below (xr_Post eV (fun _ H => NatAt g H a (x * k)) (fun q => q = a + 1)) ([.ref a, .int (nI k)] : List Value).toArray s (rmZ : Room).cells (rmZ : Room).slots (fun q => q = a + 1)) (F0 m 5 ls []) := by
    intro n
    induction n with
    | zero => intro i h1 h2; exact absurd h2 (by omega)
    | succ n ih =>
      intro i h1 h2 H locs f hO hf hfe hS ls hl
      refine lv_iload hx hb dX0_times_5 (lv_at hl 0 rfl) ?_
      refine lv_iconst (v := 4) hx hb dX0_times_7 (by decide) ?_
      refine lv_icmp_ge (tgt := 52) hx hb dX0_times_8 (by decide) (fun hc => ?_) (fun hc => ?_)
      · have e4 : 4 ≤ i := (nI_leI (by decide) (by omega)).mp hc
        have e4 : i = 4 := by omega
        subst e4
        exact xr_vret hx hb hr hlocks hS (hN.put (hS.2.1 a hN.1.lt (by show ¬ a = a + 1; omega)) hf (fun j hj => by rw [hfe j hj, if_pos hj]) hxk) dX0_times_52
      · have h4 : i < 4 := Nat.lt_of_not_le fun h => hc (nI_le h (by omega))
        have hw : x / 2 ^ (32 * i) % 2 ^ 32 < 2 ^ 32 := Nat.mod_lt _ (by decide)
        have hst := tm_step (x := x) (k := k) (P := 2 ^ (32 * i)) (B := 2 ^ 32) (Nat.two_pow_pos _) (by decide)
        have hbd : x / 2 ^ (32 * i) % 2 ^ 32 * k + x % 2 ^ (32 * i) * k / 2 ^ (32 * i) < 2 ^ 63 := tm_bd hw hk (tm_le (Nat.two_pow_pos _))
        refine lv_aload_n hx hb dX0_times_11 rfl (lv_at hl 2 rfl) ?_
        refine va_get (D := g.1) (ci := 0) (v := .ref (a + 1)) (C := RX0) (T := TX0) (N := 1) hx hb hts (by decide +kernel) hown hK.1 (xr_one hO) 0 rfl rfl 0 (by decide) (hts (.fieldLink RX0 9 "SharesDesk$Natural" "words" "[I") (by decide +kernel)) (fun _ h9 => h9) rfl dX0_times_12 ?_
        refine lv_iload hx hb dX0_times_15 (lv_at hl 0 rfl) ?_
        refine xr_rd hx hb hK hf h4 (by decide) dX0_times_17 ?_
        refine xr_ti (x' := nI (x / 2 ^ (32 * i) % 2 ^ 32)) (by rw [hfe i h4, if_neg (Nat.lt_irrefl i)]; rfl) ?_
        refine lv_i2l (v := (nI (x / 2 ^ (32 * i) % 2 ^ 32)).toInt64) hx hb dX0_times_18 rfl ?_
        refine lv_ldc2 (v := (4294967295)) hx hb hown (hts (.constantLong RX0 25 (4294967295)) (by decide +kernel)) dX0_times_19 ?_
        refine lv_land hx hb dX0_times_22 ?_
        refine xr_tl (x' := lN (x / 2 ^ (32 * i) % 2 ^ 32)) (lw_mask hw) ?_
        refine lv_iload_n hx hb dX0_times_23 rfl (lv_at hl 3 rfl) ?_
        refine lv_i2l (v := lN k) hx hb dX0_times_24 (nI_l hk) ?_
        refine lv_lmul hx hb dX0_times_25 ?_
        refine xr_tl (x' := lN (x / 2 ^ (32 * i) % 2 ^ 32 * k)) (lN_mul _ _) ?_
        refine lv_lload_n hx hb dX0_times_26 rfl (lv_at hl 1 rfl) ?_
        refine lv_ladd hx hb dX0_times_27 ?_
        refine xr_tl (x' := lN (x / 2 ^ (32 * i) % 2 ^ 32 * k + x % 2 ^ (32 * i) * k / 2 ^ (32 * i))) (lN_add _ _) ?_
        refine lv_lstore (lv' := [(5, .long (lN (x / 2 ^ (32 * i) % 2 ^ 32 * k + x % 2 ^ (32 * i) * k / 2 ^ (32 * i)))), (4, .int (nI i)), (2, .long (lN (x % 2 ^ (32 * i) * k / 2 ^ (32 * i)))), (0, .ref a), (1, .int (nI k))]) hx hb dX0_times_28 hl (by decide) rfl (fun ls hl => ?_)
        refine lv_aload_n hx hb dX0_times_30 rfl (lv_at hl 3 rfl) ?_
        refine va_get (D := g.1) (ci := 0) (v := .ref (a + 1)) (C := RX0) (T := TX0) (N := 1) hx hb hts (by decide +kernel) hown hK.1 (xr_one hO) 0 rfl rfl 0 (by decide) (hts (.fieldLink RX0 9 "SharesDesk$Natural" "words" "[I") (by decide +kernel)) (fun _ h9 => h9) rfl dX0_times_31 ?_
        refine lv_iload hx hb dX0_times_34 (lv_at hl 1 rfl) ?_
        refine lv_lload hx hb dX0_times_36 (lv_at hl 0 rfl) ?_
        refine lv_l2i (v := nI (x / 2 ^ (32 * i) % 2 ^ 32 * k + x % 2 ^ (32 * i) * k / 2 ^ (32 * i))) hx hb dX0_times_38 (lN_i _) ?_
        refine xr_wr hx hb hK hS rfl hf h4 (by decide) dX0_times_39 (fun H locs hz hkp hf hS => ?_)
        have hO := hO.kept (hkp a (by omega))
        refine lv_lload hx hb dX0_times_40 (lv_at hl 0 rfl) ?_
        refine lv_bipush (v := 32) hx hb dX0_times_42 (by decide) ?_
        refine lv_lushr (v := lN ((x / 2 ^ (32 * i) % 2 ^ 32 * k + x % 2 ^ (32 * i) * k / 2 ^ (32 * i)) / 2 ^ 32)) hx hb dX0_times_44 (l_sh (k := 32) (by decide) rfl (by omega)) ?_
        refine xr_tl (x' := lN (x % 2 ^ (32 * (i + 1)) * k / 2 ^ (32 * (i + 1)))) (by rw [p32s, hst.2]) ?_
        refine lv_lstore_n (lv' := [(2, .long (lN (x % 2 ^ (32 * (i + 1)) * k / 2 ^ (32 * (i + 1))))), (5, .long (lN (x / 2 ^ (32 * i) % 2 ^ 32 * k + x % 2 ^ (32 * i) * k / 2 ^ (32 * i)))), (4, .int (nI i)), (0, .ref a), (1, .int (nI k))]) hx hb dX0_times_45 rfl hl (by decide) rfl (fun ls hl => ?_)
        refine lv_iinc (v := nI (i + 1)) (lv' := [(4, .int (nI (i + 1))), (2, .long (lN (x % 2 ^ (32 * (i + 1)) * k / 2 ^ (32 * (i + 1))))), (5, .long (lN (x / 2 ^ (32 * i) % 2 ^ 32 * k + x % 2 ^ (32 * i) * k / 2 ^ (32 * i)))), (0, .ref a), (1, .int (nI k))]) hx hb dX0_times_46 hl (k := 2) rfl (nI_1 i) (by decide) rfl (fun ls hl => ?_)
        refine lv_goto (tgt := 5) hx hb dX0_times_49 (by decide) ?_
        exact ih (i + 1) (by omega) (by omega) H locs _ hO hf (wd_up hfe hst.1.symm) hS ls (lv_sub hl [0, 1, 3, 4] rfl)
  refine lv_lconst (v := 0) hx hb dX0_times_0 (by decide) ?_
  refine xr_tl (x' := lN (x % 2 ^ (32 * 0) * k / 2 ^ (32 * 0))) (by simp [Nat.mod_one, lN]) ?_
  refine lv_lstore_n (lv' := [(2, .long (lN (x % 2 ^ (32 * 0) * k / 2 ^ (32 * 0)))), (0, .ref a), (1, .int (nI k))]) hx hb dX0_times_1 rfl hl (by decide) rfl (fun ls hl => ?_)
  refine lv_iconst (v := 0) hx hb dX0_times_2 (by decide) ?_
  refine xr_ti (x' := nI 0) rfl ?_
  refine lv_istore (lv' := [(4, .int (nI 0)), (2, .long (lN (x % 2 ^ (32 * 0) * k / 2 ^ (32 * 0)))), (0, .ref a), (1, .int (nI k))]) hx hb dX0_times_3 hl (by decide) rfl (fun ls hl => ?_)
  exact loop 5 0 (by omega) (by omega) s.heap [] (wd x) hO hf (fun j hj => by rw [if_neg (Nat.not_lt_zero j)]) hS ls (lv_sub hl [0, 1, 2, 3] rfl)
set_option maxHeartbeats 400000 in
set_option maxRecDepth 100000 in
theorem c_X0_isZero (l : Launch) (g : WG) (H0 : Heap) (a x : Nat) (hN : NatAt g H0 a x) : Ctr l (KK g) yX0_isZero wsX0_isZero rmZ [.ref a] H0 eI (fun r H => r = b2i (decide (x = 0)) ∧ H = H0) (fun _ => False) := by
  refine xr_enter (cc := cX0_isZero) (maxL := 1) (ret := (some .boolean)) (by decide) rfl (Nat.le_of_ble_eq_true rfl) ?_
  intro p e s m below meth c hx hb hr hml hts hown hlocks hnm hH hK ls hl
  subst hH
  have hl : lv_has ls 1 [(0, .ref a)] := hl
  have hS : va_S (fun _ => False) s.heap s.heap [] := va_S.rf
  obtain ⟨hO, hf, hx128⟩ := hN
  refine lv_aload_n hx hb dX0_isZero_0 rfl (lv_at hl 0 rfl) ?_
  refine va_get (D := g.1) (ci := 0) (v := .ref (a + 1)) (C := RX0) (T := TX0) (N := 1) hx hb hts (by decide +kernel) hown hK.1 (xr_one hO) 0 rfl rfl 0 (by decide) (hts (.fieldLink RX0 9 "SharesDesk$Natural" "words" "[I") (by decide +kernel)) (fun _ h9 => h9) rfl dX0_isZero_1 ?_
  refine lv_iconst (v := 0) hx hb dX0_isZero_4 (by decide) ?_
  refine xr_ti (x' := nI 0) rfl ?_
  refine xr_rd hx hb hK hf (by decide) (by decide) dX0_isZero_5 ?_
  refine lv_aload_n hx hb dX0_isZero_6 rfl (lv_at hl 0 rfl) ?_
  refine va_get (D := g.1) (ci := 0) (v := .ref (a + 1)) (C := RX0) (T := TX0) (N := 1) hx hb hts (by decide +kernel) hown hK.1 (xr_one hO) 0 rfl rfl 0 (by decide) (hts (.fieldLink RX0 9 "SharesDesk$Natural" "words" "[I") (by decide +kernel)) (fun _ h9 => h9) rfl dX0_isZero_7 ?_
  refine lv_iconst (v := 1) hx hb dX0_isZero_10 (by decide) ?_
  refine xr_ti (x' := nI 1) rfl ?_
  refine xr_rd hx hb hK hf (by decide) (by decide) dX0_isZero_11 ?_
  refine lv_ior hx hb dX0_isZero_12 ?_
  refine lv_aload_n hx hb dX0_isZero_13 rfl (lv_at hl 0 rfl) ?_
  refine va_get (D := g.1) (ci := 0) (v := .ref (a + 1)) (C := RX0) (T := TX0) (N := 1) hx hb hts (by decide +kernel) hown hK.1 (xr_one hO) 0 rfl rfl 0 (by decide) (hts (.fieldLink RX0 9 "SharesDesk$Natural" "words" "[I") (by decide +kernel)) (fun _ h9 => h9) rfl dX0_isZero_14 ?_
  refine lv_iconst (v := 2) hx hb dX0_isZero_17 (by decide) ?_
  refine xr_ti (x' := nI 2) rfl ?_
  refine xr_rd hx hb hK hf (by decide) (by decide) dX0_isZero_18 ?_
  refine lv_ior hx hb dX0_isZero_19 ?_
  refine lv_aload_n hx hb dX0_isZero_20 rfl (lv_at hl 0 rfl) ?_
  refine va_get (D := g.1) (ci := 0) (v := .ref (a + 1)) (C := RX0) (T := TX0) (N := 1) hx hb hts (by decide +kernel) hown hK.1 (xr_one hO) 0 rfl rfl 0 (by decide) (hts (.fieldLink RX0 9 "SharesDesk$Natural" "words" "[I") (by decide +kernel)) (fun _ h9 => h9) rfl dX0_isZero_21 ?_
  refine lv_iconst (v := 3) hx hb dX0_isZero_24 (by decide) ?_
  refine xr_ti (x' := nI 3) rfl ?_
  refine xr_rd hx hb hK hf (by decide) (by decide) dX0_isZero_25 ?_
  refine lv_ior hx hb dX0_isZero_26 ?_
  refine lv_if_ne (tgt := 34) hx hb dX0_isZero_27 (by decide) (fun hc => ?_) (fun hc => ?_)
  · rw [wd_z hx128] at hc
    refine lv_iconst (v := 0) hx hb dX0_isZero_34 (by decide) ?_
    exact xr_zret hx hb hr rfl hlocks hS ⟨by rw [decide_eq_false hc]; rfl, rfl⟩ dX0_isZero_35
  · have hc := (wd_z hx128).mp hc
    refine lv_iconst (v := 1) hx hb dX0_isZero_30 (by decide) ?_
    refine lv_goto (tgt := 35) hx hb dX0_isZero_31 (by decide) ?_
    exact xr_zret hx hb hr rfl hlocks hS ⟨by rw [decide_eq_true hc]; rfl, rfl⟩ dX0_isZero_35
set_option maxHeartbeats 400000 in
set_option maxRecDepth 100000 in
theorem c_X0_isOne (l : Launch) (g : WG) (H0 : Heap) (a x : Nat) (hN : NatAt g H0 a x) : Ctr l (KK g) yX0_isOne wsX0_isOne rmZ [.ref a] H0 eI (fun r H => r = b2i (decide (x = 1)) ∧ H = H0) (fun _ => False) := by
  refine xr_enter (cc := cX0_isOne) (maxL := 1) (ret := (some .boolean)) (by decide) rfl (Nat.le_of_ble_eq_true rfl) ?_
  intro p e s m below meth c hx hb hr hml hts hown hlocks hnm hH hK ls hl
  subst hH
  have hl : lv_has ls 1 [(0, .ref a)] := hl
  have hS : va_S (fun _ => False) s.heap s.heap [] := va_S.rf
  obtain ⟨hO, hf, hx128⟩ := hN
  refine lv_aload_n hx hb dX0_isOne_0 rfl (lv_at hl 0 rfl) ?_
  refine va_get (D := g.1) (ci := 0) (v := .ref (a + 1)) (C := RX0) (T := TX0) (N := 1) hx hb hts (by decide +kernel) hown hK.1 (xr_one hO) 0 rfl rfl 0 (by decide) (hts (.fieldLink RX0 9 "SharesDesk$Natural" "words" "[I") (by decide +kernel)) (fun _ h9 => h9) rfl dX0_isOne_1 ?_
  refine lv_iconst (v := 0) hx hb dX0_isOne_4 (by decide) ?_
  refine xr_ti (x' := nI 0) rfl ?_
  refine xr_rd hx hb hK hf (by decide) (by decide) dX0_isOne_5 ?_
  refine lv_iconst (v := 1) hx hb dX0_isOne_6 (by decide) ?_
  refine lv_icmp_ne (tgt := 37) hx hb dX0_isOne_7 (by decide) (fun h1 => ?_) (fun h1 => ?_)
  · have hc : ¬ x = 1 := fun q => h1 ((wd_o hx128).mpr q).1
    refine lv_iconst (v := 0) hx hb dX0_isOne_37 (by decide) ?_
    exact xr_zret hx hb hr rfl hlocks hS ⟨by rw [decide_eq_false hc]; rfl, rfl⟩ dX0_isOne_38
  · have h1 := h1
    refine lv_aload_n hx hb dX0_isOne_10 rfl (lv_at hl 0 rfl) ?_
    refine va_get (D := g.1) (ci := 0) (v := .ref (a + 1)) (C := RX0) (T := TX0) (N := 1) hx hb hts (by decide +kernel) hown hK.1 (xr_one hO) 0 rfl rfl 0 (by decide) (hts (.fieldLink RX0 9 "SharesDesk$Natural" "words" "[I") (by decide +kernel)) (fun _ h9 => h9) rfl dX0_isOne_11 ?_
    refine lv_iconst (v := 1) hx hb dX0_isOne_14 (by decide) ?_
    refine xr_ti (x' := nI 1) rfl ?_
    refine xr_rd hx hb hK hf (by decide) (by decide) dX0_isOne_15 ?_
    refine lv_aload_n hx hb dX0_isOne_16 rfl (lv_at hl 0 rfl) ?_
    refine va_get (D := g.1) (ci := 0) (v := .ref (a + 1)) (C := RX0) (T := TX0) (N := 1) hx hb hts (by decide +kernel) hown hK.1 (xr_one hO) 0 rfl rfl 0 (by decide) (hts (.fieldLink RX0 9 "SharesDesk$Natural" "words" "[I") (by decide +kernel)) (fun _ h9 => h9) rfl dX0_isOne_17 ?_
    refine lv_iconst (v := 2) hx hb dX0_isOne_20 (by decide) ?_
    refine xr_ti (x' := nI 2) rfl ?_
    refine xr_rd hx hb hK hf (by decide) (by decide) dX0_isOne_21 ?_
    refine lv_ior hx hb dX0_isOne_22 ?_
    refine lv_aload_n hx hb dX0_isOne_23 rfl (lv_at hl 0 rfl) ?_
    refine va_get (D := g.1) (ci := 0) (v := .ref (a + 1)) (C := RX0) (T := TX0) (N := 1) hx hb hts (by decide +kernel) hown hK.1 (xr_one hO) 0 rfl rfl 0 (by decide) (hts (.fieldLink RX0 9 "SharesDesk$Natural" "words" "[I") (by decide +kernel)) (fun _ h9 => h9) rfl dX0_isOne_24 ?_
    refine lv_iconst (v := 3) hx hb dX0_isOne_27 (by decide) ?_
    refine xr_ti (x' := nI 3) rfl ?_
    refine xr_rd hx hb hK hf (by decide) (by decide) dX0_isOne_28 ?_
    refine lv_ior hx hb dX0_isOne_29 ?_
    refine lv_if_ne (tgt := 37) hx hb dX0_isOne_30 (by decide) (fun hc => ?_) (fun hc => ?_)
    · have hc : ¬ x = 1 := fun q => hc ((wd_o hx128).mpr q).2
      refine lv_iconst (v := 0) hx hb dX0_isOne_37 (by decide) ?_
      exact xr_zret hx hb hr rfl hlocks hS ⟨by rw [decide_eq_false hc]; rfl, rfl⟩ dX0_isOne_38
    · have hc : x = 1 := (wd_o hx128).mp ⟨h1, hc⟩
      refine lv_iconst (v := 1) hx hb dX0_isOne_33 (by decide) ?_
      refine lv_goto (tgt := 38) hx hb dX0_isOne_34 (by decide) ?_
      exact xr_zret hx hb hr rfl hlocks hS ⟨by rw [decide_eq_true hc]; rfl, rfl⟩ dX0_isOne_38
set_option maxHeartbeats 400000 in
set_option maxRecDepth 100000 in
theorem c_X0_wordAt (l : Launch) (g : WG) (H0 : Heap) (a x : Nat) (i : Int32) (hN : NatAt g H0 a x) : Ctr l (KK g) yX0_wordAt wsX0_wordAt rmZ [.ref a, .int i] H0 eI (fun r H => r = (if 0 ≤ i.toInt ∧ i.toInt < 4 then wd x i.toInt.toNat else 0) ∧ H = H0) (fun _ => False) := by
  refine xr_enter (cc := cX0_wordAt) (maxL := 2) (ret := (some .int)) (by decide) rfl (Nat.le_of_ble_eq_true rfl) ?_
  intro p e s m below meth c hx hb hr hml hts hown hlocks hnm hH hK ls hl
  subst hH
  have hl : lv_has ls 2 [(0, .ref a), (1, .int i)] := hl
  have hS : va_S (fun _ => False) s.heap s.heap [] := va_S.rf
  obtain ⟨hO, hf, hx128⟩ := hN
  refine lv_iload_n hx hb dX0_wordAt_0 rfl (lv_at hl 1 rfl) ?_
  refine lv_if_lt (tgt := 18) hx hb dX0_wordAt_1 (by decide) (fun h0 => ?_) (fun h0 => ?_)
  · have h9 : i.toInt < 0 := Int32.lt_iff_toInt_lt.mp h0
    refine lv_iconst (v := 0) hx hb dX0_wordAt_18 (by decide) ?_
    exact xr_iret hx hb hr hlocks hS ⟨by rw [if_neg (by omega)], rfl⟩ dX0_wordAt_19
  · obtain ⟨j, hj, rfl⟩ := nI_of h0
    have ej : (nI j).toInt = (j : Int) := nI_toInt hj
    refine lv_iload_n hx hb dX0_wordAt_4 rfl (lv_at hl 1 rfl) ?_
    refine lv_iconst (v := 4) hx hb dX0_wordAt_5 (by decide) ?_
    refine lv_icmp_ge (tgt := 18) hx hb dX0_wordAt_6 (by decide) (fun h4 => ?_) (fun h4 => ?_)
    · have h9 : 4 ≤ j := (nI_leI (by decide) hj).mp h4
      refine lv_iconst (v := 0) hx hb dX0_wordAt_18 (by decide) ?_
      exact xr_iret hx hb hr hlocks hS ⟨by rw [if_neg (by omega)], rfl⟩ dX0_wordAt_19
    · have h9 : j < 4 := Nat.lt_of_not_le fun h => h4 (nI_le h hj)
      refine lv_aload_n hx hb dX0_wordAt_9 rfl (lv_at hl 0 rfl) ?_
      refine va_get (D := g.1) (ci := 0) (v := .ref (a + 1)) (C := RX0) (T := TX0) (N := 1) hx hb hts (by decide +kernel) hown hK.1 (xr_one hO) 0 rfl rfl 0 (by decide) (hts (.fieldLink RX0 9 "SharesDesk$Natural" "words" "[I") (by decide +kernel)) (fun _ h9 => h9) rfl dX0_wordAt_10 ?_
      refine lv_iload_n hx hb dX0_wordAt_13 rfl (lv_at hl 1 rfl) ?_
      refine xr_rd hx hb hK hf h9 (by decide) dX0_wordAt_14 ?_
      refine lv_goto (tgt := 19) hx hb dX0_wordAt_15 (by decide) ?_
      exact xr_iret hx hb hr hlocks hS ⟨by rw [if_pos (by omega), ej]; rfl, rfl⟩ dX0_wordAt_19
set_option maxHeartbeats 400000 in
set_option maxRecDepth 100000 in
theorem c_X0_against (l : Launch) (g : WG) (H0 : Heap) (a b x y : Nat) (hN : NatAt g H0 a x) (hM : NatAt g H0 b y) : Ctr l (KK g) yX0_against wsX0_against rmZ [.ref a, .ref b] H0 eI (fun r H => r = cmpI x y ∧ H = H0) (fun _ => False) := by
  refine xr_enter (cc := cX0_against) (maxL := 3) (ret := (some .int)) (by decide) rfl (Nat.le_of_ble_eq_true rfl) ?_
  intro p e s m below meth c hx hb hr hml hts hown hlocks hnm hH hK ls hl
  subst hH
  have hl : lv_has ls 3 [(0, .ref a), (1, .ref b)] := hl
  have hS : va_S (fun _ => False) s.heap s.heap [] := va_S.rf
  obtain ⟨hO, hf, hx128⟩ := hN
  obtain ⟨hO2, hf2, hy128⟩ := hM
  have loop : ∀ n : Nat, n ≤ 4 → x / 2 ^ (32 * n) = y / 2 ^ (32 * n) → ∀ ls : Array Slot, lv_has ls 3 [(2, .int (nI n - 1)), (0, .ref a), (1, .ref b)] → W p l e rmZ s m ([.ref a, .ref b] : List Value).toArray below meth c s.heap [] 0 0 (MQ below (xr_Post eI (fun r H => r = cmpI x y ∧ H = s.heap) (fun _ => False)) ([.ref a, .ref b] : List Value).toArray s (rmZ : Room).cells (rmZ : Room).slots (fun _ => False)) (F0 m 2 ls []) := by
    intro n
    induction n with
    | zero =>
      intro _ he ls hl
      refine lv_iload_n hx hb dX0_against_2 rfl (lv_at hl 0 rfl) ?_
      refine lv_if_lt (tgt := 59) hx hb dX0_against_3 (by decide) (fun hc => ?_) (fun hc => ?_)
      · have he : x = y := by simpa using he
        refine lv_iconst (v := 0) hx hb dX0_against_59 (by decide) ?_
        exact xr_iret hx hb hr hlocks hS ⟨by rw [he]; simp [cmpI], rfl⟩ dX0_against_60
      · exact absurd (by decide) hc
    | succ i ih =>
      intro h4 he ls hl
      rw [nI_pred] at hl
      rw [p32s] at he
      have hwx : x / 2 ^ (32 * i) % 2 ^ 32 < 2 ^ 32 := Nat.mod_lt _ (by decide)
      have hwy : y / 2 ^ (32 * i) % 2 ^ 32 < 2 ^ 32 := Nat.mod_lt _ (by decide)
      refine lv_iload_n hx hb dX0_against_2 rfl (lv_at hl 0 rfl) ?_
      refine lv_if_lt (tgt := 59) hx hb dX0_against_3 (by decide) (fun hc => ?_) (fun hc => ?_)
      · exact absurd hc (nI_pos (by omega))
      · clear hc
        refine lv_aload_n hx hb dX0_against_6 rfl (lv_at hl 1 rfl) ?_
        refine va_get (D := g.1) (ci := 0) (v := .ref (a + 1)) (C := RX0) (T := TX0) (N := 1) hx hb hts (by decide +kernel) hown hK.1 (xr_one hO) 0 rfl rfl 0 (by decide) (hts (.fieldLink RX0 9 "SharesDesk$Natural" "words" "[I") (by decide +kernel)) (fun _ h9 => h9) rfl dX0_against_7 ?_
        refine lv_iload_n hx hb dX0_against_10 rfl (lv_at hl 0 rfl) ?_
        refine xr_rd hx hb hK hf (by omega) (by decide) dX0_against_11 ?_
        refine lv_aload_n hx hb dX0_against_12 rfl (lv_at hl 2 rfl) ?_
        refine va_get (D := g.1) (ci := 0) (v := .ref (b + 1)) (C := RX0) (T := TX0) (N := 1) hx hb hts (by decide +kernel) hown hK.1 (xr_one hO2) 0 rfl rfl 0 (by decide) (hts (.fieldLink RX0 9 "SharesDesk$Natural" "words" "[I") (by decide +kernel)) (fun _ h9 => h9) rfl dX0_against_13 ?_
        refine lv_iload_n hx hb dX0_against_16 rfl (lv_at hl 0 rfl) ?_
        refine xr_rd hx hb hK hf2 (by omega) (by decide) dX0_against_17 ?_
        refine lv_icmp_eq (tgt := 53) hx hb dX0_against_18 (by decide) (fun hc => ?_) (fun hc => ?_)
        · have hc := (nI_inj hwx hwy).mp hc
          refine lv_iinc (v := nI i - 1) (lv' := [(2, .int (nI i - 1)), (0, .ref a), (1, .ref b)]) hx hb dX0_against_53 hl (k := 0) rfl (Int32.sub_eq_add_neg (a := nI i) (b := 1)).symm (by decide) rfl (fun ls hl => ?_)
          refine lv_goto (tgt := 2) hx hb dX0_against_56 (by decide) ?_
          exact ih (by omega) (cmpI_up (by decide) he hc) ls (lv_sub hl [0, 1, 2] rfl)
        · have hne : ¬ x / 2 ^ (32 * i) % 2 ^ 32 = y / 2 ^ (32 * i) % 2 ^ 32 := fun q => hc ((nI_inj hwx hwy).mpr q)
          refine lv_aload_n hx hb dX0_against_21 rfl (lv_at hl 1 rfl) ?_
          refine va_get (D := g.1) (ci := 0) (v := .ref (a + 1)) (C := RX0) (T := TX0) (N := 1) hx hb hts (by decide +kernel) hown hK.1 (xr_one hO) 0 rfl rfl 0 (by decide) (hts (.fieldLink RX0 9 "SharesDesk$Natural" "words" "[I") (by decide +kernel)) (fun _ h9 => h9) rfl dX0_against_22 ?_
          refine lv_iload_n hx hb dX0_against_25 rfl (lv_at hl 0 rfl) ?_
          refine xr_rd hx hb hK hf (by omega) (by decide) dX0_against_26 ?_
          refine lv_i2l (v := (wd x i).toInt64) hx hb dX0_against_27 rfl ?_
          refine lv_ldc2 (v := (4294967295)) hx hb hown (hts (.constantLong RX0 25 (4294967295)) (by decide +kernel)) dX0_against_28 ?_
          refine lv_land hx hb dX0_against_31 ?_
          refine xr_tl (x' := lN (x / 2 ^ (32 * i) % 2 ^ 32)) (lw_mask hwx) ?_
          refine lv_aload_n hx hb dX0_against_32 rfl (lv_at hl 2 rfl) ?_
          refine va_get (D := g.1) (ci := 0) (v := .ref (b + 1)) (C := RX0) (T := TX0) (N := 1) hx hb hts (by decide +kernel) hown hK.1 (xr_one hO2) 0 rfl rfl 0 (by decide) (hts (.fieldLink RX0 9 "SharesDesk$Natural" "words" "[I") (by decide +kernel)) (fun _ h9 => h9) rfl dX0_against_33 ?_
          refine lv_iload_n hx hb dX0_against_36 rfl (lv_at hl 0 rfl) ?_
          refine xr_rd hx hb hK hf2 (by omega) (by decide) dX0_against_37 ?_
          refine lv_i2l (v := (wd y i).toInt64) hx hb dX0_against_38 rfl ?_
          refine lv_ldc2 (v := (4294967295)) hx hb hown (hts (.constantLong RX0 25 (4294967295)) (by decide +kernel)) dX0_against_39 ?_
          refine lv_land hx hb dX0_against_42 ?_
          refine xr_tl (x' := lN (y / 2 ^ (32 * i) % 2 ^ 32)) (lw_mask hwy) ?_
          refine W.lcmp hx hb dX0_against_43 ?_
          refine lv_if_ge (tgt := 51) hx hb dX0_against_44 (by decide) (fun hc => ?_) (fun hc => ?_)
          · have hlt := cmpI_lt (Nat.two_pow_pos _) (by decide) he.symm (Nat.lt_of_le_of_ne ((pk_lLE (by omega) (by omega)).mp ((lg_cmp_ge _ _).mp hc)) (fun q => hne q.symm))
            refine lv_iconst (v := 1) hx hb dX0_against_51 (by decide) ?_
            exact xr_iret hx hb hr hlocks hS ⟨by unfold cmpI; rw [if_neg (by omega), if_neg (by omega)], rfl⟩ dX0_against_52
          · have hlt := cmpI_lt (Nat.two_pow_pos _) (by decide) he (Nat.lt_of_not_le (fun q => hc ((lg_cmp_ge _ _).mpr ((pk_lLE (by omega) (by omega)).mpr q))))
            refine lv_iconst (v := (-1)) hx hb dX0_against_47 (by decide) ?_
            refine lv_goto (tgt := 52) hx hb dX0_against_48 (by decide) ?_
            exact xr_iret hx hb hr hlocks hS ⟨by unfold cmpI; rw [if_pos hlt], rfl⟩ dX0_against_52
  refine lv_iconst (v := 3) hx hb dX0_against_0 (by decide) ?_
  refine xr_ti (x' := nI 4 - 1) (by decide) ?_
  refine lv_istore_n (lv' := [(2, .int (nI 4 - 1)), (0, .ref a), (1, .ref b)]) hx hb dX0_against_1 rfl hl (by decide) rfl (fun ls hl => ?_)
  exact loop 4 (by omega) (by rw [Nat.div_eq_of_lt hx128, Nat.div_eq_of_lt hy128]) ls hl
set_option maxHeartbeats 400000 in
set_option maxRecDepth 100000 in
theorem c_X0_minus (l : Launch) (g : WG) (H0 : Heap) (a b x y : Nat) (hN : NatAt g H0 a x) (hM : NatAt g H0 b y) (hab : a ≠ b) (hyx : y ≤ x) (hd : a + 1 ≠ b) : Ctr l (KK g) yX0_minus wsX0_minus rmZ [.ref a, .ref b] H0 eV (fun _ H => NatAt g H a (x - y)) (fun q => q = a + 1) := by
  refine xr_enter (cc := cX0_minus) (maxL := 7) (ret := none) (by decide) rfl (Nat.le_of_ble_eq_true rfl) ?_
  intro p e s m below meth c hx hb hr hml hts hown hlocks hnm hH hK ls hl
  subst hH
  have hl : lv_has ls 7 [(0, .ref a), (1, .ref b)] := hl
  have hS : va_S (fun q => q = a + 1) s.heap s.heap [] := va_S.rf
  obtain ⟨hO, hf, hx128⟩ := id hN
  obtain ⟨hO2, hf2, hy128⟩ := hM
  have loop : ∀ (n i : Nat), i ≤ 4 → 4 < i + n → ∀ (H : Heap) (locs : List Loc) (f : Nat → Int32) (bb : Nat), bb = (if x % 2 ^ (32 * i) < y % 2 ^ (32 * i) then 1 else 0) → obj g H a 0 [.ref (a + 1)] → obj g H b 0 [.ref (b + 1)] → xr_ia H (b + 1) (gI g) 4 (wd y) → xr_ia H (a + 1) (gI g) 4 f → (∀ j, j < 4 → f j = if j < i then wd (x - y) j else wd x j) → va_S (fun q => q = a + 1) s.heap H locs → ∀ ls : Array Slot, lv_has ls 7 [(4, .int (nI i)), (2, .long (0 - lN bb)), (0, .ref a), (1, .ref b)] → W p l e rmZ s m ([.ref a, .ref b] : List Value).toArray below meth c H locs 0 0 (MQ below (xr_Post eV (fun _ H => NatAt g H a (x - y)) (fun q => q = a + 1)) ([.ref a, .ref b] : List Value).toArray s (rmZ : Room).cells (rmZ : Room).slots (fun q => q = a + 1)) (F0 m 5 ls []) := by
    intro n
    induction n with
    | zero => intro i h1 h2; exact absurd h2 (by omega)
    | succ n ih =>
      intro i h1 h2 H locs f bb hbb hO hO2 hf2 hf hfe hS ls hl
      refine lv_iload hx hb dX0_minus_5 (lv_at hl 0 rfl) ?_
      refine lv_iconst (v := 4) hx hb dX0_minus_7 (by decide) ?_
      refine lv_icmp_ge (tgt := 62) hx hb dX0_minus_8 (by decide) (fun hc => ?_) (fun hc => ?_)
      · have e4 : i = 4 := by have := (nI_leI (a := 4) (b := i) (by decide) (by omega)).mp hc; omega
        subst e4
        exact xr_vret hx hb hr hlocks hS (hN.put (hS.2.1 a hN.1.lt (by show ¬ a = a + 1; omega)) hf (fun j hj => by rw [hfe j hj, if_pos hj]) (by omega)) dX0_minus_62
      · have h4 : i < 4 := Nat.lt_of_not_le fun h => hc (nI_le h (by omega))
        have hwx : x / 2 ^ (32 * i) % 2 ^ 32 < 2 ^ 32 := Nat.mod_lt _ (by decide)
        have hwy : y / 2 ^ (32 * i) % 2 ^ 32 < 2 ^ 32 := Nat.mod_lt _ (by decide)
        have hwz : (x - y) / 2 ^ (32 * i) % 2 ^ 32 < 2 ^ 32 := Nat.mod_lt _ (by decide)
        obtain ⟨b1, b2, hb1, hb2, hst⟩ := mn_step (x := x) (y := y) (P := 2 ^ (32 * i)) (B := 2 ^ 32) (Nat.two_pow_pos _) (by decide) hyx
        rw [hb1.trans hbb.symm] at hst
        have hb21 : b2 ≤ 1 := by rw [hb2]; split <;> omega
        refine lv_aload_n hx hb dX0_minus_11 rfl (lv_at hl 2 rfl) ?_
        refine va_get (D := g.1) (ci := 0) (v := .ref (a + 1)) (C := RX0) (T := TX0) (N := 1) hx hb hts (by decide +kernel) hown hK.1 (xr_one hO) 0 rfl rfl 0 (by decide) (hts (.fieldLink RX0 9 "SharesDesk$Natural" "words" "[I") (by decide +kernel)) (fun _ h9 => h9) rfl dX0_minus_12 ?_
        refine lv_iload hx hb dX0_minus_15 (lv_at hl 0 rfl) ?_
        refine xr_rd hx hb hK hf h4 (by decide) dX0_minus_17 ?_
        refine xr_ti (x' := nI (x / 2 ^ (32 * i) % 2 ^ 32)) (by rw [hfe i h4, if_neg (Nat.lt_irrefl i)]; rfl) ?_
        refine lv_i2l (v := (nI (x / 2 ^ (32 * i) % 2 ^ 32)).toInt64) hx hb dX0_minus_18 rfl ?_
        refine lv_ldc2 (v := (4294967295)) hx hb hown (hts (.constantLong RX0 25 (4294967295)) (by decide +kernel)) dX0_minus_19 ?_
        refine lv_land hx hb dX0_minus_22 ?_
        refine xr_tl (x' := lN (x / 2 ^ (32 * i) % 2 ^ 32)) (lw_mask hwx) ?_
        refine lv_aload_n hx hb dX0_minus_23 rfl (lv_at hl 3 rfl) ?_
        refine va_get (D := g.1) (ci := 0) (v := .ref (b + 1)) (C := RX0) (T := TX0) (N := 1) hx hb hts (by decide +kernel) hown hK.1 (xr_one hO2) 0 rfl rfl 0 (by decide) (hts (.fieldLink RX0 9 "SharesDesk$Natural" "words" "[I") (by decide +kernel)) (fun _ h9 => h9) rfl dX0_minus_24 ?_
        refine lv_iload hx hb dX0_minus_27 (lv_at hl 0 rfl) ?_
        refine xr_rd hx hb hK hf2 h4 (by decide) dX0_minus_29 ?_
        refine xr_ti (x' := nI (y / 2 ^ (32 * i) % 2 ^ 32)) rfl ?_
        refine lv_i2l (v := (nI (y / 2 ^ (32 * i) % 2 ^ 32)).toInt64) hx hb dX0_minus_30 rfl ?_
        refine lv_ldc2 (v := (4294967295)) hx hb hown (hts (.constantLong RX0 25 (4294967295)) (by decide +kernel)) dX0_minus_31 ?_
        refine lv_land hx hb dX0_minus_34 ?_
        refine xr_tl (x' := lN (y / 2 ^ (32 * i) % 2 ^ 32)) (lw_mask hwy) ?_
        refine lv_lsub hx hb dX0_minus_35 ?_
        refine lv_lload_n hx hb dX0_minus_36 rfl (lv_at hl 1 rfl) ?_
        refine lv_ladd hx hb dX0_minus_37 ?_
        refine xr_tl (x' := lN ((x - y) / 2 ^ (32 * i) % 2 ^ 32) - lN (b2 * 2 ^ 32)) (l_bw hst) ?_
        refine lv_lstore (lv' := [(5, .long (lN ((x - y) / 2 ^ (32 * i) % 2 ^ 32) - lN (b2 * 2 ^ 32))), (4, .int (nI i)), (2, .long (0 - lN bb)), (0, .ref a), (1, .ref b)]) hx hb dX0_minus_38 hl (by decide) rfl (fun ls hl => ?_)
        refine lv_aload_n hx hb dX0_minus_40 rfl (lv_at hl 3 rfl) ?_
        refine va_get (D := g.1) (ci := 0) (v := .ref (a + 1)) (C := RX0) (T := TX0) (N := 1) hx hb hts (by decide +kernel) hown hK.1 (xr_one hO) 0 rfl rfl 0 (by decide) (hts (.fieldLink RX0 9 "SharesDesk$Natural" "words" "[I") (by decide +kernel)) (fun _ h9 => h9) rfl dX0_minus_41 ?_
        refine lv_iload hx hb dX0_minus_44 (lv_at hl 1 rfl) ?_
        refine lv_lload hx hb dX0_minus_46 (lv_at hl 0 rfl) ?_
        refine lv_l2i (v := nI ((x - y) / 2 ^ (32 * i) % 2 ^ 32)) hx hb dX0_minus_48 l_bi ?_
        refine xr_wr hx hb hK hS rfl hf h4 (by decide) dX0_minus_49 (fun H locs hz hkp hf hS => ?_)
        have hO := hO.kept (hkp a (by omega))
        have hO2 := hO2.kept (hkp b (by omega))
        have hf2 := hf2.kept (hkp (b + 1) (by omega))
        refine lv_lload hx hb dX0_minus_50 (lv_at hl 0 rfl) ?_
        refine lv_bipush (v := 32) hx hb dX0_minus_52 (by decide) ?_
        refine lv_lshr (v := 0 - lN b2) hx hb dX0_minus_54 (l_bs (by decide) hwz hb21) ?_
        refine lv_lstore_n (lv' := [(2, .long (0 - lN b2)), (5, .long (lN ((x - y) / 2 ^ (32 * i) % 2 ^ 32) - lN (b2 * 2 ^ 32))), (4, .int (nI i)), (0, .ref a), (1, .ref b)]) hx hb dX0_minus_55 rfl hl (by decide) rfl (fun ls hl => ?_)
        refine lv_iinc (v := nI (i + 1)) (lv' := [(4, .int (nI (i + 1))), (2, .long (0 - lN b2)), (5, .long (lN ((x - y) / 2 ^ (32 * i) % 2 ^ 32) - lN (b2 * 2 ^ 32))), (0, .ref a), (1, .ref b)]) hx hb dX0_minus_56 hl (k := 2) rfl (nI_1 i) (by decide) rfl (fun ls hl => ?_)
        refine lv_goto (tgt := 5) hx hb dX0_minus_59 (by decide) ?_
        exact ih (i + 1) (by omega) (by omega) H locs _ b2 (by rw [hb2, p32s]) hO hO2 hf2 hf (wd_up hfe (Nat.mod_mod _ _)) hS ls (lv_sub hl [0, 1, 3, 4] rfl)
  refine lv_lconst (v := 0) hx hb dX0_minus_0 (by decide) ?_
  refine xr_tl (x' := 0 - lN 0) (by decide) ?_
  refine lv_lstore_n (lv' := [(2, .long (0 - lN 0)), (0, .ref a), (1, .ref b)]) hx hb dX0_minus_1 rfl hl (by decide) rfl (fun ls hl => ?_)
  refine lv_iconst (v := 0) hx hb dX0_minus_2 (by decide) ?_
  refine xr_ti (x' := nI 0) rfl ?_
  refine lv_istore (lv' := [(4, .int (nI 0)), (2, .long (0 - lN 0)), (0, .ref a), (1, .ref b)]) hx hb dX0_minus_3 hl (by decide) rfl (fun ls hl => ?_)
  exact loop 5 0 (by omega) (by omega) s.heap [] (wd x) 0 (by simp [Nat.mod_one]) hO hO2 hf2 hf (fun j hj => by rw [if_neg (Nat.not_lt_zero j)]) hS ls (lv_sub hl [0, 1, 2, 3] rfl)
set_option maxHeartbeats 400000 in
set_option maxRecDepth 100000 in
theorem c_X0_divide (l : Launch) (g : WG) (H0 : Heap) (a x d : Nat) (hN : NatAt g H0 a x) (hd0 : 0 < d) (hd : d < 2 ^ 31) : Ctr l (KK g) yX0_divide wsX0_divide rmZ [.ref a, .int (nI d)] H0 eI (fun r H => r = nI (x % d) ∧ NatAt g H a (x / d)) (fun q => q = a + 1) := by
  refine xr_enter (cc := cX0_divide) (maxL := 7) (ret := (some .int)) (by decide) rfl (Nat.le_of_ble_eq_true rfl) ?_
  intro p e s m below meth c hx hb hr hml hts hown hlocks hnm hH hK ls hl
  subst hH
  have hl : lv_has ls 7 [(0, .ref a), (1, .int (nI d))] := hl
  have hS : va_S (fun q => q = a + 1) s.heap s.heap [] := va_S.rf
  obtain ⟨hO, hf, hx128⟩ := id hN
  have hdn : ¬ lN d = 0 := fun q => by have := (pk_lEQ (a := d) (b := 0) (by omega) (by decide)).mp q; omega
  have loop : ∀ n : Nat, n ≤ 4 → ∀ (H : Heap) (locs : List Loc) (f : Nat → Int32), obj g H a 0 [.ref (a + 1)] → xr_ia H (a + 1) (gI g) 4 f → (∀ j, j < 4 → f j = if n ≤ j then wd (x / d) j else wd x j) → va_S (fun q => q = a + 1) s.heap H locs → ∀ ls : Array Slot, lv_has ls 7 [(4, .int (nI n - 1)), (2, .long (lN (x / 2 ^ (32 * n) % d))), (0, .ref a), (1, .int (nI d))] → W p l e rmZ s m ([.ref a, .int (nI d)] : List Value).toArray below meth c H locs 0 0 (MQ below (xr_Post eI (fun r H => r = nI (x % d) ∧ NatAt g H a (x / d)) (fun q => q = a + 1)) ([.ref a, .int (nI d)] : List Value).toArray s (rmZ : Room).cells (rmZ : Room).slots (fun q => q = a + 1)) (F0 m 12 ls []) := by
    intro n
    induction n with
    | zero =>
      intro _ H locs f hO hf hfe hS ls hl
      refine lv_iload hx hb dX0_divide_12 (lv_at hl 0 rfl) ?_
      refine lv_if_lt (tgt := 61) hx hb dX0_divide_14 (by decide) (fun hc => ?_) (fun hc => ?_)
      · clear hc
        refine lv_lload_n hx hb dX0_divide_61 rfl (lv_at hl 1 rfl) ?_
        refine lv_l2i (v := nI (x % d)) hx hb dX0_divide_62 (by rw [lN_i]; simp) ?_
        exact xr_iret hx hb hr hlocks hS ⟨rfl, hN.put (hS.2.1 a hN.1.lt (by show ¬ a = a + 1; omega)) hf (fun j hj => by rw [hfe j hj, if_pos (Nat.zero_le j)]) (Nat.lt_of_le_of_lt (Nat.div_le_self _ _) hx128)⟩ dX0_divide_63
      · exact absurd (by decide) hc
    | succ i ih =>
      intro h4 H locs f hO hf hfe hS ls hl
      rw [nI_pred] at hl
      have hw : x / 2 ^ (32 * i) % 2 ^ 32 < 2 ^ 32 := Nat.mod_lt _ (by decide)
      have hrd : x / 2 ^ (32 * (i + 1)) % d < d := Nat.mod_lt _ hd0
      have hst := dv_step (x := x) (d := d) (P := 2 ^ (32 * i)) (B := 2 ^ 32) (Nat.two_pow_pos _) (by decide) hd0
      rw [← p32s] at hst
      have hpt : x / 2 ^ (32 * (i + 1)) % d * 2 ^ 32 + x / 2 ^ (32 * i) % 2 ^ 32 < 2 ^ 63 := by omega
      refine lv_iload hx hb dX0_divide_12 (lv_at hl 0 rfl) ?_
      refine lv_if_lt (tgt := 61) hx hb dX0_divide_14 (by decide) (fun hc => ?_) (fun hc => ?_)
      · exact absurd hc (nI_pos (by omega))
      · clear hc
        refine lv_lload_n hx hb dX0_divide_17 rfl (lv_at hl 1 rfl) ?_
        refine lv_bipush (v := 32) hx hb dX0_divide_18 (by decide) ?_
        refine lv_lshl (v := lN (x / 2 ^ (32 * (i + 1)) % d * 2 ^ 32)) hx hb dX0_divide_20 l_shl ?_
        refine lv_aload_n hx hb dX0_divide_21 rfl (lv_at hl 2 rfl) ?_
        refine va_get (D := g.1) (ci := 0) (v := .ref (a + 1)) (C := RX0) (T := TX0) (N := 1) hx hb hts (by decide +kernel) hown hK.1 (xr_one hO) 0 rfl rfl 0 (by decide) (hts (.fieldLink RX0 9 "SharesDesk$Natural" "words" "[I") (by decide +kernel)) (fun _ h9 => h9) rfl dX0_divide_22 ?_
        refine lv_iload hx hb dX0_divide_25 (lv_at hl 0 rfl) ?_
        refine xr_rd hx hb hK hf (by omega) (by decide) dX0_divide_27 ?_
        refine xr_ti (x' := nI (x / 2 ^ (32 * i) % 2 ^ 32)) (by rw [hfe i (by omega), if_neg (by omega)]; rfl) ?_
        refine lv_i2l (v := (nI (x / 2 ^ (32 * i) % 2 ^ 32)).toInt64) hx hb dX0_divide_28 rfl ?_
        refine lv_ldc2 (v := (4294967295)) hx hb hown (hts (.constantLong RX0 25 (4294967295)) (by decide +kernel)) dX0_divide_29 ?_
        refine lv_land hx hb dX0_divide_32 ?_
        refine xr_tl (x' := lN (x / 2 ^ (32 * i) % 2 ^ 32)) (lw_mask hw) ?_
        refine lv_lor hx hb dX0_divide_33 ?_
        refine xr_tl (x' := lN (x / 2 ^ (32 * (i + 1)) % d * 2 ^ 32 + x / 2 ^ (32 * i) % 2 ^ 32)) (l_or hw (by omega)) ?_
        refine lv_lstore (lv' := [(5, .long (lN (x / 2 ^ (32 * (i + 1)) % d * 2 ^ 32 + x / 2 ^ (32 * i) % 2 ^ 32))), (4, .int (nI i)), (2, .long (lN (x / 2 ^ (32 * (i + 1)) % d))), (0, .ref a), (1, .int (nI d))]) hx hb dX0_divide_34 hl (by decide) rfl (fun ls hl => ?_)
        refine lv_aload_n hx hb dX0_divide_36 rfl (lv_at hl 3 rfl) ?_
        refine va_get (D := g.1) (ci := 0) (v := .ref (a + 1)) (C := RX0) (T := TX0) (N := 1) hx hb hts (by decide +kernel) hown hK.1 (xr_one hO) 0 rfl rfl 0 (by decide) (hts (.fieldLink RX0 9 "SharesDesk$Natural" "words" "[I") (by decide +kernel)) (fun _ h9 => h9) rfl dX0_divide_37 ?_
        refine lv_iload hx hb dX0_divide_40 (lv_at hl 1 rfl) ?_
        refine lv_lload hx hb dX0_divide_42 (lv_at hl 0 rfl) ?_
        refine lv_iload_n hx hb dX0_divide_44 rfl (lv_at hl 4 rfl) ?_
        refine lv_i2l (v := lN d) hx hb dX0_divide_45 (nI_l hd) ?_
        refine lv_ldiv hx hb dX0_divide_46 hdn ?_
        refine xr_tl (x' := lN ((x / 2 ^ (32 * (i + 1)) % d * 2 ^ 32 + x / 2 ^ (32 * i) % 2 ^ 32) / d)) (pk_lDiv hpt hd0 (by omega)) ?_
        refine lv_l2i (v := nI ((x / 2 ^ (32 * (i + 1)) % d * 2 ^ 32 + x / 2 ^ (32 * i) % 2 ^ 32) / d)) hx hb dX0_divide_47 (lN_i _) ?_
        refine xr_wr hx hb hK hS rfl hf (show i < 4 by omega) (by decide) dX0_divide_48 (fun H locs hz hkp hf hS => ?_)
        have hO := hO.kept (hkp a (by omega))
        refine lv_lload hx hb dX0_divide_49 (lv_at hl 0 rfl) ?_
        refine lv_iload_n hx hb dX0_divide_51 rfl (lv_at hl 4 rfl) ?_
        refine lv_i2l (v := lN d) hx hb dX0_divide_52 (nI_l hd) ?_
        refine lv_lrem hx hb dX0_divide_53 hdn ?_
        refine xr_tl (x' := lN ((x / 2 ^ (32 * (i + 1)) % d * 2 ^ 32 + x / 2 ^ (32 * i) % 2 ^ 32) % d)) (pk_lRem hpt hd0 (by omega)) ?_
        refine xr_tl (x' := lN (x / 2 ^ (32 * i) % d)) (by rw [hst.2.1]) ?_
        refine lv_lstore_n (lv' := [(2, .long (lN (x / 2 ^ (32 * i) % d))), (5, .long (lN (x / 2 ^ (32 * (i + 1)) % d * 2 ^ 32 + x / 2 ^ (32 * i) % 2 ^ 32))), (4, .int (nI i)), (0, .ref a), (1, .int (nI d))]) hx hb dX0_divide_54 rfl hl (by decide) rfl (fun ls hl => ?_)
        refine lv_iinc (v := nI i - 1) (lv' := [(4, .int (nI i - 1)), (2, .long (lN (x / 2 ^ (32 * i) % d))), (5, .long (lN (x / 2 ^ (32 * (i + 1)) % d * 2 ^ 32 + x / 2 ^ (32 * i) % 2 ^ 32))), (0, .ref a), (1, .int (nI d))]) hx hb dX0_divide_55 hl (k := 2) rfl (Int32.sub_eq_add_neg (a := nI i) (b := 1)).symm (by decide) rfl (fun ls hl => ?_)
        refine lv_goto (tgt := 12) hx hb dX0_divide_58 (by decide) ?_
        exact ih (by omega) H locs _ hO hf (wd_dn hfe (by rw [hst.1, Nat.mod_eq_of_lt hst.2.2])) hS ls (lv_sub hl [0, 1, 3, 4] rfl)
  refine lv_iload_n hx hb dX0_divide_0 rfl (lv_at hl 1 rfl) ?_
  refine lv_iconst (v := 1) hx hb dX0_divide_1 (by decide) ?_
  refine lv_icmp_ge (tgt := 7) hx hb dX0_divide_2 (by decide) (fun hc => ?_) (fun hc => ?_)
  · clear hc
    refine lv_lconst (v := 0) hx hb dX0_divide_7 (by decide) ?_
    refine xr_tl (x' := lN (x / 2 ^ (32 * 4) % d)) (by rw [Nat.div_eq_of_lt hx128, Nat.zero_mod]; rfl) ?_
    refine lv_lstore_n (lv' := [(2, .long (lN (x / 2 ^ (32 * 4) % d))), (0, .ref a), (1, .int (nI d))]) hx hb dX0_divide_8 rfl hl (by decide) rfl (fun ls hl => ?_)
    refine lv_iconst (v := 3) hx hb dX0_divide_9 (by decide) ?_
    refine xr_ti (x' := nI 4 - 1) (by decide) ?_
    refine lv_istore (lv' := [(4, .int (nI 4 - 1)), (2, .long (lN (x / 2 ^ (32 * 4) % d))), (0, .ref a), (1, .int (nI d))]) hx hb dX0_divide_10 hl (by decide) rfl (fun ls hl => ?_)
    exact loop 4 (by omega) s.heap [] (wd x) hO hf (fun j hj => by rw [if_neg (by omega)]) hS ls (lv_sub hl [0, 1, 2, 3] rfl)
  · exact absurd (nI_le (show 1 ≤ d by omega) hd) hc
set_option maxHeartbeats 400000 in
set_option maxRecDepth 100000 in
theorem c_X0_modulo (l : Launch) (g : WG) (H0 : Heap) (a x d : Nat) (hN : NatAt g H0 a x) (hd0 : 0 < d) (hd : d < 2 ^ 31) : Ctr l (KK g) yX0_modulo wsX0_modulo rmZ [.ref a, .int (nI d)] H0 eI (fun r H => r = nI (x % d) ∧ H = H0) (fun _ => False) := by
  refine xr_enter (cc := cX0_modulo) (maxL := 5) (ret := (some .int)) (by decide) rfl (Nat.le_of_ble_eq_true rfl) ?_
  intro p e s m below meth c hx hb hr hml hts hown hlocks hnm hH hK ls hl
  subst hH
  have hl : lv_has ls 5 [(0, .ref a), (1, .int (nI d))] := hl
  have hS : va_S (fun _ => False) s.heap s.heap [] := va_S.rf
  obtain ⟨hO, hf, hx128⟩ := id hN
  have hdn : ¬ lN d = 0 := fun q => by have := (pk_lEQ (a := d) (b := 0) (by omega) (by decide)).mp q; omega
  have loop : ∀ n : Nat, n ≤ 4 → ∀ (H : Heap) (locs : List Loc) (f : Nat → Int32), H = s.heap → obj g H a 0 [.ref (a + 1)] → xr_ia H (a + 1) (gI g) 4 f → (∀ j, j < 4 → f j = wd x j) → va_S (fun _ => False) s.heap H locs → ∀ ls : Array Slot, lv_has ls 5 [(4, .int (nI n - 1)), (2, .long (lN (x / 2 ^ (32 * n) % d))), (0, .ref a), (1, .int (nI d))] → W p l e rmZ s m ([.ref a, .int (nI d)] : List Value).toArray below meth c H locs 0 0 (MQ below (xr_Post eI (fun r H => r = nI (x % d) ∧ H = s.heap) (fun _ => False)) ([.ref a, .int (nI d)] : List Value).toArray s (rmZ : Room).cells (rmZ : Room).slots (fun _ => False)) (F0 m 12 ls []) := by
    intro n
    induction n with
    | zero =>
      intro _ H locs f hHe hO hf hfe hS ls hl
      refine lv_iload hx hb dX0_modulo_12 (lv_at hl 0 rfl) ?_
      refine lv_if_lt (tgt := 44) hx hb dX0_modulo_14 (by decide) (fun hc => ?_) (fun hc => ?_)
      · clear hc
        refine lv_lload_n hx hb dX0_modulo_44 rfl (lv_at hl 1 rfl) ?_
        refine lv_l2i (v := nI (x % d)) hx hb dX0_modulo_45 (by rw [lN_i]; simp) ?_
        exact xr_iret hx hb hr hlocks hS ⟨rfl, hHe⟩ dX0_modulo_46
      · exact absurd (by decide) hc
    | succ i ih =>
      intro h4 H locs f hHe hO hf hfe hS ls hl
      rw [nI_pred] at hl
      have hw : x / 2 ^ (32 * i) % 2 ^ 32 < 2 ^ 32 := Nat.mod_lt _ (by decide)
      have hrd : x / 2 ^ (32 * (i + 1)) % d < d := Nat.mod_lt _ hd0
      have hst := dv_step (x := x) (d := d) (P := 2 ^ (32 * i)) (B := 2 ^ 32) (Nat.two_pow_pos _) (by decide) hd0
      rw [← p32s] at hst
      have hpt : x / 2 ^ (32 * (i + 1)) % d * 2 ^ 32 + x / 2 ^ (32 * i) % 2 ^ 32 < 2 ^ 63 := by omega
      refine lv_iload hx hb dX0_modulo_12 (lv_at hl 0 rfl) ?_
      refine lv_if_lt (tgt := 44) hx hb dX0_modulo_14 (by decide) (fun hc => ?_) (fun hc => ?_)
      · exact absurd hc (nI_pos (by omega))
      · clear hc
        refine lv_lload_n hx hb dX0_modulo_17 rfl (lv_at hl 1 rfl) ?_
        refine lv_bipush (v := 32) hx hb dX0_modulo_18 (by decide) ?_
        refine lv_lshl (v := lN (x / 2 ^ (32 * (i + 1)) % d * 2 ^ 32)) hx hb dX0_modulo_20 l_shl ?_
        refine lv_aload_n hx hb dX0_modulo_21 rfl (lv_at hl 2 rfl) ?_
        refine va_get (D := g.1) (ci := 0) (v := .ref (a + 1)) (C := RX0) (T := TX0) (N := 1) hx hb hts (by decide +kernel) hown hK.1 (xr_one hO) 0 rfl rfl 0 (by decide) (hts (.fieldLink RX0 9 "SharesDesk$Natural" "words" "[I") (by decide +kernel)) (fun _ h9 => h9) rfl dX0_modulo_22 ?_
        refine lv_iload hx hb dX0_modulo_25 (lv_at hl 0 rfl) ?_
        refine xr_rd hx hb hK hf (by omega) (by decide) dX0_modulo_27 ?_
        refine xr_ti (x' := nI (x / 2 ^ (32 * i) % 2 ^ 32)) (by rw [hfe i (by omega)]; rfl) ?_
        refine lv_i2l (v := (nI (x / 2 ^ (32 * i) % 2 ^ 32)).toInt64) hx hb dX0_modulo_28 rfl ?_
        refine lv_ldc2 (v := (4294967295)) hx hb hown (hts (.constantLong RX0 25 (4294967295)) (by decide +kernel)) dX0_modulo_29 ?_
        refine lv_land hx hb dX0_modulo_32 ?_
        refine xr_tl (x' := lN (x / 2 ^ (32 * i) % 2 ^ 32)) (lw_mask hw) ?_
        refine lv_lor hx hb dX0_modulo_33 ?_
        refine xr_tl (x' := lN (x / 2 ^ (32 * (i + 1)) % d * 2 ^ 32 + x / 2 ^ (32 * i) % 2 ^ 32)) (l_or hw (by omega)) ?_
        refine lv_iload_n hx hb dX0_modulo_34 rfl (lv_at hl 3 rfl) ?_
        refine lv_i2l (v := lN d) hx hb dX0_modulo_35 (nI_l hd) ?_
        refine lv_lrem hx hb dX0_modulo_36 hdn ?_
        refine xr_tl (x' := lN ((x / 2 ^ (32 * (i + 1)) % d * 2 ^ 32 + x / 2 ^ (32 * i) % 2 ^ 32) % d)) (pk_lRem hpt hd0 (by omega)) ?_
        refine xr_tl (x' := lN (x / 2 ^ (32 * i) % d)) (by rw [hst.2.1]) ?_
        refine lv_lstore_n (lv' := [(2, .long (lN (x / 2 ^ (32 * i) % d))), (4, .int (nI i)), (0, .ref a), (1, .int (nI d))]) hx hb dX0_modulo_37 rfl hl (by decide) rfl (fun ls hl => ?_)
        refine lv_iinc (v := nI i - 1) (lv' := [(4, .int (nI i - 1)), (2, .long (lN (x / 2 ^ (32 * i) % d))), (0, .ref a), (1, .int (nI d))]) hx hb dX0_modulo_38 hl (k := 1) rfl (Int32.sub_eq_add_neg (a := nI i) (b := 1)).symm (by decide) rfl (fun ls hl => ?_)
        refine lv_goto (tgt := 12) hx hb dX0_modulo_41 (by decide) ?_
        exact ih (by omega) H locs _ hHe hO hf hfe hS ls (lv_sub hl [0, 1, 2, 3] rfl)
  refine lv_iload_n hx hb dX0_modulo_0 rfl (lv_at hl 1 rfl) ?_
  refine lv_iconst (v := 1) hx hb dX0_modulo_1 (by decide) ?_
  refine lv_icmp_ge (tgt := 7) hx hb dX0_modulo_2 (by decide) (fun hc => ?_) (fun hc => ?_)
  · clear hc
    refine lv_lconst (v := 0) hx hb dX0_modulo_7 (by decide) ?_
    refine xr_tl (x' := lN (x / 2 ^ (32 * 4) % d)) (by rw [Nat.div_eq_of_lt hx128, Nat.zero_mod]; rfl) ?_
    refine lv_lstore_n (lv' := [(2, .long (lN (x / 2 ^ (32 * 4) % d))), (0, .ref a), (1, .int (nI d))]) hx hb dX0_modulo_8 rfl hl (by decide) rfl (fun ls hl => ?_)
    refine lv_iconst (v := 3) hx hb dX0_modulo_9 (by decide) ?_
    refine xr_ti (x' := nI 4 - 1) (by decide) ?_
    refine lv_istore (lv' := [(4, .int (nI 4 - 1)), (2, .long (lN (x / 2 ^ (32 * 4) % d))), (0, .ref a), (1, .int (nI d))]) hx hb dX0_modulo_10 hl (by decide) rfl (fun ls hl => ?_)
    exact loop 4 (by omega) s.heap [] (wd x) rfl hO hf (fun j hj => rfl) hS ls (lv_sub hl [0, 1, 2, 3] rfl)
  · exact absurd (nI_le (show 1 ≤ d by omega) hd) hc
set_option maxHeartbeats 400000 in
set_option maxRecDepth 100000 in
theorem c_J7_fill_53178 (l : Launch) (g : WG) (H0 : Heap) (a n : Nat) (v : Int32) (f0 : Nat → Int32) (hf : xr_ia H0 a (gI g) n f0) (hn : n < 2 ^ 31) : Ctr l (KK g) yJ7_fill_53178 wsJ7_fill_53178 rmZ [.ref a, .int v] H0 eV (fun _ H => xr_ia H a (gI g) n (fun _ => v)) (fun q => q = a) := by
  refine xr_enter (cc := cJ7_fill_53178) (maxL := 4) (ret := none) (by decide) rfl (Nat.le_of_ble_eq_true rfl) ?_
  intro p e s m below meth c hx hb hr hml hts hown hlocks hnm hH hK ls hl
  subst hH
  have hl : lv_has ls 4 [(0, .ref a), (1, .int v)] := hl
  have hS : va_S (fun q => q = a) s.heap s.heap [] := va_S.rf
  have loop : ∀ (k i : Nat), i ≤ n → n < i + k → ∀ (H : Heap) (locs : List Loc) (f : Nat → Int32), xr_ia H a (gI g) n f → (∀ j, j < i → f j = v) → va_S (fun q => q = a) s.heap H locs → ∀ ls : Array Slot, lv_has ls 4 [(2, .int (nI i)), (3, .int (nI n)), (0, .ref a), (1, .int v)] → W p l e rmZ s m ([.ref a, .int v] : List Value).toArray below meth c H locs 0 0 (MQ below (xr_Post eV (fun _ H => xr_ia H a (gI g) n (fun _ => v)) (fun q => q = a)) ([.ref a, .int v] : List Value).toArray s (rmZ : Room).cells (rmZ : Room).slots (fun q => q = a)) (F0 m 5 ls []) := by
    intro k
    induction k with
    | zero => intro i h1 h2; exact absurd h2 (by omega)
    | succ k ih =>
      intro i h1 h2 H locs f hf hfe hS ls hl
      refine lv_iload_n hx hb dJ7_fill_53178_5 rfl (lv_at hl 0 rfl) ?_
      refine lv_iload_n hx hb dJ7_fill_53178_6 rfl (lv_at hl 1 rfl) ?_
      refine lv_icmp_ge (tgt := 20) hx hb dJ7_fill_53178_7 (by decide) (fun hc => ?_) (fun hc => ?_)
      · have e4 : i = n := by have := (nI_leI hn (by omega)).mp hc; omega
        subst e4
        exact xr_vret hx hb hr hlocks hS (hf.to hfe) dJ7_fill_53178_20
      · have h4 : i < n := Nat.lt_of_not_le fun h => hc (nI_le h (by omega))
        refine lv_aload_n hx hb dJ7_fill_53178_10 rfl (lv_at hl 2 rfl) ?_
        refine lv_iload_n hx hb dJ7_fill_53178_11 rfl (lv_at hl 0 rfl) ?_
        refine lv_iload_n hx hb dJ7_fill_53178_12 rfl (lv_at hl 3 rfl) ?_
        refine xr_wr hx hb hK hS rfl hf h4 hn dJ7_fill_53178_13 (fun H locs hz hkp hf hS => ?_)
        refine lv_iinc (v := nI (i + 1)) (lv' := [(2, .int (nI (i + 1))), (3, .int (nI n)), (0, .ref a), (1, .int v)]) hx hb dJ7_fill_53178_14 hl (k := 0) rfl (nI_1 i) (by decide) rfl (fun ls hl => ?_)
        refine lv_goto (tgt := 5) hx hb dJ7_fill_53178_17 (by decide) ?_
        exact ih (i + 1) (by omega) (by omega) H locs _ hf (fun j hj => if e : j = i then by rw [e, upd_at] else by rw [upd_ne e, hfe j (by omega)]) hS ls (lv_sub hl [0, 1, 2, 3] rfl)
  refine lv_iconst (v := 0) hx hb dJ7_fill_53178_0 (by decide) ?_
  refine xr_ti (x' := nI 0) rfl ?_
  refine lv_istore_n (lv' := [(2, .int (nI 0)), (0, .ref a), (1, .int v)]) hx hb dJ7_fill_53178_1 rfl hl (by decide) rfl (fun ls hl => ?_)
  refine lv_aload_n hx hb dJ7_fill_53178_2 rfl (lv_at hl 1 rfl) ?_
  refine xr_alen hx hb hK.1 hf 0 rfl dJ7_fill_53178_3 ?_
  refine lv_istore_n (lv' := [(3, .int (nI n)), (2, .int (nI 0)), (0, .ref a), (1, .int v)]) hx hb dJ7_fill_53178_4 rfl hl (by decide) rfl (fun ls hl => ?_)
  exact loop (n + 1) 0 (by omega) (by omega) s.heap [] f0 hf (fun j hj => absurd hj (Nat.not_lt_zero j)) hS ls (lv_sub hl [1, 0, 2, 3] rfl)
set_option maxHeartbeats 400000 in
set_option maxRecDepth 100000 in
theorem c_X0_set (l : Launch) (g : WG) (H0 : Heap) (a x k : Nat) (hN : NatAt g H0 a x) (hk : k < 2 ^ 31) : Ctr l (KK g) yX0_set wsX0_set { frames := 1, cells := 0, slots := 0, locals := 23 } [.ref a, .int (nI k)] H0 eV (fun _ H => NatAt g H a k) (fun q => q = a + 1) := by
  refine xr_enter (cc := cX0_set) (maxL := 2) (ret := none) (by decide) rfl (Nat.le_of_ble_eq_true rfl) ?_
  intro p e s m below meth c hx hb hr hml hts hown hlocks hnm hH hK ls hl
  subst hH
  have hl : lv_has ls 2 [(0, .ref a), (1, .int (nI k))] := hl
  have hS : va_S (fun q => q = a + 1) s.heap s.heap [] := va_S.rf
  obtain ⟨hO, hf, hx128⟩ := id hN
  refine lv_aload_n hx hb dX0_set_0 rfl (lv_at hl 0 rfl) ?_
  refine va_get (D := g.1) (ci := 0) (v := .ref (a + 1)) (C := RX0) (T := TX0) (N := 1) hx hb hts (by decide +kernel) hown hK.1 (xr_one hO) 0 rfl rfl 0 (by decide) (hts (.fieldLink RX0 9 "SharesDesk$Natural" "words" "[I") (by decide +kernel)) (fun _ h9 => h9) rfl dX0_set_1 ?_
  refine lv_iconst (v := 0) hx hb dX0_set_4 (by decide) ?_
  refine xr_Sv (rest := []) ⟨hx, hb, hml, hown, hts⟩ (KK_ok g) hK (c_J7_fill_53178 l g s.heap (a + 1) 4 0 (wd x) hf (by decide)) (va_cwS 2 hts gX0_set_J7_fill_53178 rfl rfl rfl (by decide +kernel) ⟨Nat.le_of_ble_eq_true rfl, Nat.le_of_ble_eq_true rfl⟩) rfl hl.1 rfl (Nat.le_of_ble_eq_true rfl) dX0_set_5 ⟨Nat.le_of_ble_eq_true rfl, Nat.le_of_ble_eq_true rfl⟩ hS (fun q h => h) (fun _ H locs hq hz hkp hS => ?_)
  have hO := hO.kept (hkp a hO.lt (by show ¬ a = a + 1; omega))
  have hf : xr_ia H (a + 1) (gI g) 4 (fun _ => 0) := hq
  refine lv_aload_n hx hb dX0_set_8 rfl (lv_at hl 0 rfl) ?_
  refine va_get (D := g.1) (ci := 0) (v := .ref (a + 1)) (C := RX0) (T := TX0) (N := 1) hx hb hts (by decide +kernel) hown hK.1 (xr_one hO) 0 rfl rfl 0 (by decide) (hts (.fieldLink RX0 9 "SharesDesk$Natural" "words" "[I") (by decide +kernel)) (fun _ h9 => h9) rfl dX0_set_9 ?_
  refine lv_iconst (v := 0) hx hb dX0_set_12 (by decide) ?_
  refine lv_iload_n hx hb dX0_set_13 rfl (lv_at hl 1 rfl) ?_
  refine xr_wr (i := 0) hx hb hK hS rfl hf (by decide) (by decide) dX0_set_14 (fun H locs hz hkp hf hS => ?_)
  exact xr_vret hx hb hr hlocks hS (hN.put (hS.2.1 a hN.1.lt (by show ¬ a = a + 1; omega)) hf (fun j hj => wd_small (by omega) j) (by omega)) dX0_set_15
set_option maxHeartbeats 400000 in
set_option maxRecDepth 100000 in
theorem c_X0_copy (l : Launch) (g : WG) (H0 : Heap) (a b x y : Nat) (hN : NatAt g H0 a x) (hM : NatAt g H0 b y) (hab : a ≠ b) : Ctr l (KK g) yX0_copy wsX0_copy { frames := 1, cells := 0, slots := 0, locals := 40 } [.ref a, .ref b] H0 eV (fun _ H => NatAt g H a y) (fun q => q = a + 1) := by
  refine xr_enter (cc := cX0_copy) (maxL := 2) (ret := none) (by decide) rfl (Nat.le_of_ble_eq_true rfl) ?_
  intro p e s m below meth c hx hb hr hml hts hown hlocks hnm hH hK ls hl
  subst hH
  have hl : lv_has ls 2 [(0, .ref a), (1, .ref b)] := hl
  have hS : va_S (fun q => q = a + 1) s.heap s.heap [] := va_S.rf
  obtain ⟨hO, hf, hx128⟩ := id hN
  obtain ⟨hO2, hf2, hy128⟩ := hM
  refine lv_aload_n hx hb dX0_copy_0 rfl (lv_at hl 1 rfl) ?_
  refine va_get (D := g.1) (ci := 0) (v := .ref (b + 1)) (C := RX0) (T := TX0) (N := 1) hx hb hts (by decide +kernel) hown hK.1 (xr_one hO2) 0 rfl rfl 0 (by decide) (hts (.fieldLink RX0 9 "SharesDesk$Natural" "words" "[I") (by decide +kernel)) (fun _ h9 => h9) rfl dX0_copy_1 ?_
  refine lv_iconst (v := 0) hx hb dX0_copy_4 (by decide) ?_
  refine lv_aload_n hx hb dX0_copy_5 rfl (lv_at hl 0 rfl) ?_
  refine va_get (D := g.1) (ci := 0) (v := .ref (a + 1)) (C := RX0) (T := TX0) (N := 1) hx hb hts (by decide +kernel) hown hK.1 (xr_one hO) 0 rfl rfl 0 (by decide) (hts (.fieldLink RX0 9 "SharesDesk$Natural" "words" "[I") (by decide +kernel)) (fun _ h9 => h9) rfl dX0_copy_6 ?_
  refine lv_iconst (v := 0) hx hb dX0_copy_9 (by decide) ?_
  refine lv_iconst (v := 4) hx hb dX0_copy_10 (by decide) ?_
  refine xr_ti (x' := nI 4) rfl ?_
  refine xr_cpy hx hb (hml.trans hl.1.symm) hown (hts (.methodLink RX0 19 arraycopyName) (by decide +kernel)) (hts (.native arraycopyName) (by decide +kernel)) (hts (.static arraycopyName) (by decide +kernel)) (hts (.initialized "java/lang/System") (by decide +kernel)) hK hS rfl hf2 hf (by decide) (by decide) (by decide) (Nat.le_of_ble_eq_true rfl) (by decide +kernel) dX0_copy_11 (fun H locs hz hkp hf hS => ?_)
  exact xr_vret hx hb hr hlocks hS (hN.put (hS.2.1 a hN.1.lt (by show ¬ a = a + 1; omega)) hf (fun j hj => if_pos hj) hy128) dX0_copy_14
