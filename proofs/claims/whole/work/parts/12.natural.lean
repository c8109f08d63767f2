set_option maxHeartbeats 4000000 in
set_option maxRecDepth 100000 in
/-- times: the product -/
theorem c_X0_times (l : Launch) (g : WG) (H0 : Heap) (a x k : Nat) (hN : NatAt g H0 a x) (hk : k < 2 ^ 31) (hxk : x * k < 2 ^ 128) : Ctr l (KK g) yX0_times wsX0_times rmZ [.ref a, .int (nI k)] H0 eV (fun _ H => NatAt g H a (x * k)) (fun q => q = a + 1) := by
  refine xr_enter (cc := cX0_times) (maxL := 7) (ret := none) (by decide) rfl (Nat.le_of_ble_eq_true rfl) ?_
  intro p e s m below meth c hx hb hr hml hts hown hlocks hnm hH hK ls hl
  subst hH
  have hl : lv_has ls 7 [(0, .ref a), (1, .int (nI k))] := hl
  have hS : va_S (fun q => q = a + 1) s.heap s.heap [] := va_S.rf
  obtain ⟨hO, hf, hx128⟩ := id hN
  have loop : ∀ (n i : Nat), i ≤ 4 → 4 < i + n → ∀ (H : Heap) (locs : List Loc) (f : Nat → Int32), obj g H a 0 [.ref (a + 1)] → xr_ia H (a + 1) (gI g) 4 f → (∀ j, j < 4 → f j = if j < i then wd (x * k) j else wd x j) → va_S (fun q => q = a + 1) s.heap H locs → ∀ ls : Array Slot, lv_has ls 7 [(4, .int (nI i)), (2, .long (lN (x % 2 ^ (32 * i) * k / 2 ^ (32 * i)))), (0, .ref a), (1, .int (nI k))] → W p l e rmZ s m ([.ref a, .int (nI k)] : List Value).toArray below meth c H locs 0 0 (MQ below (xr_Post eV (fun _ H => NatAt g H a (x * k)) (fun q => q = a + 1)) ([.ref a, .int (nI k)] : List Value).toArray s (rmZ : Room).cells (rmZ : Room).slots (fun q => q = a + 1)) (F0 m 5 ls []) := by
    intro n
    induction n with
    | zero => intro i h1 h2; exact absurd h2 (by omega)
    | succ n ih =>
      intro i h1 h2 H locs f hO hf hfe hS ls hl
      refine lv_iload hx hb dX0_times_5 (lv_at hl 0 rfl) ?_
      refine lv_iconst (v := 4) hx hb dX0_times_7 (by decide) ?_
      refine lv_icmp_ge (tgt := 52) hx hb dX0_times_8 (by decide) (fun hc => ?_) (fun hc => ?_)
      · have e4 : 4 ≤ i := (nI_leI (by decide) (by omega)).mp hc
        have e4 : i = 4 := by omega
        subst e4
        exact xr_vret hx hb hr hlocks hS (hN.put (hS.2.1 a hN.1.lt (by show ¬ a = a + 1; omega)) hf (fun j hj => by rw [hfe j hj, if_pos hj]) hxk) dX0_times_52
      · have h4 : i < 4 := Nat.lt_of_not_le fun h => hc (nI_le h (by omega))
        have hw : x / 2 ^ (32 * i) % 2 ^ 32 < 2 ^ 32 := Nat.mod_lt _ (by decide)
        have hst := tm_step (x := x) (k := k) (P := 2 ^ (32 * i)) (B := 2 ^ 32) (Nat.two_pow_pos _) (by decide)
        have hbd : x / 2 ^ (32 * i) % 2 ^ 32 * k + x % 2 ^ (32 * i) * k / 2 ^ (32 * i) < 2 ^ 63 := tm_bd hw hk (tm_le (Nat.two_pow_pos _))
        refine lv_aload_n hx hb dX0_times_11 rfl (lv_at hl 2 rfl) ?_
        refine va_get (D := g.1) (ci := 0) (v := .ref (a + 1)) (C := RX0) (T := TX0) (N := 1) hx hb hts (by decide +kernel) hown hK.1 (xr_one hO) 0 rfl rfl 0 (by decide) (hts (.fieldLink RX0 9 "SharesDesk$Natural" "words" "[I") (by decide +kernel)) (fun _ h9 => h9) rfl dX0_times_12 ?_
        refine lv_iload hx hb dX0_times_15 (lv_at hl 0 rfl) ?_
        refine xr_rd hx hb hK hf h4 (by decide) dX0_times_17 ?_
        refine xr_ti (x' := nI (x / 2 ^ (32 * i) % 2 ^ 32)) (by rw [hfe i h4, if_neg (Nat.lt_irrefl i)]; rfl) ?_
        refine lv_i2l (v := (nI (x / 2 ^ (32 * i) % 2 ^ 32)).toInt64) hx hb dX0_times_18 rfl ?_
        refine lv_ldc2 (v := (4294967295)) hx hb hown (hts (.constantLong RX0 25 (4294967295)) (by decide +kernel)) dX0_times_19 ?_
        refine lv_land hx hb dX0_times_22 ?_
        refine xr_tl (x' := lN (x / 2 ^ (32 * i) % 2 ^ 32)) (lw_mask hw) ?_
        refine lv_iload_n hx hb dX0_times_23 rfl (lv_at hl 3 rfl) ?_
        refine lv_i2l (v := lN k) hx hb dX0_times_24 (nI_l hk) ?_
        refine lv_lmul hx hb dX0_times_25 ?_
        refine xr_tl (x' := lN (x / 2 ^ (32 * i) % 2 ^ 32 * k)) (lN_mul _ _) ?_
        refine lv_lload_n hx hb dX0_times_26 rfl (lv_at hl 1 rfl) ?_
        refine lv_ladd hx hb dX0_times_27 ?_
        refine xr_tl (x' := lN (x / 2 ^ (32 * i) % 2 ^ 32 * k + x % 2 ^ (32 * i) * k / 2 ^ (32 * i))) (lN_add _ _) ?_
        refine lv_lstore (lv' := [(5, .long (lN (x / 2 ^ (32 * i) % 2 ^ 32 * k + x % 2 ^ (32 * i) * k / 2 ^ (32 * i)))), (4, .int (nI i)), (2, .long (lN (x % 2 ^ (32 * i) * k / 2 ^ (32 * i)))), (0, .ref a), (1, .int (nI k))]) hx hb dX0_times_28 hl (by decide) rfl (fun ls hl => ?_)
        refine lv_aload_n hx hb dX0_times_30 rfl (lv_at hl 3 rfl) ?_
        refine va_get (D := g.1) (ci := 0) (v := .ref (a + 1)) (C := RX0) (T := TX0) (N := 1) hx hb hts (by decide +kernel) hown hK.1 (xr_one hO) 0 rfl rfl 0 (by decide) (hts (.fieldLink RX0 9 "SharesDesk$Natural" "words" "[I") (by decide +kernel)) (fun _ h9 => h9) rfl dX0_times_31 ?_
        refine lv_iload hx hb dX0_times_34 (lv_at hl 1 rfl) ?_
        refine lv_lload hx hb dX0_times_36 (lv_at hl 0 rfl) ?_
        refine lv_l2i (v := nI (x / 2 ^ (32 * i) % 2 ^ 32 * k + x % 2 ^ (32 * i) * k / 2 ^ (32 * i))) hx hb dX0_times_38 (lN_i _) ?_
        refine xr_wr hx hb hK hS rfl hf h4 (by decide) dX0_times_39 (fun H locs hz hkp hf hS => ?_)
        have hO := hO.kept (hkp a (by omega))
        refine lv_lload hx hb dX0_times_40 (lv_at hl 0 rfl) ?_
        refine lv_bipush (v := 32) hx hb dX0_times_42 (by decide) ?_
        refine lv_lushr (v := lN ((x / 2 ^ (32 * i) % 2 ^ 32 * k + x % 2 ^ (32 * i) * k / 2 ^ (32 * i)) / 2 ^ 32)) hx hb dX0_times_44 (l_sh (k := 32) (by decide) rfl (by omega)) ?_
        refine xr_tl (x' := lN (x % 2 ^ (32 * (i + 1)) * k / 2 ^ (32 * (i + 1)))) (by rw [p32s, hst.2]) ?_
        refine lv_lstore_n (lv' := [(2, .long (lN (x % 2 ^ (32 * (i + 1)) * k / 2 ^ (32 * (i + 1))))), (5, .long (lN (x / 2 ^ (32 * i) % 2 ^ 32 * k + x % 2 ^ (32 * i) * k / 2 ^ (32 * i)))), (4, .int (nI i)), (0, .ref a), (1, .int (nI k))]) hx hb dX0_times_45 rfl hl (by decide) rfl (fun ls hl => ?_)
        refine lv_iinc (v := nI (i + 1)) (lv' := [(4, .int (nI (i + 1))), (2, .long (lN (x % 2 ^ (32 * (i + 1)) * k / 2 ^ (32 * (i + 1))))), (5, .long (lN (x / 2 ^ (32 * i) % 2 ^ 32 * k + x % 2 ^ (32 * i) * k / 2 ^ (32 * i)))), (0, .ref a), (1, .int (nI k))]) hx hb dX0_times_46 hl (k := 2) rfl (nI_1 i) (by decide) rfl (fun ls hl => ?_)
        refine lv_goto (tgt := 5) hx hb dX0_times_49 (by decide) ?_
        exact ih (i + 1) (by omega) (by omega) H locs _ hO hf (wd_up hfe hst.1.symm) hS ls (lv_sub hl [0, 1, 3, 4] rfl)
  refine lv_lconst (v := 0) hx hb dX0_times_0 (by decide) ?_
  refine xr_tl (x' := lN (x % 2 ^ (32 * 0) * k / 2 ^ (32 * 0))) (by simp [Nat.mod_one, lN]) ?_
  refine lv_lstore_n (lv' := [(2, .long (lN (x % 2 ^ (32 * 0) * k / 2 ^ (32 * 0)))), (0, .ref a), (1, .int (nI k))]) hx hb dX0_times_1 rfl hl (by decide) rfl (fun ls hl => ?_)
  refine lv_iconst (v := 0) hx hb dX0_times_2 (by decide) ?_
  refine xr_ti (x' := nI 0) rfl ?_
  refine lv_istore (lv' := [(4, .int (nI 0)), (2, .long (lN (x % 2 ^ (32 * 0) * k / 2 ^ (32 * 0)))), (0, .ref a), (1, .int (nI k))]) hx hb dX0_times_3 hl (by decide) rfl (fun ls hl => ?_)
  exact loop 5 0 (by omega) (by omega) s.heap [] (wd x) hO hf (fun j hj => by rw [if_neg (Nat.not_lt_zero j)]) hS ls (lv_sub hl [0, 1, 2, 3] rfl)
