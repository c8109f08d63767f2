set_option maxHeartbeats 400000 in
set_option maxRecDepth 100000 in
theorem c_X7_word (l : Launch) (g : WG) (H0 : Heap) (b : Nat) (th bu ob cn rn py ln : Int32) (hO : obj g H0 b 7 (moF b th bu ob cn rn py ln)) (Rw : Nat → Nat) (hM : RwsAt g H0 b Rw) (a d : Nat) (ha : a < 852) (hd : d < 852) (h0 : 0 < Rw d) (ha1 : Rw a < 2 ^ 128) (hd1 : Rw d < 2 ^ 128) (pt : Int32) (hpt : pt = 0 ∨ pt = 1) (j : Nat) (hj : j < 2 ^ 31) : Ctr l (KK g) yX7_word wsX7_word { frames := 4, cells := 0, slots := 0, locals := 92 } [.ref b, .int (nI a), .int (nI d), .int pt, .int (nI j)] H0 eI (fun r H => r = wQ (Rw a) (Rw d) pt (nI j) ∧ ∃ R1 : Nat → Nat, RwsAt g H b R1 ∧ ∀ j, j < 852 ∨ 857 < j → R1 j = Rw j) (fun q => q = b + 1) := by
  refine xr_enter (cc := cX7_word) (maxL := 6) (ret := (some .int)) (by decide) rfl (Nat.le_of_ble_eq_true rfl) ?_
  intro pgm env s mid below meth cde hx hb hr hml hts hown hlocks hnm hH hK ls hl
  subst hH
  have hl : lv_has ls 6 [(0, .ref b), (1, .int (nI a)), (2, .int (nI d)), (3, .int pt), (4, .int (nI j))] := hl
  have hS : va_S (fun q => q = b + 1) s.heap s.heap [] := va_S.rf
  obtain ⟨hf, hRb⟩ := id hM
  have t1 : Rw a / Nat.gcd (Rw a) (Rw d) < 2 ^ 128 := Nat.lt_of_le_of_lt (Nat.div_le_self _ _) ha1
  have t2 : Rw d / Nat.gcd (Rw a) (Rw d) < 2 ^ 128 := Nat.lt_of_le_of_lt (Nat.div_le_self _ _) hd1
  have hres : wQ (Rw a) (Rw d) pt (nI j) = wd (if pt = 0 then Rw a / Nat.gcd (Rw a) (Rw d) else Rw d / Nat.gcd (Rw a) (Rw d)) j := rwd_j t1 t2 hj hpt
  refine lv_iload hx hb dX7_word_0 (lv_at hl 4 rfl) ?_
  refine lv_iconst (v := 5) hx hb dX7_word_2 (by decide) ?_
  refine xr_ti (x' := nI 5) rfl ?_
  refine lv_icmp_le (tgt := 8) hx hb dX7_word_3 (by decide) (fun h05 => ?_) (fun h05 => ?_)
  · have h1 : j ≤ 5 := (nI_leI hj (by decide)).mp h05
    refine lv_aload_n hx hb dX7_word_8 rfl (lv_at hl 0 rfl) ?_
    refine lv_iload_n hx hb dX7_word_9 rfl (lv_at hl 1 rfl) ?_
    refine lv_iload_n hx hb dX7_word_10 rfl (lv_at hl 2 rfl) ?_
    refine xr_Vv (rest := []) ⟨hx, hb, hml, hown, hts⟩ (KK_ok g) hK (c_X7_reduce l g s.heap b th bu ob cn rn py ln hO Rw hM a d ha hd h0 (by omega) (by omega)) (cwV 2 hts gX7_word_X7_reduce rfl rfl rfl (by decide +kernel) ⟨Nat.le_of_ble_eq_true rfl, Nat.le_of_ble_eq_true rfl⟩) (xr_rec hK hO rfl) rfl hl.1 rfl (Nat.le_of_ble_eq_true rfl) dX7_word_11 ⟨Nat.le_of_ble_eq_true rfl, Nat.le_of_ble_eq_true rfl⟩ hS (fun q h => h) (fun _ H locs hq hz hkp hS => ?_)
    replace hkp := fun (q : Nat) h1 (h2 : ¬ (q = b + 1)) => hkp q h1 h2
    replace hO := hO.kept (hkp _ hO.lt (by omega))
    obtain ⟨R1, hM1, e1, e2, e3⟩ := hq
    obtain ⟨hf, -⟩ := id hM1
    refine lv_iload_n hx hb dX7_word_14 rfl (lv_at hl 3 rfl) ?_
    refine lv_if_ne (tgt := 24) hx hb dX7_word_15 (by decide) (fun h2 => ?_) (fun h2 => ?_)
    · have h3 : ¬ pt = 0 := fun q => h2 q
      refine lv_sipush (v := 853) hx hb dX7_word_24 (by decide) ?_
      refine xr_ti (x' := nI 853) rfl ?_
      refine lv_istore (lv' := [(5, .int (nI 853)), (0, .ref b), (1, .int (nI a)), (2, .int (nI d)), (3, .int pt), (4, .int (nI j))]) hx hb dX7_word_27 hl (by decide) rfl (fun ls hl => ?_)
      have l1 := lb_lt (R1 853) (2 * j)
      have l2 := lb_lt (R1 853) (2 * j + 1)
      refine lv_aload_n hx hb dX7_word_29 rfl (lv_at hl 1 rfl) ?_
      refine va_get (D := g.1) (ci := 7) (v := .ref (b + 1)) (C := RX7) (T := TX7) (N := 18) hx hb hts (by decide +kernel) hown hK.1 (xr_one hO) 0 rfl rfl 1 (by decide) (hts (.fieldLink RX7 7 "SharesDeskModel" "m" "[I") (by decide +kernel)) (fun _ h9 => h9) rfl dX7_word_30 ?_
      refine lv_bipush (v := 12) hx hb dX7_word_33 (by decide) ?_
      refine xr_ti (x' := nI 12) rfl ?_
      refine lv_iload hx hb dX7_word_35 (lv_at hl 0 rfl) ?_
      refine lv_imul hx hb dX7_word_37 ?_
      refine xr_ti (x' := nI (12 * 853)) (pk_mul _ _) ?_
      refine lv_iconst (v := 2) hx hb dX7_word_38 (by decide) ?_
      refine xr_ti (x' := nI 2) rfl ?_
      refine lv_iload hx hb dX7_word_39 (lv_at hl 5 rfl) ?_
      refine lv_imul hx hb dX7_word_41 ?_
      refine xr_ti (x' := nI (2 * j)) (pk_mul _ _) ?_
      refine lv_iadd hx hb dX7_word_42 ?_
      refine xr_ti (x' := nI (12 * 853 + 2 * j)) (nI_add _ _) ?_
      refine xr_rd hx hb hK hf (show 12 * 853 + 2 * j < 10320 by omega) (by decide) dX7_word_43 ?_
      refine xr_ti (x' := nI (lb (R1 853) (2 * j))) (rw_at (by omega)) ?_
      refine lv_aload_n hx hb dX7_word_44 rfl (lv_at hl 1 rfl) ?_
      refine va_get (D := g.1) (ci := 7) (v := .ref (b + 1)) (C := RX7) (T := TX7) (N := 18) hx hb hts (by decide +kernel) hown hK.1 (xr_one hO) 0 rfl rfl 1 (by decide) (hts (.fieldLink RX7 7 "SharesDeskModel" "m" "[I") (by decide +kernel)) (fun _ h9 => h9) rfl dX7_word_45 ?_
      refine lv_bipush (v := 12) hx hb dX7_word_48 (by decide) ?_
      refine xr_ti (x' := nI 12) rfl ?_
      refine lv_iload hx hb dX7_word_50 (lv_at hl 0 rfl) ?_
      refine lv_imul hx hb dX7_word_52 ?_
      refine xr_ti (x' := nI (12 * 853)) (pk_mul _ _) ?_
      refine lv_iconst (v := 2) hx hb dX7_word_53 (by decide) ?_
      refine xr_ti (x' := nI 2) rfl ?_
      refine lv_iload hx hb dX7_word_54 (lv_at hl 5 rfl) ?_
      refine lv_imul hx hb dX7_word_56 ?_
      refine xr_ti (x' := nI (2 * j)) (pk_mul _ _) ?_
      refine lv_iadd hx hb dX7_word_57 ?_
      refine xr_ti (x' := nI (12 * 853 + 2 * j)) (nI_add _ _) ?_
      refine lv_iconst (v := 1) hx hb dX7_word_58 (by decide) ?_
      refine lv_iadd hx hb dX7_word_59 ?_
      refine xr_ti (x' := nI (12 * 853 + (2 * j + 1))) (nI_1 _) ?_
      refine xr_rd hx hb hK hf (show 12 * 853 + (2 * j + 1) < 10320 by omega) (by decide) dX7_word_60 ?_
      refine xr_ti (x' := nI (lb (R1 853) (2 * j + 1))) (rw_at (by omega)) ?_
      refine lv_bipush (v := 16) hx hb dX7_word_61 (by decide) ?_
      refine xr_ti (x' := nI 16) rfl ?_
      refine lv_ishl hx hb dX7_word_63 ?_
      refine xr_ti (x' := nI (lb (R1 853) (2 * j + 1) * 65536)) (pk_shlN _ 16 (by decide) (by omega)) ?_
      refine lv_ior hx hb dX7_word_64 ?_
      refine xr_ti (x' := wd (R1 853) j) ((i_or16 l1).trans wd_lb) ?_
      exact xr_iret hx hb hr hlocks hS ⟨by rw [hres, if_neg h3, e2], R1, hM1, e3⟩ dX7_word_65
    · have h3 : pt = 0 := h2
      refine lv_sipush (v := 852) hx hb dX7_word_18 (by decide) ?_
      refine xr_ti (x' := nI 852) rfl ?_
      refine lv_goto (tgt := 27) hx hb dX7_word_21 (by decide) ?_
      refine lv_istore (lv' := [(5, .int (nI 852)), (0, .ref b), (1, .int (nI a)), (2, .int (nI d)), (3, .int pt), (4, .int (nI j))]) hx hb dX7_word_27 hl (by decide) rfl (fun ls hl => ?_)
      have l1 := lb_lt (R1 852) (2 * j)
      have l2 := lb_lt (R1 852) (2 * j + 1)
      refine lv_aload_n hx hb dX7_word_29 rfl (lv_at hl 1 rfl) ?_
      refine va_get (D := g.1) (ci := 7) (v := .ref (b + 1)) (C := RX7) (T := TX7) (N := 18) hx hb hts (by decide +kernel) hown hK.1 (xr_one hO) 0 rfl rfl 1 (by decide) (hts (.fieldLink RX7 7 "SharesDeskModel" "m" "[I") (by decide +kernel)) (fun _ h9 => h9) rfl dX7_word_30 ?_
      refine lv_bipush (v := 12) hx hb dX7_word_33 (by decide) ?_
      refine xr_ti (x' := nI 12) rfl ?_
      refine lv_iload hx hb dX7_word_35 (lv_at hl 0 rfl) ?_
      refine lv_imul hx hb dX7_word_37 ?_
      refine xr_ti (x' := nI (12 * 852)) (pk_mul _ _) ?_
      refine lv_iconst (v := 2) hx hb dX7_word_38 (by decide) ?_
      refine xr_ti (x' := nI 2) rfl ?_
      refine lv_iload hx hb dX7_word_39 (lv_at hl 5 rfl) ?_
      refine lv_imul hx hb dX7_word_41 ?_
      refine xr_ti (x' := nI (2 * j)) (pk_mul _ _) ?_
      refine lv_iadd hx hb dX7_word_42 ?_
      refine xr_ti (x' := nI (12 * 852 + 2 * j)) (nI_add _ _) ?_
      refine xr_rd hx hb hK hf (show 12 * 852 + 2 * j < 10320 by omega) (by decide) dX7_word_43 ?_
      refine xr_ti (x' := nI (lb (R1 852) (2 * j))) (rw_at (by omega)) ?_
      refine lv_aload_n hx hb dX7_word_44 rfl (lv_at hl 1 rfl) ?_
      refine va_get (D := g.1) (ci := 7) (v := .ref (b + 1)) (C := RX7) (T := TX7) (N := 18) hx hb hts (by decide +kernel) hown hK.1 (xr_one hO) 0 rfl rfl 1 (by decide) (hts (.fieldLink RX7 7 "SharesDeskModel" "m" "[I") (by decide +kernel)) (fun _ h9 => h9) rfl dX7_word_45 ?_
      refine lv_bipush (v := 12) hx hb dX7_word_48 (by decide) ?_
      refine xr_ti (x' := nI 12) rfl ?_
      refine lv_iload hx hb dX7_word_50 (lv_at hl 0 rfl) ?_
      refine lv_imul hx hb dX7_word_52 ?_
      refine xr_ti (x' := nI (12 * 852)) (pk_mul _ _) ?_
      refine lv_iconst (v := 2) hx hb dX7_word_53 (by decide) ?_
      refine xr_ti (x' := nI 2) rfl ?_
      refine lv_iload hx hb dX7_word_54 (lv_at hl 5 rfl) ?_
      refine lv_imul hx hb dX7_word_56 ?_
      refine xr_ti (x' := nI (2 * j)) (pk_mul _ _) ?_
      refine lv_iadd hx hb dX7_word_57 ?_
      refine xr_ti (x' := nI (12 * 852 + 2 * j)) (nI_add _ _) ?_
      refine lv_iconst (v := 1) hx hb dX7_word_58 (by decide) ?_
      refine lv_iadd hx hb dX7_word_59 ?_
      refine xr_ti (x' := nI (12 * 852 + (2 * j + 1))) (nI_1 _) ?_
      refine xr_rd hx hb hK hf (show 12 * 852 + (2 * j + 1) < 10320 by omega) (by decide) dX7_word_60 ?_
      refine xr_ti (x' := nI (lb (R1 852) (2 * j + 1))) (rw_at (by omega)) ?_
      refine lv_bipush (v := 16) hx hb dX7_word_61 (by decide) ?_
      refine xr_ti (x' := nI 16) rfl ?_
      refine lv_ishl hx hb dX7_word_63 ?_
      refine xr_ti (x' := nI (lb (R1 852) (2 * j + 1) * 65536)) (pk_shlN _ 16 (by decide) (by omega)) ?_
      refine lv_ior hx hb dX7_word_64 ?_
      refine xr_ti (x' := wd (R1 852) j) ((i_or16 l1).trans wd_lb) ?_
      exact xr_iret hx hb hr hlocks hS ⟨by rw [hres, if_pos h3, e1], R1, hM1, e3⟩ dX7_word_65
  · have h1 : 4 ≤ j := by have : ¬ j ≤ 5 := fun q => h05 (nI_le q (by decide)); omega
    refine lv_iconst (v := 0) hx hb dX7_word_6 (by decide) ?_
    exact xr_iret hx hb hr hlocks hS ⟨by rw [hres, wd_hi (by split <;> assumption) h1], Rw, hM, fun _ _ => rfl⟩ dX7_word_7
set_option maxHeartbeats 400000 in
set_option maxRecDepth 100000 in
theorem c_X7_isVoter (l : Launch) (g : WG) (H0 : Heap) (b : Nat) (th bu ob cn rn py ln : Int32) (hO : obj g H0 b 7 (moF b th bu ob cn rn py ln)) (c : Nat → Nat) (vs : Nat) (ap : Nat → Nat) (hOl : OldAt g H0 b c vs ap) (v : Int32) : Ctr l (KK g) yX7_isVoter wsX7_isVoter { frames := 1, cells := 0, slots := 0, locals := 22 } [.ref b, .int v] H0 eI (fun r H => r = b2i (isV vs v) ∧ H = H0) (fun _ => False) := by
  refine xr_enter (cc := cX7_isVoter) (maxL := 2) (ret := (some .boolean)) (by decide) rfl (Nat.le_of_ble_eq_true rfl) ?_
  intro pgm env s mid below meth cde hx hb hr hml hts hown hlocks hnm hH hK ls hl
  subst hH
  have hl : lv_has ls 2 [(0, .ref b), (1, .int v)] := hl
  have hS : va_S (fun _ => False) s.heap s.heap [] := va_S.rf
  obtain ⟨hC, hV, hW, hcb, hab⟩ := id hOl
  refine lv_iload_n hx hb dX7_isVoter_0 rfl (lv_at hl 1 rfl) ?_
  refine lv_iconst (v := 0) hx hb dX7_isVoter_1 (by decide) ?_
  refine lv_bipush (v := 47) hx hb dX7_isVoter_2 (by decide) ?_
  refine xr_Si (rest := []) ⟨hx, hb, hml, hown, hts⟩ (KK_ok g) hK (c_X7_within l g s.heap v 0 47) (cwS 3 hts gX7_isVoter_X7_within rfl rfl rfl (by decide +kernel) ⟨Nat.le_of_ble_eq_true rfl, Nat.le_of_ble_eq_true rfl⟩) rfl hl.1 rfl (Nat.le_of_ble_eq_true rfl) dX7_isVoter_4 ⟨Nat.le_of_ble_eq_true rfl, Nat.le_of_ble_eq_true rfl⟩ hS (fun q h => h.elim) (fun r H locs hq hz hkp hS927 => ?_)
  obtain ⟨rfl, rfl⟩ := hq
  have hS := hS927
  refine xr_ti (x' := b2i (inR v 48)) (congrArg b2i (wi_in rfl)) ?_
  refine lv_if_eq (tgt := 23) hx hb dX7_isVoter_7 (by decide) (fun h0 => ?_) (fun h0 => ?_)
  · have h9 : inR v 48 = false := b2i_0.mp h0
    refine lv_iconst (v := 0) hx hb dX7_isVoter_23 (by decide) ?_
    exact xr_zret hx hb hr rfl hlocks hS ⟨by unfold isV; rw [h9]; rfl, rfl⟩ dX7_isVoter_24
  · have h9 : inR v 48 = true := b2i_n0.mp h0
    obtain ⟨i, hi, rfl⟩ := inR_of h9 (by decide)
    refine lv_aload_n hx hb dX7_isVoter_10 rfl (lv_at hl 0 rfl) ?_
    refine va_get (D := g.1) (ci := 7) (v := .ref (b + 6)) (C := RX7) (T := TX7) (N := 18) hx hb hts (by decide +kernel) hown hK.1 (xr_one hO) 0 rfl rfl 7 (by decide) (hts (.fieldLink RX7 30 "SharesDeskModel" "oldVoters" "[Z") (by decide +kernel)) (fun _ h9 => h9) rfl dX7_isVoter_11 ?_
    refine lv_iload_n hx hb dX7_isVoter_14 rfl (lv_at hl 1 rfl) ?_
    refine xr_zrd hx hb hK hV hi (by decide) dX7_isVoter_15 ?_
    refine lv_if_eq (tgt := 23) hx hb dX7_isVoter_16 (by decide) (fun h1 => ?_) (fun h1 => ?_)
    · have h8 : vs.testBit i = false := b2i_0.mp h1
      refine lv_iconst (v := 0) hx hb dX7_isVoter_23 (by decide) ?_
      exact xr_zret hx hb hr rfl hlocks hS ⟨by unfold isV; rw [h9, ix_nI (by omega), h8]; rfl, rfl⟩ dX7_isVoter_24
    · have h8 : vs.testBit i = true := b2i_n0.mp h1
      refine lv_iconst (v := 1) hx hb dX7_isVoter_19 (by decide) ?_
      refine lv_goto (tgt := 24) hx hb dX7_isVoter_20 (by decide) ?_
      exact xr_zret hx hb hr rfl hlocks hS ⟨by unfold isV; rw [h9, ix_nI (by omega), h8]; rfl, rfl⟩ dX7_isVoter_24
set_option maxHeartbeats 400000 in
set_option maxRecDepth 100000 in
theorem c_X7_roundOf (l : Launch) (g : WG) (H0 : Heap) (b : Nat) (th bu ob cn py ln : Int32) (n : Nat) (hO : obj g H0 b 7 (moF b th bu ob cn (nI (n)) py ln)) (ord : Nat → Nat) (hOr : xr_ia H0 (b + 8) (gI g) 16 (fun z9 => nI (ord z9))) (hn : n ≤ 16) (p : Int32) : Ctr l (KK g) yX7_roundOf wsX7_roundOf { frames := 0, cells := 0, slots := 0, locals := 0 } [.ref b, .int p] H0 eI (fun r H => r = rnd ord n p ∧ H = H0) (fun _ => False) := by
  refine xr_enter (cc := cX7_roundOf) (maxL := 3) (ret := (some .int)) (by decide) rfl (Nat.le_of_ble_eq_true rfl) ?_
  intro pgm env s mid below meth cde hx hb hr hml hts hown hlocks hnm hH hK ls hl
  subst hH
  have hl : lv_has ls 3 [(0, .ref b), (1, .int p)] := hl
  have hS : va_S (fun _ => False) s.heap s.heap [] := va_S.rf
  have loop : ∀ (k i : Nat), i + k = n → rnd ord n p = rndF ord p k i → ∀ (locs : List Loc), va_S (fun _ => False) s.heap s.heap locs → ∀ ls : Array Slot, lv_has ls 3 [(2, .int (nI i)), (0, .ref b), (1, .int p)] → W pgm l env { frames := 0, cells := 0, slots := 0, locals := 0 } s mid ([.ref b, .int p] : List Value).toArray below meth cde s.heap locs 0 0 (MQ below (xr_Post eI (fun r H => r = rnd ord n p ∧ H = s.heap) (fun _ => False)) ([.ref b, .int p] : List Value).toArray s ({ frames := 0, cells := 0, slots := 0, locals := 0 } : Room).cells ({ frames := 0, cells := 0, slots := 0, locals := 0 } : Room).slots (fun _ => False)) (F0 mid 2 ls []) := by
    intro k
    induction k with
    | zero =>
      intro i h1 he locs hS ls hl
      have e : i = n := by omega
      subst e
      refine lv_iload_n hx hb dX7_roundOf_2 rfl (lv_at hl 0 rfl) ?_
      refine lv_aload_n hx hb dX7_roundOf_3 rfl (lv_at hl 1 rfl) ?_
      refine va_get (D := g.1) (ci := 7) (v := .int (nI (i))) (C := RX7) (T := TX7) (N := 18) hx hb hts (by decide +kernel) hown hK.1 (xr_one hO) 0 rfl rfl 11 (by decide) (hts (.fieldLink RX7 120 "SharesDeskModel" "rounds" "I") (by decide +kernel)) (fun _ h9 => h9) rfl dX7_roundOf_4 ?_
      refine lv_icmp_ge (tgt := 28) hx hb dX7_roundOf_7 (by decide) (fun hc => ?_) (fun hc => ?_)
      · clear hc
        refine lv_iconst (v := (-1)) hx hb dX7_roundOf_28 (by decide) ?_
        exact xr_iret hx hb hr hlocks hS ⟨by rw [he]; rfl, rfl⟩ dX7_roundOf_29
      · exact absurd (nI_le (Nat.le_refl i) (by omega)) hc
    | succ k ih =>
      intro i h1 he locs hS ls hl
      refine lv_iload_n hx hb dX7_roundOf_2 rfl (lv_at hl 0 rfl) ?_
      refine lv_aload_n hx hb dX7_roundOf_3 rfl (lv_at hl 1 rfl) ?_
      refine va_get (D := g.1) (ci := 7) (v := .int (nI (n))) (C := RX7) (T := TX7) (N := 18) hx hb hts (by decide +kernel) hown hK.1 (xr_one hO) 0 rfl rfl 11 (by decide) (hts (.fieldLink RX7 120 "SharesDeskModel" "rounds" "I") (by decide +kernel)) (fun _ h9 => h9) rfl dX7_roundOf_4 ?_
      refine lv_icmp_ge (tgt := 28) hx hb dX7_roundOf_7 (by decide) (fun hc => ?_) (fun hc => ?_)
      · exact absurd ((nI_leI (a := n) (b := i) (by omega) (by omega)).mp hc) (by omega)
      · clear hc
        refine lv_aload_n hx hb dX7_roundOf_10 rfl (lv_at hl 1 rfl) ?_
        refine va_get (D := g.1) (ci := 7) (v := .ref (b + 8)) (C := RX7) (T := TX7) (N := 18) hx hb hts (by decide +kernel) hown hK.1 (xr_one hO) 0 rfl rfl 12 (by decide) (hts (.fieldLink RX7 39 "SharesDeskModel" "order" "[I") (by decide +kernel)) (fun _ h9 => h9) rfl dX7_roundOf_11 ?_
        refine lv_iload_n hx hb dX7_roundOf_14 rfl (lv_at hl 0 rfl) ?_
        refine xr_rd hx hb hK hOr (show i < 16 by omega) (by decide) dX7_roundOf_15 ?_
        refine lv_iload_n hx hb dX7_roundOf_16 rfl (lv_at hl 2 rfl) ?_
        refine lv_icmp_ne (tgt := 22) hx hb dX7_roundOf_17 (by decide) (fun h2 => ?_) (fun h2 => ?_)
        · have e2 : ¬ nI (ord i) = p := h2
          refine lv_iinc (v := nI (i + 1)) (lv' := [(2, .int (nI (i + 1))), (0, .ref b), (1, .int p)]) hx hb dX7_roundOf_22 hl (k := 0) rfl (nI_1 i) (by decide) rfl (fun ls hl => ?_)
          refine lv_goto (tgt := 2) hx hb dX7_roundOf_25 (by decide) ?_
          exact ih (i + 1) (by omega) (by rw [he, rndF, if_neg e2]) _ hS ls (lv_sub hl [0, 1, 2] rfl)
        · have e2 : nI (ord i) = p := h2
          refine lv_iload_n hx hb dX7_roundOf_20 rfl (lv_at hl 0 rfl) ?_
          exact xr_iret hx hb hr hlocks hS ⟨by rw [he, rndF, if_pos e2], rfl⟩ dX7_roundOf_21
  refine lv_iconst (v := 0) hx hb dX7_roundOf_0 (by decide) ?_
  refine xr_ti (x' := nI 0) rfl ?_
  refine lv_istore_n (lv' := [(2, .int (nI 0)), (0, .ref b), (1, .int p)]) hx hb dX7_roundOf_1 rfl hl (by decide) rfl (fun ls hl => ?_)
  exact loop n 0 (by omega) rfl [] hS ls (lv_sub hl [0, 1, 2] rfl)
set_option maxHeartbeats 400000 in
set_option maxRecDepth 100000 in
theorem c_X7_servedOf (l : Launch) (g : WG) (H0 : Heap) (b : Nat) (th bu ob cn rn py ln : Int32) (hO : obj g H0 b 7 (moF b th bu ob cn rn py ln)) (c : Nat → Nat) (vs : Nat) (ap : Nat → Nat) (hOl : OldAt g H0 b c vs ap) (ch : Nat → Bool) (hI : xr_ia H0 (b + 9) (gZ g) 16 (fun z9 => b2i (ch z9))) (v : Nat) (hv : v < 48) : Ctr l (KK g) yX7_servedOf wsX7_servedOf { frames := 0, cells := 0, slots := 0, locals := 0 } [.ref b, .int (nI v)] H0 eI (fun r H => r = nI (sg (svd ch ap v) 16) ∧ H = H0) (fun _ => False) := by
  refine xr_enter (cc := cX7_servedOf) (maxL := 4) (ret := (some .int)) (by decide) rfl (Nat.le_of_ble_eq_true rfl) ?_
  intro pgm env s mid below meth cde hx hb hr hml hts hown hlocks hnm hH hK ls hl
  subst hH
  have hl : lv_has ls 4 [(0, .ref b), (1, .int (nI v))] := hl
  have hS : va_S (fun _ => False) s.heap s.heap [] := va_S.rf
  obtain ⟨hC, hV, hW, hcb, hab⟩ := id hOl
  have hav := hab v hv
  have loop : ∀ (k p : Nat), p + k = 16 → ∀ (locs : List Loc), va_S (fun _ => False) s.heap s.heap locs → ∀ ls : Array Slot, lv_has ls 4 [(3, .int (nI p)), (2, .int (nI (sg (svd ch ap v) p))), (0, .ref b), (1, .int (nI v))] → W pgm l env { frames := 0, cells := 0, slots := 0, locals := 0 } s mid ([.ref b, .int (nI v)] : List Value).toArray below meth cde s.heap locs 0 0 (MQ below (xr_Post eI (fun r H => r = nI (sg (svd ch ap v) 16) ∧ H = s.heap) (fun _ => False)) ([.ref b, .int (nI v)] : List Value).toArray s ({ frames := 0, cells := 0, slots := 0, locals := 0 } : Room).cells ({ frames := 0, cells := 0, slots := 0, locals := 0 } : Room).slots (fun _ => False)) (F0 mid 4 ls []) := by
    intro k
    induction k with
    | zero =>
      intro p h1 locs hS ls hl
      have e : p = 16 := by omega
      subst e
      refine lv_iload_n hx hb dX7_servedOf_4 rfl (lv_at hl 0 rfl) ?_
      refine lv_bipush (v := 16) hx hb dX7_servedOf_5 (by decide) ?_
      refine lv_icmp_ge (tgt := 47) hx hb dX7_servedOf_7 (by decide) (fun hc => ?_) (fun hc => ?_)
      · clear hc
        refine lv_iload_n hx hb dX7_servedOf_47 rfl (lv_at hl 1 rfl) ?_
        exact xr_iret hx hb hr hlocks hS ⟨rfl, rfl⟩ dX7_servedOf_48
      · exact absurd (by decide) hc
    | succ k ih =>
      intro p h1 locs hS ls hl
      refine lv_iload_n hx hb dX7_servedOf_4 rfl (lv_at hl 0 rfl) ?_
      refine lv_bipush (v := 16) hx hb dX7_servedOf_5 (by decide) ?_
      refine lv_icmp_ge (tgt := 47) hx hb dX7_servedOf_7 (by decide) (fun hc => ?_) (fun hc => ?_)
      · exact absurd ((nI_leI (a := 16) (b := p) (by decide) (by omega)).mp hc) (by omega)
      · clear hc
        refine lv_iload_n hx hb dX7_servedOf_10 rfl (lv_at hl 1 rfl) ?_
        refine lv_aload_n hx hb dX7_servedOf_11 rfl (lv_at hl 2 rfl) ?_
        refine va_get (D := g.1) (ci := 7) (v := .ref (b + 9)) (C := RX7) (T := TX7) (N := 18) hx hb hts (by decide +kernel) hown hK.1 (xr_one hO) 0 rfl rfl 13 (by decide) (hts (.fieldLink RX7 42 "SharesDeskModel" "isChosen" "[Z") (by decide +kernel)) (fun _ h9 => h9) rfl dX7_servedOf_12 ?_
        refine lv_iload_n hx hb dX7_servedOf_15 rfl (lv_at hl 0 rfl) ?_
        refine xr_zrd hx hb hK hI (show p < 16 by omega) (by decide) dX7_servedOf_16 ?_
        refine lv_if_eq (tgt := 38) hx hb dX7_servedOf_17 (by decide) (fun h2 => ?_) (fun h2 => ?_)
        · have e2 : ch p = false := b2i_0.mp h2
          refine lv_iconst (v := 0) hx hb dX7_servedOf_38 (by decide) ?_
          refine xr_ti (x' := nI 0) rfl ?_
          refine lv_iadd hx hb dX7_servedOf_39 ?_
          refine xr_ti (x' := nI (sg (svd ch ap v) (p + 1))) (by rw [nI_add, sg, svd, if_neg (fun q => by rw [e2] at q; cases q.1)]) ?_
          refine lv_istore_n (lv' := [(2, .int (nI (sg (svd ch ap v) (p + 1)))), (3, .int (nI p)), (0, .ref b), (1, .int (nI v))]) hx hb dX7_servedOf_40 rfl hl (by decide) rfl (fun ls hl => ?_)
          refine lv_iinc (v := nI (p + 1)) (lv' := [(3, .int (nI (p + 1))), (2, .int (nI (sg (svd ch ap v) (p + 1)))), (0, .ref b), (1, .int (nI v))]) hx hb dX7_servedOf_41 hl (k := 1) rfl (nI_1 p) (by decide) rfl (fun ls hl => ?_)
          refine lv_goto (tgt := 4) hx hb dX7_servedOf_44 (by decide) ?_
          exact ih (p + 1) (by omega) _ hS ls (lv_sub hl [0, 1, 2, 3] rfl)
        · have e2 : ch p = true := b2i_n0.mp h2
          refine lv_aload_n hx hb dX7_servedOf_20 rfl (lv_at hl 2 rfl) ?_
          refine va_get (D := g.1) (ci := 7) (v := .ref (b + 7)) (C := RX7) (T := TX7) (N := 18) hx hb hts (by decide +kernel) hown hK.1 (xr_one hO) 0 rfl rfl 8 (by decide) (hts (.fieldLink RX7 33 "SharesDeskModel" "oldWishes" "[I") (by decide +kernel)) (fun _ h9 => h9) rfl dX7_servedOf_21 ?_
          refine lv_iload_n hx hb dX7_servedOf_24 rfl (lv_at hl 3 rfl) ?_
          refine xr_rd hx hb hK hW hv (by decide) dX7_servedOf_25 ?_
          refine lv_iload_n hx hb dX7_servedOf_26 rfl (lv_at hl 0 rfl) ?_
          refine lv_ishr hx hb dX7_servedOf_27 ?_
          refine xr_ti (x' := nI (ap v / 2 ^ p)) (pk_shrN (by omega) _ p (sh32 p (by omega))) ?_
          refine lv_iconst (v := 1) hx hb dX7_servedOf_28 (by decide) ?_
          refine lv_iand hx hb dX7_servedOf_29 ?_
          refine xr_ti (x' := nI (ap v / 2 ^ p % 2)) (pk_andN (Nat.lt_of_le_of_lt (Nat.div_le_self _ _) (by omega)) 1 rfl) ?_
          refine lv_iconst (v := 1) hx hb dX7_servedOf_30 (by decide) ?_
          refine xr_ti (x' := nI 1) rfl ?_
          have hb2 : ap v / 2 ^ p % 2 < 2 := Nat.mod_lt _ (by decide)
          refine lv_icmp_ne (tgt := 38) hx hb dX7_servedOf_31 (by decide) (fun h3 => ?_) (fun h3 => ?_)
          · have e3 : (ap v).testBit p = false := tb_f (by have : ¬ ap v / 2 ^ p % 2 = 1 := fun q => h3 (by rw [q]); omega)
            refine lv_iconst (v := 0) hx hb dX7_servedOf_38 (by decide) ?_
            refine xr_ti (x' := nI 0) rfl ?_
            refine lv_iadd hx hb dX7_servedOf_39 ?_
            refine xr_ti (x' := nI (sg (svd ch ap v) (p + 1))) (by rw [nI_add, sg, svd, if_neg (fun q => by rw [e3] at q; cases q.2)]) ?_
            refine lv_istore_n (lv' := [(2, .int (nI (sg (svd ch ap v) (p + 1)))), (3, .int (nI p)), (0, .ref b), (1, .int (nI v))]) hx hb dX7_servedOf_40 rfl hl (by decide) rfl (fun ls hl => ?_)
            refine lv_iinc (v := nI (p + 1)) (lv' := [(3, .int (nI (p + 1))), (2, .int (nI (sg (svd ch ap v) (p + 1)))), (0, .ref b), (1, .int (nI v))]) hx hb dX7_servedOf_41 hl (k := 1) rfl (nI_1 p) (by decide) rfl (fun ls hl => ?_)
            refine lv_goto (tgt := 4) hx hb dX7_servedOf_44 (by decide) ?_
            exact ih (p + 1) (by omega) _ hS ls (lv_sub hl [0, 1, 2, 3] rfl)
          · have e3 : (ap v).testBit p = true := tb_t (by have := (nI_inj (by omega) (by decide)).mp h3; omega)
            refine lv_iconst (v := 1) hx hb dX7_servedOf_34 (by decide) ?_
            refine xr_ti (x' := nI 1) rfl ?_
            refine lv_goto (tgt := 39) hx hb dX7_servedOf_35 (by decide) ?_
            refine lv_iadd hx hb dX7_servedOf_39 ?_
            refine xr_ti (x' := nI (sg (svd ch ap v) (p + 1))) (by rw [nI_add, sg, svd, if_pos ⟨e2, e3⟩]) ?_
            refine lv_istore_n (lv' := [(2, .int (nI (sg (svd ch ap v) (p + 1)))), (3, .int (nI p)), (0, .ref b), (1, .int (nI v))]) hx hb dX7_servedOf_40 rfl hl (by decide) rfl (fun ls hl => ?_)
            refine lv_iinc (v := nI (p + 1)) (lv' := [(3, .int (nI (p + 1))), (2, .int (nI (sg (svd ch ap v) (p + 1)))), (0, .ref b), (1, .int (nI v))]) hx hb dX7_servedOf_41 hl (k := 1) rfl (nI_1 p) (by decide) rfl (fun ls hl => ?_)
            refine lv_goto (tgt := 4) hx hb dX7_servedOf_44 (by decide) ?_
            exact ih (p + 1) (by omega) _ hS ls (lv_sub hl [0, 1, 2, 3] rfl)
  refine lv_iconst (v := 0) hx hb dX7_servedOf_0 (by decide) ?_
  refine xr_ti (x' := nI (sg (svd ch ap v) 0)) rfl ?_
  refine lv_istore_n (lv' := [(2, .int (nI (sg (svd ch ap v) 0))), (0, .ref b), (1, .int (nI v))]) hx hb dX7_servedOf_1 rfl hl (by decide) rfl (fun ls hl => ?_)
  refine lv_iconst (v := 0) hx hb dX7_servedOf_2 (by decide) ?_
  refine xr_ti (x' := nI 0) rfl ?_
  refine lv_istore_n (lv' := [(3, .int (nI 0)), (2, .int (nI (sg (svd ch ap v) 0))), (0, .ref b), (1, .int (nI v))]) hx hb dX7_servedOf_3 rfl hl (by decide) rfl (fun ls hl => ?_)
  exact loop 16 0 (by omega) [] hS ls (lv_sub hl [0, 1, 2, 3] rfl)
set_option maxHeartbeats 400000 in
set_option maxRecDepth 100000 in
theorem c_X7_chosen (l : Launch) (g : WG) (H0 : Heap) (b : Nat) (th : Int32) (c0 : Nat → Nat) (vs0 : Nat) (ap0 : Nat → Nat) (bu0 : Nat) (c : Nat → Nat) (vs : Nat) (ap : Nat → Nat) (bu cn n : Nat) (Rw ord : Nat → Nat) (ch : Nat → Bool) (hD : ModAt g H0 b th c0 vs0 ap0 bu0 c vs ap bu cn n Rw ord ch) (hQ : MqOK c vs ap n Rw ord ch) (i : Int32) : Ctr l (KK g) yX7_chosen wsX7_chosen { frames := 1, cells := 0, slots := 0, locals := 22 } [.ref b, .int i] H0 eI (fun r H => r = mCh n ord i ∧ ModAt g H b 0 c0 vs0 ap0 bu0 c vs ap bu cn n Rw ord ch) (fun q => b ≤ q ∧ q < b + 12) := by
  refine xr_enter (cc := cX7_chosen) (maxL := 2) (ret := (some .int)) (by decide) rfl (Nat.le_of_ble_eq_true rfl) ?_
  intro pgm env s mid below meth cde hx hb hr hml hts hown hlocks hnm hH hK ls hl
  subst hH
  have hl : lv_has ls 2 [(0, .ref b), (1, .int i)] := hl
  have hS : va_S (fun q => b ≤ q ∧ q < b + 12) s.heap s.heap [] := va_S.rf
  obtain ⟨py, ln, pf, tx, hO, hM, hNw, hOl, hOr, hI, hPo, hTx, hbl, hbh⟩ := id hD
  obtain ⟨hn16, hord, hxb, hDb, hlin, hpm, hD0, hmis⟩ := id hQ
  refine lv_aload_n hx hb dX7_chosen_0 rfl (lv_at hl 0 rfl) ?_
  refine lv_iconst (v := 0) hx hb dX7_chosen_1 (by decide) ?_
  refine xr_put (ci := 7) (v := .int 0) (ty := .int) (C := RX7) (T := TX7) (N := 18) hx hb hts (by decide +kernel) tyX7 tyX7_ok nmX7 hown hK.1 hO hS (show b ≤ b ∧ b < b + 12 by omega) rfl 0 (by decide) (hts (.fieldLink RX7 51 "SharesDeskModel" "thrown" "I") (by decide +kernel)) rfl (by decide +kernel) rfl rfl (Nat.le_of_ble_eq_true rfl) dX7_chosen_2 (fun H locs hz hkp hO hS => ?_)
  replace hM := hM.kept (hkp _ (by omega))
  replace hNw := hNw.kept (fun q hq1 hq2 hq3 => hkp q (by omega))
  replace hOl := hOl.kept (fun q hq1 hq2 hq3 => hkp q (by omega))
  replace hOr := hOr.kept (hkp _ (by omega))
  replace hI := hI.kept (hkp _ (by omega))
  replace hPo := hPo.kept (hkp _ (by omega))
  replace hTx := hTx.kept (hkp _ (by omega))
  refine lv_iload_n hx hb dX7_chosen_5 rfl (lv_at hl 1 rfl) ?_
  refine lv_iconst (v := 0) hx hb dX7_chosen_6 (by decide) ?_
  refine lv_aload_n hx hb dX7_chosen_7 rfl (lv_at hl 0 rfl) ?_
  refine va_get (D := g.1) (ci := 7) (v := .int (nI n)) (C := RX7) (T := TX7) (N := 18) hx hb hts (by decide +kernel) hown hK.1 (xr_one hO) 0 rfl rfl 11 (by decide) (hts (.fieldLink RX7 120 "SharesDeskModel" "rounds" "I") (by decide +kernel)) (fun _ h9 => h9) rfl dX7_chosen_8 ?_
  refine lv_iconst (v := 1) hx hb dX7_chosen_11 (by decide) ?_
  refine lv_isub hx hb dX7_chosen_12 ?_
  refine xr_Si (rest := []) ⟨hx, hb, hml, hown, hts⟩ (KK_ok g) hK (c_X7_within l g H i 0 (nI n - 1)) (cwS 3 hts gX7_chosen_X7_within rfl rfl rfl (by decide +kernel) ⟨Nat.le_of_ble_eq_true rfl, Nat.le_of_ble_eq_true rfl⟩) rfl hl.1 rfl (Nat.le_of_ble_eq_true rfl) dX7_chosen_13 ⟨Nat.le_of_ble_eq_true rfl, Nat.le_of_ble_eq_true rfl⟩ hS (fun q h => h.elim) (fun r H locs hq hz hkp hS928 => ?_)
  obtain ⟨rfl, rfl⟩ := hq
  have hS := hS928
  refine xr_ti (x' := b2i (inR i n)) (congrArg b2i (wi_in (n_pred n hn16))) ?_
  refine lv_if_eq (tgt := 28) hx hb dX7_chosen_16 (by decide) (fun h0 => ?_) (fun h0 => ?_)
  · have h9 : inR i n = false := b2i_0.mp h0
    refine lv_iconst (v := (-1)) hx hb dX7_chosen_28 (by decide) ?_
    exact xr_iret hx hb hr hlocks hS ⟨by unfold mCh; rw [h9]; rfl, ⟨py, ln, pf, tx, hO, hM, hNw, hOl, hOr, hI, hPo, hTx, hbl, hbh⟩⟩ dX7_chosen_29
  · have h9 : inR i n = true := b2i_n0.mp h0
    obtain ⟨j, hj, rfl⟩ := inR_of h9 (by omega)
    refine lv_aload_n hx hb dX7_chosen_19 rfl (lv_at hl 0 rfl) ?_
    refine va_get (D := g.1) (ci := 7) (v := .ref (b + 8)) (C := RX7) (T := TX7) (N := 18) hx hb hts (by decide +kernel) hown hK.1 (xr_one hO) 0 rfl rfl 12 (by decide) (hts (.fieldLink RX7 39 "SharesDeskModel" "order" "[I") (by decide +kernel)) (fun _ h9 => h9) rfl dX7_chosen_20 ?_
    refine lv_iload_n hx hb dX7_chosen_23 rfl (lv_at hl 1 rfl) ?_
    refine xr_rd hx hb hK hOr (show j < 16 by omega) (by decide) dX7_chosen_24 ?_
    refine lv_goto (tgt := 29) hx hb dX7_chosen_25 (by decide) ?_
    exact xr_iret hx hb hr hlocks hS ⟨by unfold mCh; rw [if_pos h9, ix_nI (by omega)], ⟨py, ln, pf, tx, hO, hM, hNw, hOl, hOr, hI, hPo, hTx, hbl, hbh⟩⟩ dX7_chosen_29
set_option maxHeartbeats 400000 in
set_option maxRecDepth 100000 in
theorem c_X7_spent (l : Launch) (g : WG) (H0 : Heap) (b : Nat) (th : Int32) (c0 : Nat → Nat) (vs0 : Nat) (ap0 : Nat → Nat) (bu0 : Nat) (c : Nat → Nat) (vs : Nat) (ap : Nat → Nat) (bu cn n : Nat) (Rw ord : Nat → Nat) (ch : Nat → Bool) (hD : ModAt g H0 b th c0 vs0 ap0 bu0 c vs ap bu cn n Rw ord ch) (hQ : MqOK c vs ap n Rw ord ch) : Ctr l (KK g) yX7_spent wsX7_spent { frames := 1, cells := 0, slots := 0, locals := 22 } [.ref b] H0 eI (fun r H => r = nI (sg (fun i => c (ord i)) n) ∧ ModAt g H b 0 c0 vs0 ap0 bu0 c vs ap bu cn n Rw ord ch) (fun q => b ≤ q ∧ q < b + 12) := by
  refine xr_enter (cc := cX7_spent) (maxL := 1) (ret := (some .int)) (by decide) rfl (Nat.le_of_ble_eq_true rfl) ?_
  intro pgm env s mid below meth cde hx hb hr hml hts hown hlocks hnm hH hK ls hl
  subst hH
  have hl : lv_has ls 1 [(0, .ref b)] := hl
  have hS : va_S (fun q => b ≤ q ∧ q < b + 12) s.heap s.heap [] := va_S.rf
  obtain ⟨py, ln, pf, tx, hO, hM, hNw, hOl, hOr, hI, hPo, hTx, hbl, hbh⟩ := id hD
  obtain ⟨hn16, hord, hxb, hDb, hlin, hpm, hD0, hmis⟩ := id hQ
  refine lv_aload_n hx hb dX7_spent_0 rfl (lv_at hl 0 rfl) ?_
  refine lv_iconst (v := 0) hx hb dX7_spent_1 (by decide) ?_
  refine xr_put (ci := 7) (v := .int 0) (ty := .int) (C := RX7) (T := TX7) (N := 18) hx hb hts (by decide +kernel) tyX7 tyX7_ok nmX7 hown hK.1 hO hS (show b ≤ b ∧ b < b + 12 by omega) rfl 0 (by decide) (hts (.fieldLink RX7 51 "SharesDeskModel" "thrown" "I") (by decide +kernel)) rfl (by decide +kernel) rfl rfl (Nat.le_of_ble_eq_true rfl) dX7_spent_2 (fun H locs hz hkp hO hS => ?_)
  replace hM := hM.kept (hkp _ (by omega))
  replace hNw := hNw.kept (fun q hq1 hq2 hq3 => hkp q (by omega))
  replace hOl := hOl.kept (fun q hq1 hq2 hq3 => hkp q (by omega))
  replace hOr := hOr.kept (hkp _ (by omega))
  replace hI := hI.kept (hkp _ (by omega))
  replace hPo := hPo.kept (hkp _ (by omega))
  replace hTx := hTx.kept (hkp _ (by omega))
  refine lv_aload_n hx hb dX7_spent_5 rfl (lv_at hl 0 rfl) ?_
  refine xr_Vi (rest := []) ⟨hx, hb, hml, hown, hts⟩ (KK_ok g) hK (c_X7_cost l g H b 0 (nI bu0) (nI bu) (nI cn) py ln n hO c vs ap hOl ord hOr hn16 hord) (cwV 0 hts gX7_spent_X7_cost rfl rfl rfl (by decide +kernel) ⟨Nat.le_of_ble_eq_true rfl, Nat.le_of_ble_eq_true rfl⟩) (xr_rec hK hO rfl) rfl hl.1 rfl (Nat.le_of_ble_eq_true rfl) dX7_spent_6 ⟨Nat.le_of_ble_eq_true rfl, Nat.le_of_ble_eq_true rfl⟩ hS (fun q h => h.elim) (fun r H locs hq hz hkp hS929 => ?_)
  obtain ⟨rfl, rfl⟩ := hq
  have hS := hS929
  exact xr_iret hx hb hr hlocks hS ⟨rfl, ⟨py, ln, pf, tx, hO, hM, hNw, hOl, hOr, hI, hPo, hTx, hbl, hbh⟩⟩ dX7_spent_9
set_option maxHeartbeats 400000 in
set_option maxRecDepth 100000 in
theorem c_X7_served (l : Launch) (g : WG) (H0 : Heap) (b : Nat) (th : Int32) (c0 : Nat → Nat) (vs0 : Nat) (ap0 : Nat → Nat) (bu0 : Nat) (c : Nat → Nat) (vs : Nat) (ap : Nat → Nat) (bu cn n : Nat) (Rw ord : Nat → Nat) (ch : Nat → Bool) (hD : ModAt g H0 b th c0 vs0 ap0 bu0 c vs ap bu cn n Rw ord ch) (hQ : MqOK c vs ap n Rw ord ch) (v : Int32) : Ctr l (KK g) yX7_served wsX7_served { frames := 2, cells := 0, slots := 0, locals := 43 } [.ref b, .int v] H0 eI (fun r H => r = mSe vs ap ch v ∧ ModAt g H b 0 c0 vs0 ap0 bu0 c vs ap bu cn n Rw ord ch) (fun q => b ≤ q ∧ q < b + 12) := by
  refine xr_enter (cc := cX7_served) (maxL := 2) (ret := (some .int)) (by decide) rfl (Nat.le_of_ble_eq_true rfl) ?_
  intro pgm env s mid below meth cde hx hb hr hml hts hown hlocks hnm hH hK ls hl
  subst hH
  have hl : lv_has ls 2 [(0, .ref b), (1, .int v)] := hl
  have hS : va_S (fun q => b ≤ q ∧ q < b + 12) s.heap s.heap [] := va_S.rf
  obtain ⟨py, ln, pf, tx, hO, hM, hNw, hOl, hOr, hI, hPo, hTx, hbl, hbh⟩ := id hD
  obtain ⟨hn16, hord, hxb, hDb, hlin, hpm, hD0, hmis⟩ := id hQ
  refine lv_aload_n hx hb dX7_served_0 rfl (lv_at hl 0 rfl) ?_
  refine lv_iconst (v := 0) hx hb dX7_served_1 (by decide) ?_
  refine xr_put (ci := 7) (v := .int 0) (ty := .int) (C := RX7) (T := TX7) (N := 18) hx hb hts (by decide +kernel) tyX7 tyX7_ok nmX7 hown hK.1 hO hS (show b ≤ b ∧ b < b + 12 by omega) rfl 0 (by decide) (hts (.fieldLink RX7 51 "SharesDeskModel" "thrown" "I") (by decide +kernel)) rfl (by decide +kernel) rfl rfl (Nat.le_of_ble_eq_true rfl) dX7_served_2 (fun H locs hz hkp hO hS => ?_)
  replace hM := hM.kept (hkp _ (by omega))
  replace hNw := hNw.kept (fun q hq1 hq2 hq3 => hkp q (by omega))
  replace hOl := hOl.kept (fun q hq1 hq2 hq3 => hkp q (by omega))
  replace hOr := hOr.kept (hkp _ (by omega))
  replace hI := hI.kept (hkp _ (by omega))
  replace hPo := hPo.kept (hkp _ (by omega))
  replace hTx := hTx.kept (hkp _ (by omega))
  refine lv_aload_n hx hb dX7_served_5 rfl (lv_at hl 0 rfl) ?_
  refine lv_iload_n hx hb dX7_served_6 rfl (lv_at hl 1 rfl) ?_
  refine xr_Vi (rest := []) ⟨hx, hb, hml, hown, hts⟩ (KK_ok g) hK (c_X7_isVoter l g H b 0 (nI bu0) (nI bu) (nI cn) (nI n) py ln hO c vs ap hOl v) (cwV 1 hts gX7_served_X7_isVoter rfl rfl rfl (by decide +kernel) ⟨Nat.le_of_ble_eq_true rfl, Nat.le_of_ble_eq_true rfl⟩) (xr_rec hK hO rfl) rfl hl.1 rfl (Nat.le_of_ble_eq_true rfl) dX7_served_7 ⟨Nat.le_of_ble_eq_true rfl, Nat.le_of_ble_eq_true rfl⟩ hS (fun q h => h.elim) (fun r H locs hq hz hkp hS930 => ?_)
  obtain ⟨rfl, rfl⟩ := hq
  have hS := hS930
  refine lv_if_eq (tgt := 21) hx hb dX7_served_10 (by decide) (fun h0 => ?_) (fun h0 => ?_)
  · have h9 : isV vs v = false := b2i_0.mp h0
    refine lv_iconst (v := 0) hx hb dX7_served_21 (by decide) ?_
    exact xr_iret hx hb hr hlocks hS ⟨by unfold mSe; rw [h9]; rfl, ⟨py, ln, pf, tx, hO, hM, hNw, hOl, hOr, hI, hPo, hTx, hbl, hbh⟩⟩ dX7_served_22
  · have h9 : isV vs v = true := b2i_n0.mp h0
    obtain ⟨j, hj, rfl, hvj, hv0⟩ := isV_of h9
    refine lv_aload_n hx hb dX7_served_13 rfl (lv_at hl 0 rfl) ?_
    refine lv_iload_n hx hb dX7_served_14 rfl (lv_at hl 1 rfl) ?_
    refine xr_Vi (rest := []) ⟨hx, hb, hml, hown, hts⟩ (KK_ok g) hK (c_X7_servedOf l g H b 0 (nI bu0) (nI bu) (nI cn) (nI n) py ln hO c vs ap hOl ch hI j hj) (cwV 1 hts gX7_served_X7_servedOf rfl rfl rfl (by decide +kernel) ⟨Nat.le_of_ble_eq_true rfl, Nat.le_of_ble_eq_true rfl⟩) (xr_rec hK hO rfl) rfl hl.1 rfl (Nat.le_of_ble_eq_true rfl) dX7_served_15 ⟨Nat.le_of_ble_eq_true rfl, Nat.le_of_ble_eq_true rfl⟩ hS (fun q h => h.elim) (fun r H locs hq hz hkp hS931 => ?_)
    obtain ⟨rfl, rfl⟩ := hq
    have hS := hS931
    refine lv_goto (tgt := 22) hx hb dX7_served_18 (by decide) ?_
    exact xr_iret hx hb hr hlocks hS ⟨by unfold mSe; rw [if_pos h9, ix_nI (by omega)], ⟨py, ln, pf, tx, hO, hM, hNw, hOl, hOr, hI, hPo, hTx, hbl, hbh⟩⟩ dX7_served_22
set_option maxHeartbeats 400000 in
set_option maxRecDepth 100000 in
theorem c_X7_purse (l : Launch) (g : WG) (H0 : Heap) (b : Nat) (th : Int32) (c0 : Nat → Nat) (vs0 : Nat) (ap0 : Nat → Nat) (bu0 : Nat) (c : Nat → Nat) (vs : Nat) (ap : Nat → Nat) (bu cn n : Nat) (Rw ord : Nat → Nat) (ch : Nat → Bool) (hD : ModAt g H0 b th c0 vs0 ap0 bu0 c vs ap bu cn n Rw ord ch) (hQ : MqOK c vs ap n Rw ord ch) (v part word : Int32) : Ctr l (KK g) yX7_purse wsX7_purse { frames := 5, cells := 0, slots := 0, locals := 117 } [.ref b, .int v, .int part, .int word] H0 eI (fun r H => r = mPu vs Rw v part word ∧ ∃ R1 : Nat → Nat, ModAt g H b 0 c0 vs0 ap0 bu0 c vs ap bu cn n R1 ord ch ∧ ∀ j, j < 849 → R1 j = Rw j) (fun q => b ≤ q ∧ q < b + 12) := by
  refine xr_enter (cc := cX7_purse) (maxL := 4) (ret := (some .int)) (by decide) rfl (Nat.le_of_ble_eq_true rfl) ?_
  intro pgm env s mid below meth cde hx hb hr hml hts hown hlocks hnm hH hK ls hl
  subst hH
  have hl : lv_has ls 4 [(0, .ref b), (1, .int v), (2, .int part), (3, .int word)] := hl
  have hS : va_S (fun q => b ≤ q ∧ q < b + 12) s.heap s.heap [] := va_S.rf
  obtain ⟨py, ln, pf, tx, hO, hM, hNw, hOl, hOr, hI, hPo, hTx, hbl, hbh⟩ := id hD
  obtain ⟨hn16, hord, hxb, hDb, hlin, hpm, hD0, hmis⟩ := id hQ
  refine lv_aload_n hx hb dX7_purse_0 rfl (lv_at hl 0 rfl) ?_
  refine lv_iconst (v := 0) hx hb dX7_purse_1 (by decide) ?_
  refine xr_put (ci := 7) (v := .int 0) (ty := .int) (C := RX7) (T := TX7) (N := 18) hx hb hts (by decide +kernel) tyX7 tyX7_ok nmX7 hown hK.1 hO hS (show b ≤ b ∧ b < b + 12 by omega) rfl 0 (by decide) (hts (.fieldLink RX7 51 "SharesDeskModel" "thrown" "I") (by decide +kernel)) rfl (by decide +kernel) rfl rfl (Nat.le_of_ble_eq_true rfl) dX7_purse_2 (fun H locs hz hkp hO hS => ?_)
  replace hM := hM.kept (hkp _ (by omega))
  replace hNw := hNw.kept (fun q hq1 hq2 hq3 => hkp q (by omega))
  replace hOl := hOl.kept (fun q hq1 hq2 hq3 => hkp q (by omega))
  replace hOr := hOr.kept (hkp _ (by omega))
  replace hI := hI.kept (hkp _ (by omega))
  replace hPo := hPo.kept (hkp _ (by omega))
  replace hTx := hTx.kept (hkp _ (by omega))
  refine lv_aload_n hx hb dX7_purse_5 rfl (lv_at hl 0 rfl) ?_
  refine lv_iload_n hx hb dX7_purse_6 rfl (lv_at hl 1 rfl) ?_
  refine xr_Vi (rest := []) ⟨hx, hb, hml, hown, hts⟩ (KK_ok g) hK (c_X7_isVoter l g H b 0 (nI bu0) (nI bu) (nI cn) (nI n) py ln hO c vs ap hOl v) (cwV 1 hts gX7_purse_X7_isVoter rfl rfl rfl (by decide +kernel) ⟨Nat.le_of_ble_eq_true rfl, Nat.le_of_ble_eq_true rfl⟩) (xr_rec hK hO rfl) rfl hl.1 rfl (Nat.le_of_ble_eq_true rfl) dX7_purse_7 ⟨Nat.le_of_ble_eq_true rfl, Nat.le_of_ble_eq_true rfl⟩ hS (fun q h => h.elim) (fun r H locs hq hz hkp hS932 => ?_)
  obtain ⟨rfl, rfl⟩ := hq
  have hS := hS932
  refine lv_if_eq (tgt := 34) hx hb dX7_purse_10 (by decide) (fun h0 => ?_) (fun h0 => ?_)
  · have h9 : isV vs v = false := b2i_0.mp h0
    refine lv_iconst (v := 0) hx hb dX7_purse_34 (by decide) ?_
    exact xr_iret hx hb hr hlocks hS ⟨by unfold mPu; rw [h9]; rfl, Rw, ⟨py, ln, pf, tx, hO, hM, hNw, hOl, hOr, hI, hPo, hTx, hbl, hbh⟩, fun _ _ => rfl⟩ dX7_purse_35
  · have h9 : isV vs v = true := b2i_n0.mp h0
    obtain ⟨i, hi, rfl, hvi, hv0⟩ := isV_of h9
    refine lv_iload_n hx hb dX7_purse_13 rfl (lv_at hl 2 rfl) ?_
    refine lv_iload_n hx hb dX7_purse_14 rfl (lv_at hl 3 rfl) ?_
    refine xr_Si (rest := []) ⟨hx, hb, hml, hown, hts⟩ (KK_ok g) hK (c_X7_isPart l g H part word) (cwS 2 hts gX7_purse_X7_isPart rfl rfl rfl (by decide +kernel) ⟨Nat.le_of_ble_eq_true rfl, Nat.le_of_ble_eq_true rfl⟩) rfl hl.1 rfl (Nat.le_of_ble_eq_true rfl) dX7_purse_15 ⟨Nat.le_of_ble_eq_true rfl, Nat.le_of_ble_eq_true rfl⟩ hS (fun q h => h.elim) (fun r H locs hq hz hkp hS933 => ?_)
    obtain ⟨rfl, rfl⟩ := hq
    have hS := hS933
    refine lv_if_eq (tgt := 34) hx hb dX7_purse_18 (by decide) (fun h1 => ?_) (fun h1 => ?_)
    · have h8 : isP part word = false := b2i_0.mp h1
      refine lv_iconst (v := 0) hx hb dX7_purse_34 (by decide) ?_
      exact xr_iret hx hb hr hlocks hS ⟨by unfold mPu wQ; rw [if_pos h9, rwd_np h8], Rw, ⟨py, ln, pf, tx, hO, hM, hNw, hOl, hOr, hI, hPo, hTx, hbl, hbh⟩, fun _ _ => rfl⟩ dX7_purse_35
    · have h8 : isP part word = true := b2i_n0.mp h1
      obtain ⟨hpt, j9, hj9, rfl⟩ := isP_t h8
      refine lv_aload_n hx hb dX7_purse_21 rfl (lv_at hl 0 rfl) ?_
      refine lv_iload_n hx hb dX7_purse_22 rfl (lv_at hl 1 rfl) ?_
      refine lv_sipush (v := 848) hx hb dX7_purse_23 (by decide) ?_
      refine xr_ti (x' := nI 848) rfl ?_
      refine lv_iload_n hx hb dX7_purse_26 rfl (lv_at hl 2 rfl) ?_
      refine lv_iload_n hx hb dX7_purse_27 rfl (lv_at hl 3 rfl) ?_
      refine xr_Vi (rest := []) ⟨hx, hb, hml, hown, hts⟩ (KK_ok g) hK (c_X7_word l g H b 0 (nI bu0) (nI bu) (nI cn) (nI n) py ln hO Rw hM (i) (848) (by omega) (by decide) (hD0 (Or.inl hv0)) (by have := hxb i hi; omega) (by omega) part hpt j9 hj9) (cwV 4 hts gX7_purse_X7_word rfl rfl rfl (by decide +kernel) ⟨Nat.le_of_ble_eq_true rfl, Nat.le_of_ble_eq_true rfl⟩) (xr_rec hK hO rfl) rfl hl.1 rfl (Nat.le_of_ble_eq_true rfl) dX7_purse_28 ⟨Nat.le_of_ble_eq_true rfl, Nat.le_of_ble_eq_true rfl⟩ hS (fun q h => by have h : q = b + 1 := h; show b ≤ q ∧ q < b + 12; omega) (fun rr H locs hq hz hkp hS => ?_)
      replace hkp := fun (q : Nat) h1 (h2 : ¬ (q = b + 1)) => hkp q h1 h2
      replace hO := hO.kept (hkp _ hO.lt (by omega))
      replace hNw := hNw.kept (fun q hq1 hq2 hq3 => hkp q hq1 (by omega))
      replace hOl := hOl.kept (fun q hq1 hq2 hq3 => hkp q hq1 (by omega))
      replace hOr := hOr.kept (hkp _ hOr.lt (by omega))
      replace hI := hI.kept (hkp _ hI.lt (by omega))
      replace hPo := hPo.kept (hkp _ hPo.lt (by omega))
      replace hTx := hTx.kept (hkp _ hTx.lt (by omega))
      obtain ⟨rfl, R1, hM, eR⟩ := hq
      refine lv_goto (tgt := 35) hx hb dX7_purse_31 (by decide) ?_
      exact xr_iret hx hb hr hlocks hS ⟨by unfold mPu; rw [if_pos h9, ix_nI (by omega)], R1, ⟨py, ln, pf, tx, hO, hM, hNw, hOl, hOr, hI, hPo, hTx, hbl, hbh⟩, fun j hj => eR j (by omega)⟩ dX7_purse_35
set_option maxHeartbeats 400000 in
set_option maxRecDepth 100000 in
theorem c_X7_paid (l : Launch) (g : WG) (H0 : Heap) (b : Nat) (th : Int32) (c0 : Nat → Nat) (vs0 : Nat) (ap0 : Nat → Nat) (bu0 : Nat) (c : Nat → Nat) (vs : Nat) (ap : Nat → Nat) (bu cn n : Nat) (Rw ord : Nat → Nat) (ch : Nat → Bool) (hD : ModAt g H0 b th c0 vs0 ap0 bu0 c vs ap bu cn n Rw ord ch) (hQ : MqOK c vs ap n Rw ord ch) (v p part word : Int32) : Ctr l (KK g) yX7_paid wsX7_paid { frames := 5, cells := 0, slots := 0, locals := 117 } [.ref b, .int v, .int p, .int part, .int word] H0 eI (fun r H => r = mPd vs n Rw ord v p part word ∧ ∃ R1 : Nat → Nat, ModAt g H b 0 c0 vs0 ap0 bu0 c vs ap bu cn n R1 ord ch ∧ ∀ j, j < 849 → R1 j = Rw j) (fun q => b ≤ q ∧ q < b + 12) := by
  refine xr_enter (cc := cX7_paid) (maxL := 6) (ret := (some .int)) (by decide) rfl (Nat.le_of_ble_eq_true rfl) ?_
  intro pgm env s mid below meth cde hx hb hr hml hts hown hlocks hnm hH hK ls hl
  subst hH
  have hl : lv_has ls 6 [(0, .ref b), (1, .int v), (2, .int p), (3, .int part), (4, .int word)] := hl
  have hS : va_S (fun q => b ≤ q ∧ q < b + 12) s.heap s.heap [] := va_S.rf
  obtain ⟨py, ln, pf, tx, hO, hM, hNw, hOl, hOr, hI, hPo, hTx, hbl, hbh⟩ := id hD
  obtain ⟨hn16, hord, hxb, hDb, hlin, hpm, hD0, hmis⟩ := id hQ
  refine lv_aload_n hx hb dX7_paid_0 rfl (lv_at hl 0 rfl) ?_
  refine lv_iconst (v := 0) hx hb dX7_paid_1 (by decide) ?_
  refine xr_put (ci := 7) (v := .int 0) (ty := .int) (C := RX7) (T := TX7) (N := 18) hx hb hts (by decide +kernel) tyX7 tyX7_ok nmX7 hown hK.1 hO hS (show b ≤ b ∧ b < b + 12 by omega) rfl 0 (by decide) (hts (.fieldLink RX7 51 "SharesDeskModel" "thrown" "I") (by decide +kernel)) rfl (by decide +kernel) rfl rfl (Nat.le_of_ble_eq_true rfl) dX7_paid_2 (fun H locs hz hkp hO hS => ?_)
  replace hM := hM.kept (hkp _ (by omega))
  replace hNw := hNw.kept (fun q hq1 hq2 hq3 => hkp q (by omega))
  replace hOl := hOl.kept (fun q hq1 hq2 hq3 => hkp q (by omega))
  replace hOr := hOr.kept (hkp _ (by omega))
  replace hI := hI.kept (hkp _ (by omega))
  replace hPo := hPo.kept (hkp _ (by omega))
  replace hTx := hTx.kept (hkp _ (by omega))
  refine lv_aload_n hx hb dX7_paid_5 rfl (lv_at hl 0 rfl) ?_
  refine lv_iload_n hx hb dX7_paid_6 rfl (lv_at hl 1 rfl) ?_
  refine xr_Vi (rest := []) ⟨hx, hb, hml, hown, hts⟩ (KK_ok g) hK (c_X7_isVoter l g H b 0 (nI bu0) (nI bu) (nI cn) (nI n) py ln hO c vs ap hOl v) (cwV 1 hts gX7_paid_X7_isVoter rfl rfl rfl (by decide +kernel) ⟨Nat.le_of_ble_eq_true rfl, Nat.le_of_ble_eq_true rfl⟩) (xr_rec hK hO rfl) rfl hl.1 rfl (Nat.le_of_ble_eq_true rfl) dX7_paid_7 ⟨Nat.le_of_ble_eq_true rfl, Nat.le_of_ble_eq_true rfl⟩ hS (fun q h => h.elim) (fun r H locs hq hz hkp hS934 => ?_)
  obtain ⟨rfl, rfl⟩ := hq
  have hS := hS934
  refine lv_if_eq (tgt := 22) hx hb dX7_paid_10 (by decide) (fun h0 => ?_) (fun h0 => ?_)
  · have h9 : isV vs v = false := b2i_0.mp h0
    refine lv_iconst (v := 0) hx hb dX7_paid_22 (by decide) ?_
    exact xr_iret hx hb hr hlocks hS ⟨by unfold mPd; rw [h9]; rfl, Rw, ⟨py, ln, pf, tx, hO, hM, hNw, hOl, hOr, hI, hPo, hTx, hbl, hbh⟩, fun _ _ => rfl⟩ dX7_paid_23
  · have h9 : isV vs v = true := b2i_n0.mp h0
    obtain ⟨i, hi, rfl, hvi, hv0⟩ := isV_of h9
    refine lv_iload_n hx hb dX7_paid_13 rfl (lv_at hl 3 rfl) ?_
    refine lv_iload hx hb dX7_paid_14 (lv_at hl 4 rfl) ?_
    refine xr_Si (rest := []) ⟨hx, hb, hml, hown, hts⟩ (KK_ok g) hK (c_X7_isPart l g H part word) (cwS 2 hts gX7_paid_X7_isPart rfl rfl rfl (by decide +kernel) ⟨Nat.le_of_ble_eq_true rfl, Nat.le_of_ble_eq_true rfl⟩) rfl hl.1 rfl (Nat.le_of_ble_eq_true rfl) dX7_paid_16 ⟨Nat.le_of_ble_eq_true rfl, Nat.le_of_ble_eq_true rfl⟩ hS (fun q h => h.elim) (fun r H locs hq hz hkp hS935 => ?_)
    obtain ⟨rfl, rfl⟩ := hq
    have hS := hS935
    refine lv_if_ne (tgt := 24) hx hb dX7_paid_19 (by decide) (fun h1 => ?_) (fun h1 => ?_)
    · have h8 : isP part word = true := b2i_n0.mp h1
      obtain ⟨hpt, j9, hj9, rfl⟩ := isP_t h8
      refine lv_aload_n hx hb dX7_paid_24 rfl (lv_at hl 0 rfl) ?_
      refine lv_iload_n hx hb dX7_paid_25 rfl (lv_at hl 2 rfl) ?_
      refine xr_Vi (rest := []) ⟨hx, hb, hml, hown, hts⟩ (KK_ok g) hK (c_X7_roundOf l g H b 0 (nI bu0) (nI bu) (nI cn) py ln n hO ord hOr hn16 p) (cwV 1 hts gX7_paid_X7_roundOf rfl rfl rfl (by decide +kernel) ⟨Nat.le_of_ble_eq_true rfl, Nat.le_of_ble_eq_true rfl⟩) (xr_rec hK hO rfl) rfl hl.1 rfl (Nat.le_of_ble_eq_true rfl) dX7_paid_26 ⟨Nat.le_of_ble_eq_true rfl, Nat.le_of_ble_eq_true rfl⟩ hS (fun q h => h.elim) (fun r H locs hq hz hkp hS936 => ?_)
      obtain ⟨rfl, rfl⟩ := hq
      have hS := hS936
      refine lv_istore (lv' := [(5, .int (rnd ord n p)), (0, .ref b), (1, .int (nI i)), (2, .int p), (3, .int part), (4, .int (nI j9))]) hx hb dX7_paid_29 hl (by decide) rfl (fun ls hl => ?_)
      rcases rnd_cases (pik := ord) (n := n) (i0 := p) with ⟨hre, -⟩ | ⟨r, hrn, hre, -, -⟩
      · rw [hre] at hl
        refine lv_iload hx hb dX7_paid_31 (lv_at hl 0 rfl) ?_
        refine lv_if_ge (tgt := 52) hx hb dX7_paid_33 (by decide) (fun h2 => ?_) (fun h2 => ?_)
        · exact absurd h2 (by decide)
        · clear h2
          have hans : mPd vs n Rw ord (nI i) p part (nI j9) = if part = 1 ∧ nI j9 = 0 then 1 else 0 := by unfold mPd; rw [if_pos h9, if_pos hre, rwd01 hpt hj9 rfl]
          refine lv_iload_n hx hb dX7_paid_36 rfl (lv_at hl 4 rfl) ?_
          refine lv_iconst (v := 1) hx hb dX7_paid_37 (by decide) ?_
          refine lv_icmp_ne (tgt := 50) hx hb dX7_paid_38 (by decide) (fun h3 => ?_) (fun h3 => ?_)
          · have e3 : ¬ part = 1 := h3
            refine lv_iconst (v := 0) hx hb dX7_paid_50 (by decide) ?_
            exact xr_iret hx hb hr hlocks hS ⟨by rw [hans, if_neg (fun z => e3 z.1)], Rw, ⟨py, ln, pf, tx, hO, hM, hNw, hOl, hOr, hI, hPo, hTx, hbl, hbh⟩, fun _ _ => rfl⟩ dX7_paid_51
          · have e3 : part = 1 := h3
            refine lv_iload hx hb dX7_paid_41 (lv_at hl 5 rfl) ?_
            refine lv_if_ne (tgt := 50) hx hb dX7_paid_43 (by decide) (fun h4 => ?_) (fun h4 => ?_)
            · have e4 : ¬ nI j9 = 0 := h4
              refine lv_iconst (v := 0) hx hb dX7_paid_50 (by decide) ?_
              exact xr_iret hx hb hr hlocks hS ⟨by rw [hans, if_neg (fun z => e4 z.2)], Rw, ⟨py, ln, pf, tx, hO, hM, hNw, hOl, hOr, hI, hPo, hTx, hbl, hbh⟩, fun _ _ => rfl⟩ dX7_paid_51
            · have e4 : nI j9 = 0 := h4
              refine lv_iconst (v := 1) hx hb dX7_paid_46 (by decide) ?_
              refine lv_goto (tgt := 51) hx hb dX7_paid_47 (by decide) ?_
              exact xr_iret hx hb hr hlocks hS ⟨by rw [hans, if_pos ⟨e3, e4⟩], Rw, ⟨py, ln, pf, tx, hO, hM, hNw, hOl, hOr, hI, hPo, hTx, hbl, hbh⟩, fun _ _ => rfl⟩ dX7_paid_51
      · rw [hre] at hl
        refine lv_iload hx hb dX7_paid_31 (lv_at hl 0 rfl) ?_
        refine lv_if_ge (tgt := 52) hx hb dX7_paid_33 (by decide) (fun h2 => ?_) (fun h2 => ?_)
        · clear h2
          have hlr := hlin r hrn
          refine lv_aload_n hx hb dX7_paid_52 rfl (lv_at hl 1 rfl) ?_
          refine lv_bipush (v := 48) hx hb dX7_paid_53 (by decide) ?_
          refine xr_ti (x' := nI 48) rfl ?_
          refine lv_bipush (v := 48) hx hb dX7_paid_55 (by decide) ?_
          refine xr_ti (x' := nI 48) rfl ?_
          refine lv_iload hx hb dX7_paid_57 (lv_at hl 0 rfl) ?_
          refine lv_imul hx hb dX7_paid_59 ?_
          refine xr_ti (x' := nI (48 * r)) (pk_mul _ _) ?_
          refine lv_iadd hx hb dX7_paid_60 ?_
          refine xr_ti (x' := nI (48 + 48 * r)) (nI_add _ _) ?_
          refine lv_iload_n hx hb dX7_paid_61 rfl (lv_at hl 2 rfl) ?_
          refine lv_iadd hx hb dX7_paid_62 ?_
          refine xr_ti (x' := nI (48 + 48 * r + i)) (nI_add _ _) ?_
          refine lv_sipush (v := 816) hx hb dX7_paid_63 (by decide) ?_
          refine xr_ti (x' := nI 816) rfl ?_
          refine lv_iload hx hb dX7_paid_66 (lv_at hl 0 rfl) ?_
          refine lv_iadd hx hb dX7_paid_68 ?_
          refine xr_ti (x' := nI (816 + r)) (nI_add _ _) ?_
          refine lv_iload_n hx hb dX7_paid_69 rfl (lv_at hl 4 rfl) ?_
          refine lv_iload hx hb dX7_paid_70 (lv_at hl 5 rfl) ?_
          refine xr_Vi (rest := []) ⟨hx, hb, hml, hown, hts⟩ (KK_ok g) hK (c_X7_word l g H b 0 (nI bu0) (nI bu) (nI cn) (nI n) py ln hO Rw hM (48 + 48 * r + i) (816 + r) (by omega) (by omega) hlr.1 (hpm r i hrn hi hvi) hlr.2.1 part hpt j9 hj9) (cwV 4 hts gX7_paid_X7_word rfl rfl rfl (by decide +kernel) ⟨Nat.le_of_ble_eq_true rfl, Nat.le_of_ble_eq_true rfl⟩) (xr_rec hK hO rfl) rfl hl.1 rfl (Nat.le_of_ble_eq_true rfl) dX7_paid_72 ⟨Nat.le_of_ble_eq_true rfl, Nat.le_of_ble_eq_true rfl⟩ hS (fun q h => by have h : q = b + 1 := h; show b ≤ q ∧ q < b + 12; omega) (fun rr H locs hq hz hkp hS => ?_)
          replace hkp := fun (q : Nat) h1 (h2 : ¬ (q = b + 1)) => hkp q h1 h2
          replace hO := hO.kept (hkp _ hO.lt (by omega))
          replace hNw := hNw.kept (fun q hq1 hq2 hq3 => hkp q hq1 (by omega))
          replace hOl := hOl.kept (fun q hq1 hq2 hq3 => hkp q hq1 (by omega))
          replace hOr := hOr.kept (hkp _ hOr.lt (by omega))
          replace hI := hI.kept (hkp _ hI.lt (by omega))
          replace hPo := hPo.kept (hkp _ hPo.lt (by omega))
          replace hTx := hTx.kept (hkp _ hTx.lt (by omega))
          obtain ⟨rfl, R1, hM, eR⟩ := hq
          exact xr_iret hx hb hr hlocks hS ⟨by unfold mPd; rw [if_pos h9, hre, if_neg (nI_m1 (by omega)), ix_nI (show r < 2 ^ 31 by omega), ix_nI (show i < 2 ^ 31 by omega)], R1, ⟨py, ln, pf, tx, hO, hM, hNw, hOl, hOr, hI, hPo, hTx, hbl, hbh⟩, fun j hj => eR j (by omega)⟩ dX7_paid_75
        · exact absurd (nI_pos' (by omega)) h2
    · have h8 : isP part word = false := b2i_0.mp h1
      refine lv_iconst (v := 0) hx hb dX7_paid_22 (by decide) ?_
      exact xr_iret hx hb hr hlocks hS ⟨by unfold mPd wQ; rw [if_pos h9, rwd_np h8, rwd_np h8]; split <;> rfl, Rw, ⟨py, ln, pf, tx, hO, hM, hNw, hOl, hOr, hI, hPo, hTx, hbl, hbh⟩, fun _ _ => rfl⟩ dX7_paid_23
set_option maxHeartbeats 400000 in
set_option maxRecDepth 100000 in
theorem c_X7_rate (l : Launch) (g : WG) (H0 : Heap) (b : Nat) (th : Int32) (c0 : Nat → Nat) (vs0 : Nat) (ap0 : Nat → Nat) (bu0 : Nat) (c : Nat → Nat) (vs : Nat) (ap : Nat → Nat) (bu cn n : Nat) (Rw ord : Nat → Nat) (ch : Nat → Bool) (hD : ModAt g H0 b th c0 vs0 ap0 bu0 c vs ap bu cn n Rw ord ch) (hQ : MqOK c vs ap n Rw ord ch) (p part word : Int32) : Ctr l (KK g) yX7_rate wsX7_rate { frames := 5, cells := 0, slots := 0, locals := 117 } [.ref b, .int p, .int part, .int word] H0 eI (fun r H => r = mRa n Rw ord p part word ∧ ∃ R1 : Nat → Nat, ModAt g H b 0 c0 vs0 ap0 bu0 c vs ap bu cn n R1 ord ch ∧ ∀ j, j < 849 → R1 j = Rw j) (fun q => b ≤ q ∧ q < b + 12) := by
  refine xr_enter (cc := cX7_rate) (maxL := 5) (ret := (some .int)) (by decide) rfl (Nat.le_of_ble_eq_true rfl) ?_
  intro pgm env s mid below meth cde hx hb hr hml hts hown hlocks hnm hH hK ls hl
  subst hH
  have hl : lv_has ls 5 [(0, .ref b), (1, .int p), (2, .int part), (3, .int word)] := hl
  have hS : va_S (fun q => b ≤ q ∧ q < b + 12) s.heap s.heap [] := va_S.rf
  obtain ⟨py, ln, pf, tx, hO, hM, hNw, hOl, hOr, hI, hPo, hTx, hbl, hbh⟩ := id hD
  obtain ⟨hn16, hord, hxb, hDb, hlin, hpm, hD0, hmis⟩ := id hQ
  refine lv_aload_n hx hb dX7_rate_0 rfl (lv_at hl 0 rfl) ?_
  refine lv_iconst (v := 0) hx hb dX7_rate_1 (by decide) ?_
  refine xr_put (ci := 7) (v := .int 0) (ty := .int) (C := RX7) (T := TX7) (N := 18) hx hb hts (by decide +kernel) tyX7 tyX7_ok nmX7 hown hK.1 hO hS (show b ≤ b ∧ b < b + 12 by omega) rfl 0 (by decide) (hts (.fieldLink RX7 51 "SharesDeskModel" "thrown" "I") (by decide +kernel)) rfl (by decide +kernel) rfl rfl (Nat.le_of_ble_eq_true rfl) dX7_rate_2 (fun H locs hz hkp hO hS => ?_)
  replace hM := hM.kept (hkp _ (by omega))
  replace hNw := hNw.kept (fun q hq1 hq2 hq3 => hkp q (by omega))
  replace hOl := hOl.kept (fun q hq1 hq2 hq3 => hkp q (by omega))
  replace hOr := hOr.kept (hkp _ (by omega))
  replace hI := hI.kept (hkp _ (by omega))
  replace hPo := hPo.kept (hkp _ (by omega))
  replace hTx := hTx.kept (hkp _ (by omega))
  refine lv_aload_n hx hb dX7_rate_5 rfl (lv_at hl 0 rfl) ?_
  refine lv_iload_n hx hb dX7_rate_6 rfl (lv_at hl 1 rfl) ?_
  refine xr_Vi (rest := []) ⟨hx, hb, hml, hown, hts⟩ (KK_ok g) hK (c_X7_roundOf l g H b 0 (nI bu0) (nI bu) (nI cn) py ln n hO ord hOr hn16 p) (cwV 1 hts gX7_rate_X7_roundOf rfl rfl rfl (by decide +kernel) ⟨Nat.le_of_ble_eq_true rfl, Nat.le_of_ble_eq_true rfl⟩) (xr_rec hK hO rfl) rfl hl.1 rfl (Nat.le_of_ble_eq_true rfl) dX7_rate_7 ⟨Nat.le_of_ble_eq_true rfl, Nat.le_of_ble_eq_true rfl⟩ hS (fun q h => h.elim) (fun r H locs hq hz hkp hS937 => ?_)
  obtain ⟨rfl, rfl⟩ := hq
  have hS := hS937
  refine lv_istore (lv' := [(4, .int (rnd ord n p)), (0, .ref b), (1, .int p), (2, .int part), (3, .int word)]) hx hb dX7_rate_10 hl (by decide) rfl (fun ls hl => ?_)
  rcases rnd_cases (pik := ord) (n := n) (i0 := p) with ⟨hre, -⟩ | ⟨r, hrn, hre, -, -⟩
  · rw [hre] at hl
    refine lv_iload hx hb dX7_rate_12 (lv_at hl 0 rfl) ?_
    refine lv_if_lt (tgt := 25) hx hb dX7_rate_14 (by decide) (fun h2 => ?_) (fun h2 => ?_)
    · clear h2
      refine lv_iconst (v := 0) hx hb dX7_rate_25 (by decide) ?_
      refine lv_goto (tgt := 47) hx hb dX7_rate_26 (by decide) ?_
      exact xr_iret hx hb hr hlocks hS ⟨by unfold mRa; rw [if_pos hre], Rw, ⟨py, ln, pf, tx, hO, hM, hNw, hOl, hOr, hI, hPo, hTx, hbl, hbh⟩, fun _ _ => rfl⟩ dX7_rate_47
    · exact absurd (by decide) h2
  · rw [hre] at hl
    refine lv_iload hx hb dX7_rate_12 (lv_at hl 0 rfl) ?_
    refine lv_if_lt (tgt := 25) hx hb dX7_rate_14 (by decide) (fun h2 => ?_) (fun h2 => ?_)
    · exact absurd h2 (nI_pos (by omega))
    · clear h2
      have hlr := hlin r hrn
      have hans : mRa n Rw ord p part word = wQ (Rw (832 + r)) (Rw (816 + r)) part word := by unfold mRa; rw [hre, if_neg (nI_m1 (by omega)), ix_nI (show r < 2 ^ 31 by omega)]
      refine lv_iload_n hx hb dX7_rate_17 rfl (lv_at hl 3 rfl) ?_
      refine lv_iload_n hx hb dX7_rate_18 rfl (lv_at hl 4 rfl) ?_
      refine xr_Si (rest := []) ⟨hx, hb, hml, hown, hts⟩ (KK_ok g) hK (c_X7_isPart l g H part word) (cwS 2 hts gX7_rate_X7_isPart rfl rfl rfl (by decide +kernel) ⟨Nat.le_of_ble_eq_true rfl, Nat.le_of_ble_eq_true rfl⟩) rfl hl.1 rfl (Nat.le_of_ble_eq_true rfl) dX7_rate_19 ⟨Nat.le_of_ble_eq_true rfl, Nat.le_of_ble_eq_true rfl⟩ hS (fun q h => h.elim) (fun r H locs hq hz hkp hS938 => ?_)
      obtain ⟨rfl, rfl⟩ := hq
      have hS := hS938
      refine lv_if_ne (tgt := 29) hx hb dX7_rate_22 (by decide) (fun h1 => ?_) (fun h1 => ?_)
      · have h8 : isP part word = true := b2i_n0.mp h1
        obtain ⟨hpt, j9, hj9, rfl⟩ := isP_t h8
        refine lv_aload_n hx hb dX7_rate_29 rfl (lv_at hl 1 rfl) ?_
        refine lv_sipush (v := 832) hx hb dX7_rate_30 (by decide) ?_
        refine xr_ti (x' := nI 832) rfl ?_
        refine lv_iload hx hb dX7_rate_33 (lv_at hl 0 rfl) ?_
        refine lv_iadd hx hb dX7_rate_35 ?_
        refine xr_ti (x' := nI (832 + r)) (nI_add _ _) ?_
        refine lv_sipush (v := 816) hx hb dX7_rate_36 (by decide) ?_
        refine xr_ti (x' := nI 816) rfl ?_
        refine lv_iload hx hb dX7_rate_39 (lv_at hl 0 rfl) ?_
        refine lv_iadd hx hb dX7_rate_41 ?_
        refine xr_ti (x' := nI (816 + r)) (nI_add _ _) ?_
        refine lv_iload_n hx hb dX7_rate_42 rfl (lv_at hl 3 rfl) ?_
        refine lv_iload_n hx hb dX7_rate_43 rfl (lv_at hl 4 rfl) ?_
        refine xr_Vi (rest := []) ⟨hx, hb, hml, hown, hts⟩ (KK_ok g) hK (c_X7_word l g H b 0 (nI bu0) (nI bu) (nI cn) (nI n) py ln hO Rw hM (832 + r) (816 + r) (by omega) (by omega) hlr.1 hlr.2.2 hlr.2.1 part hpt j9 hj9) (cwV 4 hts gX7_rate_X7_word rfl rfl rfl (by decide +kernel) ⟨Nat.le_of_ble_eq_true rfl, Nat.le_of_ble_eq_true rfl⟩) (xr_rec hK hO rfl) rfl hl.1 rfl (Nat.le_of_ble_eq_true rfl) dX7_rate_44 ⟨Nat.le_of_ble_eq_true rfl, Nat.le_of_ble_eq_true rfl⟩ hS (fun q h => by have h : q = b + 1 := h; show b ≤ q ∧ q < b + 12; omega) (fun rr H locs hq hz hkp hS => ?_)
        replace hkp := fun (q : Nat) h1 (h2 : ¬ (q = b + 1)) => hkp q h1 h2
        replace hO := hO.kept (hkp _ hO.lt (by omega))
        replace hNw := hNw.kept (fun q hq1 hq2 hq3 => hkp q hq1 (by omega))
        replace hOl := hOl.kept (fun q hq1 hq2 hq3 => hkp q hq1 (by omega))
        replace hOr := hOr.kept (hkp _ hOr.lt (by omega))
        replace hI := hI.kept (hkp _ hI.lt (by omega))
        replace hPo := hPo.kept (hkp _ hPo.lt (by omega))
        replace hTx := hTx.kept (hkp _ hTx.lt (by omega))
        obtain ⟨rfl, R1, hM, eR⟩ := hq
        exact xr_iret hx hb hr hlocks hS ⟨hans.symm, R1, ⟨py, ln, pf, tx, hO, hM, hNw, hOl, hOr, hI, hPo, hTx, hbl, hbh⟩, fun j hj => eR j (by omega)⟩ dX7_rate_47
      · have h8 : isP part word = false := b2i_0.mp h1
        refine lv_iconst (v := 0) hx hb dX7_rate_25 (by decide) ?_
        refine lv_goto (tgt := 47) hx hb dX7_rate_26 (by decide) ?_
        exact xr_iret hx hb hr hlocks hS ⟨by rw [hans]; unfold wQ; rw [rwd_np h8], Rw, ⟨py, ln, pf, tx, hO, hM, hNw, hOl, hOr, hI, hPo, hTx, hbl, hbh⟩, fun _ _ => rfl⟩ dX7_rate_47
set_option maxHeartbeats 400000 in
set_option maxRecDepth 100000 in
theorem c_X7_missing (l : Launch) (g : WG) (H0 : Heap) (b : Nat) (th : Int32) (c0 : Nat → Nat) (vs0 : Nat) (ap0 : Nat → Nat) (bu0 : Nat) (c : Nat → Nat) (vs : Nat) (ap : Nat → Nat) (bu cn n : Nat) (Rw ord : Nat → Nat) (ch : Nat → Bool) (hD : ModAt g H0 b th c0 vs0 ap0 bu0 c vs ap bu cn n Rw ord ch) (hQ : MqOK c vs ap n Rw ord ch) (p part word : Int32) : Ctr l (KK g) yX7_missing wsX7_missing { frames := 5, cells := 0, slots := 0, locals := 117 } [.ref b, .int p, .int part, .int word] H0 eI (fun r H => r = mMi c vs ap Rw ch p part word ∧ ∃ R1 : Nat → Nat, ModAt g H b 0 c0 vs0 ap0 bu0 c vs ap bu cn n R1 ord ch ∧ ∀ j, j < 849 → R1 j = Rw j) (fun q => b ≤ q ∧ q < b + 12) := by
  refine xr_enter (cc := cX7_missing) (maxL := 4) (ret := (some .int)) (by decide) rfl (Nat.le_of_ble_eq_true rfl) ?_
  intro pgm env s mid below meth cde hx hb hr hml hts hown hlocks hnm hH hK ls hl
  subst hH
  have hl : lv_has ls 4 [(0, .ref b), (1, .int p), (2, .int part), (3, .int word)] := hl
  have hS : va_S (fun q => b ≤ q ∧ q < b + 12) s.heap s.heap [] := va_S.rf
  obtain ⟨py, ln, pf, tx, hO, hM, hNw, hOl, hOr, hI, hPo, hTx, hbl, hbh⟩ := id hD
  obtain ⟨hn16, hord, hxb, hDb, hlin, hpm, hD0, hmis⟩ := id hQ
  refine lv_aload_n hx hb dX7_missing_0 rfl (lv_at hl 0 rfl) ?_
  refine lv_iconst (v := 0) hx hb dX7_missing_1 (by decide) ?_
  refine xr_put (ci := 7) (v := .int 0) (ty := .int) (C := RX7) (T := TX7) (N := 18) hx hb hts (by decide +kernel) tyX7 tyX7_ok nmX7 hown hK.1 hO hS (show b ≤ b ∧ b < b + 12 by omega) rfl 0 (by decide) (hts (.fieldLink RX7 51 "SharesDeskModel" "thrown" "I") (by decide +kernel)) rfl (by decide +kernel) rfl rfl (Nat.le_of_ble_eq_true rfl) dX7_missing_2 (fun H locs hz hkp hO hS => ?_)
  replace hM := hM.kept (hkp _ (by omega))
  replace hNw := hNw.kept (fun q hq1 hq2 hq3 => hkp q (by omega))
  replace hOl := hOl.kept (fun q hq1 hq2 hq3 => hkp q (by omega))
  replace hOr := hOr.kept (hkp _ (by omega))
  replace hI := hI.kept (hkp _ (by omega))
  replace hPo := hPo.kept (hkp _ (by omega))
  replace hTx := hTx.kept (hkp _ (by omega))
  refine lv_iload_n hx hb dX7_missing_5 rfl (lv_at hl 1 rfl) ?_
  refine lv_iconst (v := 0) hx hb dX7_missing_6 (by decide) ?_
  refine lv_bipush (v := 15) hx hb dX7_missing_7 (by decide) ?_
  refine xr_Si (rest := []) ⟨hx, hb, hml, hown, hts⟩ (KK_ok g) hK (c_X7_within l g H p 0 15) (cwS 3 hts gX7_missing_X7_within rfl rfl rfl (by decide +kernel) ⟨Nat.le_of_ble_eq_true rfl, Nat.le_of_ble_eq_true rfl⟩) rfl hl.1 rfl (Nat.le_of_ble_eq_true rfl) dX7_missing_9 ⟨Nat.le_of_ble_eq_true rfl, Nat.le_of_ble_eq_true rfl⟩ hS (fun q h => h.elim) (fun r H locs hq hz hkp hS939 => ?_)
  obtain ⟨rfl, rfl⟩ := hq
  have hS := hS939
  refine xr_ti (x' := b2i (inR p 16)) (congrArg b2i (wi_in rfl)) ?_
  refine lv_if_eq (tgt := 41) hx hb dX7_missing_12 (by decide) (fun h0 => ?_) (fun h0 => ?_)
  · have h9 : inR p 16 = false := b2i_0.mp h0
    refine lv_iconst (v := 0) hx hb dX7_missing_41 (by decide) ?_
    exact xr_iret hx hb hr hlocks hS ⟨by unfold mMi oDr; rw [h9]; rfl, Rw, ⟨py, ln, pf, tx, hO, hM, hNw, hOl, hOr, hI, hPo, hTx, hbl, hbh⟩, fun _ _ => rfl⟩ dX7_missing_42
  · have h9 : inR p 16 = true := b2i_n0.mp h0
    obtain ⟨i, hi, rfl⟩ := inR_of h9 (by decide)
    obtain ⟨hC, hV, hW, hcb, hab⟩ := id hOl
    have hci := hcb i hi
    have hix : ix (nI i) = i := ix_nI (by omega)
    refine lv_aload_n hx hb dX7_missing_15 rfl (lv_at hl 0 rfl) ?_
    refine va_get (D := g.1) (ci := 7) (v := .ref (b + 5)) (C := RX7) (T := TX7) (N := 18) hx hb hts (by decide +kernel) hown hK.1 (xr_one hO) 0 rfl rfl 6 (by decide) (hts (.fieldLink RX7 27 "SharesDeskModel" "oldCosts" "[I") (by decide +kernel)) (fun _ h9 => h9) rfl dX7_missing_16 ?_
    refine lv_iload_n hx hb dX7_missing_19 rfl (lv_at hl 1 rfl) ?_
    refine xr_rd hx hb hK hC hi (by decide) dX7_missing_20 ?_
    refine lv_if_eq (tgt := 41) hx hb dX7_missing_21 (by decide) (fun h1 => ?_) (fun h1 => ?_)
    · have h8 : ¬ 0 < c i := by have := (nI_inj (b := 0) (by omega) (by decide)).mp h1; omega
      refine lv_iconst (v := 0) hx hb dX7_missing_41 (by decide) ?_
      exact xr_iret hx hb hr hlocks hS ⟨by unfold mMi oDr; rw [hix, decide_eq_false h8, Bool.and_false]; rfl, Rw, ⟨py, ln, pf, tx, hO, hM, hNw, hOl, hOr, hI, hPo, hTx, hbl, hbh⟩, fun _ _ => rfl⟩ dX7_missing_42
    · have h8 : 0 < c i := Nat.pos_of_ne_zero fun q => h1 (by rw [q]; rfl)
      refine lv_aload_n hx hb dX7_missing_24 rfl (lv_at hl 0 rfl) ?_
      refine va_get (D := g.1) (ci := 7) (v := .ref (b + 9)) (C := RX7) (T := TX7) (N := 18) hx hb hts (by decide +kernel) hown hK.1 (xr_one hO) 0 rfl rfl 13 (by decide) (hts (.fieldLink RX7 42 "SharesDeskModel" "isChosen" "[Z") (by decide +kernel)) (fun _ h9 => h9) rfl dX7_missing_25 ?_
      refine lv_iload_n hx hb dX7_missing_28 rfl (lv_at hl 1 rfl) ?_
      refine xr_zrd hx hb hK hI hi (by decide) dX7_missing_29 ?_
      refine lv_if_ne (tgt := 41) hx hb dX7_missing_30 (by decide) (fun h2 => ?_) (fun h2 => ?_)
      · have h7 : ch i = true := b2i_n0.mp h2
        refine lv_iconst (v := 0) hx hb dX7_missing_41 (by decide) ?_
        exact xr_iret hx hb hr hlocks hS ⟨by unfold mMi; rw [if_neg (fun q => by rw [hix, h7] at q; cases q.2)], Rw, ⟨py, ln, pf, tx, hO, hM, hNw, hOl, hOr, hI, hPo, hTx, hbl, hbh⟩, fun _ _ => rfl⟩ dX7_missing_42
      · have h7 : ch i = false := b2i_0.mp h2
        have hod : oDr c (nI i) = true := by unfold oDr; rw [h9, hix, decide_eq_true h8]; rfl
        have hD9 := hD0 (Or.inr ⟨i, hi, h8⟩)
        have hms := hmis i hi h8 h7
        have hnb : Rw 848 * c i ≤ 2 ^ 100 * 1000000 := Nat.mul_le_mul hDb hci
        have hans : mMi c vs ap Rw ch (nI i) part word = wQ (Rw 848 * c i - sg (suM (sqp vs ap i) Rw) 48) (Rw 848) part word := by unfold mMi; rw [hix, if_pos ⟨hod, h7⟩]
        refine lv_iload_n hx hb dX7_missing_33 rfl (lv_at hl 2 rfl) ?_
        refine lv_iload_n hx hb dX7_missing_34 rfl (lv_at hl 3 rfl) ?_
        refine xr_Si (rest := []) ⟨hx, hb, hml, hown, hts⟩ (KK_ok g) hK (c_X7_isPart l g H part word) (cwS 2 hts gX7_missing_X7_isPart rfl rfl rfl (by decide +kernel) ⟨Nat.le_of_ble_eq_true rfl, Nat.le_of_ble_eq_true rfl⟩) rfl hl.1 rfl (Nat.le_of_ble_eq_true rfl) dX7_missing_35 ⟨Nat.le_of_ble_eq_true rfl, Nat.le_of_ble_eq_true rfl⟩ hS (fun q h => h.elim) (fun r H locs hq hz hkp hS940 => ?_)
        obtain ⟨rfl, rfl⟩ := hq
        have hS := hS940
        refine lv_if_ne (tgt := 43) hx hb dX7_missing_38 (by decide) (fun h3 => ?_) (fun h3 => ?_)
        · have h6 : isP part word = true := b2i_n0.mp h3
          obtain ⟨hpt, j9, hj9, rfl⟩ := isP_t h6
          refine lv_aload_n hx hb dX7_missing_43 rfl (lv_at hl 0 rfl) ?_
          refine lv_iload_n hx hb dX7_missing_44 rfl (lv_at hl 1 rfl) ?_
          refine xr_Vv (rest := []) ⟨hx, hb, hml, hown, hts⟩ (KK_ok g) hK (c_X7_gather l g H b 0 (nI bu0) (nI bu) (nI cn) (nI n) py ln hO Rw hM c vs ap hOl ⟨hxb, by omega⟩ i hi) (cwV 1 hts gX7_missing_X7_gather rfl rfl rfl (by decide +kernel) ⟨Nat.le_of_ble_eq_true rfl, Nat.le_of_ble_eq_true rfl⟩) (xr_rec hK hO rfl) rfl hl.1 rfl (Nat.le_of_ble_eq_true rfl) dX7_missing_45 ⟨Nat.le_of_ble_eq_true rfl, Nat.le_of_ble_eq_true rfl⟩ hS (fun q h => by have h : q = b + 1 := h; show b ≤ q ∧ q < b + 12; omega) (fun _ H locs hq hz hkp hS => ?_)
          replace hkp := fun (q : Nat) h1 (h2 : ¬ (q = b + 1)) => hkp q h1 h2
          replace hO := hO.kept (hkp _ hO.lt (by omega))
          replace hNw := hNw.kept (fun q hq1 hq2 hq3 => hkp q hq1 (by omega))
          replace hOl := hOl.kept (fun q hq1 hq2 hq3 => hkp q hq1 (by omega))
          replace hOr := hOr.kept (hkp _ hOr.lt (by omega))
          replace hI := hI.kept (hkp _ hI.lt (by omega))
          replace hPo := hPo.kept (hkp _ hPo.lt (by omega))
          replace hTx := hTx.kept (hkp _ hTx.lt (by omega))
          obtain ⟨R2, hM, g1, g2, g3⟩ := hq
          refine lv_aload_n hx hb dX7_missing_48 rfl (lv_at hl 0 rfl) ?_
          refine lv_sipush (v := 850) hx hb dX7_missing_49 (by decide) ?_
          refine xr_ti (x' := nI 850) rfl ?_
          refine lv_sipush (v := 850) hx hb dX7_missing_52 (by decide) ?_
          refine xr_ti (x' := nI 850) rfl ?_
          refine lv_sipush (v := 849) hx hb dX7_missing_55 (by decide) ?_
          refine xr_ti (x' := nI 849) rfl ?_
          refine xr_Vv (rest := []) ⟨hx, hb, hml, hown, hts⟩ (KK_ok g) hK (c_X7_lessen l g H b 0 (nI bu0) (nI bu) (nI cn) (nI n) py ln hO R2 hM 850 850 849 (by decide) (by decide) (by decide) (by rw [g1, g2]; exact hms)) (cwV 3 hts gX7_missing_X7_lessen rfl rfl rfl (by decide +kernel) ⟨Nat.le_of_ble_eq_true rfl, Nat.le_of_ble_eq_true rfl⟩) (xr_rec hK hO rfl) rfl hl.1 rfl (Nat.le_of_ble_eq_true rfl) dX7_missing_58 ⟨Nat.le_of_ble_eq_true rfl, Nat.le_of_ble_eq_true rfl⟩ hS (fun q h => by have h : q = b + 1 := h; show b ≤ q ∧ q < b + 12; omega) (fun _ H locs hq hz hkp hS => ?_)
          replace hkp := fun (q : Nat) h1 (h2 : ¬ (q = b + 1)) => hkp q h1 h2
          replace hO := hO.kept (hkp _ hO.lt (by omega))
          replace hNw := hNw.kept (fun q hq1 hq2 hq3 => hkp q hq1 (by omega))
          replace hOl := hOl.kept (fun q hq1 hq2 hq3 => hkp q hq1 (by omega))
          replace hOr := hOr.kept (hkp _ hOr.lt (by omega))
          replace hI := hI.kept (hkp _ hI.lt (by omega))
          replace hPo := hPo.kept (hkp _ hPo.lt (by omega))
          replace hTx := hTx.kept (hkp _ hTx.lt (by omega))
          obtain ⟨R3, hR3⟩ : ∃ r9 : Nat → Nat, r9 = va_up R2 850 (R2 850 - R2 849) := ⟨_, rfl⟩
          have hMR3 : RwsAt g H b R3 := by rw [hR3]; exact hq
          clear hM
          have k1 : R3 850 = Rw 848 * c i - sg (suM (sqp vs ap i) Rw) 48 := by rw [hR3, va_up_self, g1, g2]
          have k2 : R3 848 = Rw 848 := by rw [hR3, va_up_ne _ _ (by decide), g3 848 (by decide) (by decide)]
          refine lv_aload_n hx hb dX7_missing_61 rfl (lv_at hl 0 rfl) ?_
          refine lv_sipush (v := 850) hx hb dX7_missing_62 (by decide) ?_
          refine xr_ti (x' := nI 850) rfl ?_
          refine lv_sipush (v := 848) hx hb dX7_missing_65 (by decide) ?_
          refine xr_ti (x' := nI 848) rfl ?_
          refine lv_iload_n hx hb dX7_missing_68 rfl (lv_at hl 2 rfl) ?_
          refine lv_iload_n hx hb dX7_missing_69 rfl (lv_at hl 3 rfl) ?_
          refine xr_Vi (rest := []) ⟨hx, hb, hml, hown, hts⟩ (KK_ok g) hK (c_X7_word l g H b 0 (nI bu0) (nI bu) (nI cn) (nI n) py ln hO R3 hMR3 850 848 (by decide) (by decide) (by rw [k2]; exact hD9) (by rw [k1]; omega) (by rw [k2]; omega) part hpt j9 hj9) (cwV 4 hts gX7_missing_X7_word rfl rfl rfl (by decide +kernel) ⟨Nat.le_of_ble_eq_true rfl, Nat.le_of_ble_eq_true rfl⟩) (xr_rec hK hO rfl) rfl hl.1 rfl (Nat.le_of_ble_eq_true rfl) dX7_missing_70 ⟨Nat.le_of_ble_eq_true rfl, Nat.le_of_ble_eq_true rfl⟩ hS (fun q h => by have h : q = b + 1 := h; show b ≤ q ∧ q < b + 12; omega) (fun rr H locs hq hz hkp hS => ?_)
          replace hkp := fun (q : Nat) h1 (h2 : ¬ (q = b + 1)) => hkp q h1 h2
          replace hO := hO.kept (hkp _ hO.lt (by omega))
          replace hNw := hNw.kept (fun q hq1 hq2 hq3 => hkp q hq1 (by omega))
          replace hOl := hOl.kept (fun q hq1 hq2 hq3 => hkp q hq1 (by omega))
          replace hOr := hOr.kept (hkp _ hOr.lt (by omega))
          replace hI := hI.kept (hkp _ hI.lt (by omega))
          replace hPo := hPo.kept (hkp _ hPo.lt (by omega))
          replace hTx := hTx.kept (hkp _ hTx.lt (by omega))
          obtain ⟨rfl, R1, hM, eR⟩ := hq
          exact xr_iret hx hb hr hlocks hS ⟨by rw [hans, k1, k2], R1, ⟨py, ln, pf, tx, hO, hM, hNw, hOl, hOr, hI, hPo, hTx, hbl, hbh⟩, fun j hj => by rw [eR j (by omega), hR3, va_up_ne _ _ (by omega), g3 j (by omega) (by omega)]⟩ dX7_missing_73
        · have h6 : isP part word = false := b2i_0.mp h3
          refine lv_iconst (v := 0) hx hb dX7_missing_41 (by decide) ?_
          exact xr_iret hx hb hr hlocks hS ⟨by rw [hans]; unfold wQ; rw [rwd_np h6], Rw, ⟨py, ln, pf, tx, hO, hM, hNw, hOl, hOr, hI, hPo, hTx, hbl, hbh⟩, fun _ _ => rfl⟩ dX7_missing_42
