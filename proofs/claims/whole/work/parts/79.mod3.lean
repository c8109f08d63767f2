set_option maxHeartbeats 400000 in
set_option maxRecDepth 100000 in
theorem c_X7_supports (l : Launch) (g : WG) (H0 : Heap) (b : Nat) (th bu ob cn rn py ln : Int32) (hO : obj g H0 b 7 (moF b th bu ob cn rn py ln)) (c : Nat → Nat) (vs : Nat) (ap : Nat → Nat) (hOl : OldAt g H0 b c vs ap) (v p : Nat) (hv : v < 48) (hp : p < 16) : Ctr l (KK g) yX7_supports wsX7_supports { frames := 0, cells := 0, slots := 0, locals := 0 } [.ref b, .int (nI v), .int (nI p)] H0 eI (fun r H => r = b2i (sqp vs ap p v) ∧ H = H0) (fun _ => False) := by
  refine xr_enter (cc := cX7_supports) (maxL := 3) (ret := (some .boolean)) (by decide) rfl (Nat.le_of_ble_eq_true rfl) ?_
  intro pgm env s mid below meth cde hx hb hr hml hts hown hlocks hnm hH hK ls hl
  subst hH
  have hl : lv_has ls 3 [(0, .ref b), (1, .int (nI v)), (2, .int (nI p))] := hl
  have hS : va_S (fun _ => False) s.heap s.heap [] := va_S.rf
  obtain ⟨hC, hV, hW, hcb, hab⟩ := id hOl
  have ha9 := hab v hv
  refine lv_aload_n hx hb dX7_supports_0 rfl (lv_at hl 0 rfl) ?_
  refine va_get (D := g.1) (ci := 7) (v := .ref (b + 6)) (C := RX7) (T := TX7) (N := 18) hx hb hts (by decide +kernel) hown hK.1 (xr_one hO) 0 rfl rfl 7 (by decide) (hts (.fieldLink RX7 30 "SharesDeskModel" "oldVoters" "[Z") (by decide +kernel)) (fun _ h9 => h9) rfl dX7_supports_1 ?_
  refine lv_iload_n hx hb dX7_supports_4 rfl (lv_at hl 1 rfl) ?_
  refine xr_zrd hx hb hK hV hv (by decide) dX7_supports_5 ?_
  refine lv_if_eq (tgt := 27) hx hb dX7_supports_6 (by decide) (fun h1 => ?_) (fun h1 => ?_)
  · have e := b2i_0.mp h1
    refine lv_iconst (v := 0) hx hb dX7_supports_27 (by decide) ?_
    exact xr_zret hx hb hr rfl hlocks hS ⟨by unfold sqp; rw [e]; rfl, rfl⟩ dX7_supports_28
  · have e := b2i_n0.mp h1
    refine lv_aload_n hx hb dX7_supports_9 rfl (lv_at hl 0 rfl) ?_
    refine va_get (D := g.1) (ci := 7) (v := .ref (b + 7)) (C := RX7) (T := TX7) (N := 18) hx hb hts (by decide +kernel) hown hK.1 (xr_one hO) 0 rfl rfl 8 (by decide) (hts (.fieldLink RX7 33 "SharesDeskModel" "oldWishes" "[I") (by decide +kernel)) (fun _ h9 => h9) rfl dX7_supports_10 ?_
    refine lv_iload_n hx hb dX7_supports_13 rfl (lv_at hl 1 rfl) ?_
    refine xr_rd hx hb hK hW hv (by decide) dX7_supports_14 ?_
    refine lv_iload_n hx hb dX7_supports_15 rfl (lv_at hl 2 rfl) ?_
    refine lv_ishr hx hb dX7_supports_16 ?_
    refine xr_ti (x' := nI (ap v / 2 ^ p)) (pk_shrN (by omega) _ p (sh32 p (by omega))) ?_
    refine lv_iconst (v := 1) hx hb dX7_supports_17 (by decide) ?_
    refine lv_iand hx hb dX7_supports_18 ?_
    refine xr_ti (x' := nI (ap v / 2 ^ p % 2)) (pk_andN (Nat.lt_of_le_of_lt (Nat.div_le_self _ _) (by omega)) 1 rfl) ?_
    refine lv_iconst (v := 1) hx hb dX7_supports_19 (by decide) ?_
    refine xr_ti (x' := nI 1) rfl ?_
    have hb2 : ap v / 2 ^ p % 2 < 2 := Nat.mod_lt _ (by decide)
    refine lv_icmp_ne (tgt := 27) hx hb dX7_supports_20 (by decide) (fun h2 => ?_) (fun h2 => ?_)
    · have e2 : ap v / 2 ^ p % 2 = 0 := by have : ¬ ap v / 2 ^ p % 2 = 1 := fun q => h2 (by rw [q]); omega
      refine lv_iconst (v := 0) hx hb dX7_supports_27 (by decide) ?_
      exact xr_zret hx hb hr rfl hlocks hS ⟨by unfold sqp; rw [e, tb_f e2]; rfl, rfl⟩ dX7_supports_28
    · have e2 : ap v / 2 ^ p % 2 = 1 := (nI_inj (by omega) (by decide)).mp h2
      refine lv_iconst (v := 1) hx hb dX7_supports_23 (by decide) ?_
      refine lv_goto (tgt := 28) hx hb dX7_supports_24 (by decide) ?_
      exact xr_zret hx hb hr rfl hlocks hS ⟨by unfold sqp; rw [e, tb_t (by omega)]; rfl, rfl⟩ dX7_supports_28
set_option maxHeartbeats 400000 in
set_option maxRecDepth 100000 in
theorem c_X7_gather (l : Launch) (g : WG) (H0 : Heap) (b : Nat) (th bu ob cn rn py ln : Int32) (hO : obj g H0 b 7 (moF b th bu ob cn rn py ln)) (Rw : Nat → Nat) (hM : RwsAt g H0 b Rw) (c : Nat → Nat) (vs : Nat) (ap : Nat → Nat) (hOl : OldAt g H0 b c vs ap) (hBd : BdR Rw) (p : Nat) (hp : p < 16) : Ctr l (KK g) yX7_gather wsX7_gather { frames := 1, cells := 0, slots := 0, locals := 28 } [.ref b, .int (nI p)] H0 eV (fun _ H => ∃ R1 : Nat → Nat, RwsAt g H b R1 ∧ R1 849 = sg (suM (sqp vs ap p) Rw) 48 ∧ R1 850 = Rw 848 * c p ∧ ∀ j, j ≠ 849 → j ≠ 850 → R1 j = Rw j) (fun q => q = b + 1) := by
  refine xr_enter (cc := cX7_gather) (maxL := 3) (ret := none) (by decide) rfl (Nat.le_of_ble_eq_true rfl) ?_
  intro pgm env s mid below meth cde hx hb hr hml hts hown hlocks hnm hH hK ls hl
  subst hH
  have hl : lv_has ls 3 [(0, .ref b), (1, .int (nI p))] := hl
  have hS : va_S (fun q => q = b + 1) s.heap s.heap [] := va_S.rf
  obtain ⟨hf, hRb⟩ := id hM
  obtain ⟨hC, hV, hW, hcb, hab⟩ := id hOl
  have hcp := hcb p hp
  have loop : ∀ (n v : Nat), v + n = 48 → ∀ (H : Heap) (locs : List Loc) (R1 : Nat → Nat), obj g H b 7 (moF b th bu ob cn rn py ln) → RwsAt g H b R1 → OldAt g H b c vs ap → R1 849 = sg (suM (sqp vs ap p) Rw) v → (∀ j, j ≠ 849 → R1 j = Rw j) → va_S (fun q => q = b + 1) s.heap H locs → ∀ ls : Array Slot, lv_has ls 3 [(2, .int (nI v)), (0, .ref b), (1, .int (nI p))] → W pgm l env { frames := 1, cells := 0, slots := 0, locals := 28 } s mid ([.ref b, .int (nI p)] : List Value).toArray below meth cde H locs 0 0 (MQ below (xr_Post eV (fun _ H => ∃ R1 : Nat → Nat, RwsAt g H b R1 ∧ R1 849 = sg (suM (sqp vs ap p) Rw) 48 ∧ R1 850 = Rw 848 * c p ∧ ∀ j, j ≠ 849 → j ≠ 850 → R1 j = Rw j) (fun q => q = b + 1)) ([.ref b, .int (nI p)] : List Value).toArray s ({ frames := 1, cells := 0, slots := 0, locals := 28 } : Room).cells ({ frames := 1, cells := 0, slots := 0, locals := 28 } : Room).slots (fun q => q = b + 1)) (F0 mid 10 ls []) := by
    intro n
    induction n with
    | zero =>
      intro v h1 H locs R1 hO hM1 hOl e1 e2 hS ls hl
      have e : v = 48 := by omega
      subst e
      obtain ⟨hC, hV, hW, hcb, hab⟩ := id hOl
      refine lv_iload_n hx hb dX7_gather_10 rfl (lv_at hl 0 rfl) ?_
      refine lv_bipush (v := 48) hx hb dX7_gather_11 (by decide) ?_
      refine lv_icmp_ge (tgt := 42) hx hb dX7_gather_13 (by decide) (fun hc => ?_) (fun hc => ?_)
      · clear hc
        refine lv_aload_n hx hb dX7_gather_42 rfl (lv_at hl 1 rfl) ?_
        refine lv_sipush (v := 850) hx hb dX7_gather_43 (by decide) ?_
        refine xr_ti (x' := nI 850) rfl ?_
        refine lv_sipush (v := 848) hx hb dX7_gather_46 (by decide) ?_
        refine xr_ti (x' := nI 848) rfl ?_
        refine lv_aload_n hx hb dX7_gather_49 rfl (lv_at hl 1 rfl) ?_
        refine va_get (D := g.1) (ci := 7) (v := .ref (b + 5)) (C := RX7) (T := TX7) (N := 18) hx hb hts (by decide +kernel) hown hK.1 (xr_one hO) 0 rfl rfl 6 (by decide) (hts (.fieldLink RX7 27 "SharesDeskModel" "oldCosts" "[I") (by decide +kernel)) (fun _ h9 => h9) rfl dX7_gather_50 ?_
        refine lv_iload_n hx hb dX7_gather_53 rfl (lv_at hl 2 rfl) ?_
        refine xr_rd hx hb hK hC hp (by decide) dX7_gather_54 ?_
        have e8 : R1 848 = Rw 848 := e2 848 (by decide)
        have e7 : Rw 848 * c p ≤ 2 ^ 125 * 1000000 := Nat.mul_le_mul hBd.2 hcp
        refine xr_Vv (rest := []) ⟨hx, hb, hml, hown, hts⟩ (KK_ok g) hK (c_X7_times l g H b th bu ob cn rn py ln hO R1 hM1 850 848 (c p) (by decide) (by decide) (by omega) (by rw [e8]; exact Nat.lt_of_le_of_lt e7 (by decide))) (cwV 3 hts gX7_gather_X7_times rfl rfl rfl (by decide +kernel) ⟨Nat.le_of_ble_eq_true rfl, Nat.le_of_ble_eq_true rfl⟩) (xr_rec hK hO rfl) rfl hl.1 rfl (Nat.le_of_ble_eq_true rfl) dX7_gather_55 ⟨Nat.le_of_ble_eq_true rfl, Nat.le_of_ble_eq_true rfl⟩ hS (fun q h => h) (fun _ H locs hq hz hkp hS => ?_)
        obtain ⟨R2, hR2⟩ : ∃ r9 : Nat → Nat, r9 = va_up R1 850 (R1 848 * c p) := ⟨_, rfl⟩
        have hMR2 : RwsAt g H b R2 := by rw [hR2]; exact hq
        exact xr_vret hx hb hr hlocks hS ⟨R2, hMR2, by rw [hR2, va_up_ne _ _ (by decide), e1], by rw [hR2, va_up_self, e8], fun j j1 j2 => by rw [hR2, va_up_ne _ _ j2, e2 j j1]⟩ dX7_gather_58
      · exact absurd (by decide) hc
    | succ n ih =>
      intro v h1 H locs R1 hO hM1 hOl e1 e2 hS ls hl
      have e8 : R1 v = Rw v := e2 v (by omega)
      have e7 := hBd.1 v (by omega)
      have e6 : sg (suM (sqp vs ap p) Rw) v ≤ v * 2 ^ 125 := sg_bd v (fun i hi => Nat.le_trans suM_le (hBd.1 i (by omega)))
      have e5 : v * 2 ^ 125 ≤ 48 * 2 ^ 125 := Nat.mul_le_mul_right _ (by omega)
      refine lv_iload_n hx hb dX7_gather_10 rfl (lv_at hl 0 rfl) ?_
      refine lv_bipush (v := 48) hx hb dX7_gather_11 (by decide) ?_
      refine lv_icmp_ge (tgt := 42) hx hb dX7_gather_13 (by decide) (fun hc => ?_) (fun hc => ?_)
      · exact absurd ((nI_leI (a := 48) (b := v) (by decide) (by omega)).mp hc) (by omega)
      · clear hc
        refine lv_aload_n hx hb dX7_gather_16 rfl (lv_at hl 1 rfl) ?_
        refine lv_iload_n hx hb dX7_gather_17 rfl (lv_at hl 0 rfl) ?_
        refine lv_iload_n hx hb dX7_gather_18 rfl (lv_at hl 2 rfl) ?_
        refine xr_Vi (rest := []) ⟨hx, hb, hml, hown, hts⟩ (KK_ok g) hK (c_X7_supports l g H b th bu ob cn rn py ln hO c vs ap hOl v p (by omega) hp) (cwV 2 hts gX7_gather_X7_supports rfl rfl rfl (by decide +kernel) ⟨Nat.le_of_ble_eq_true rfl, Nat.le_of_ble_eq_true rfl⟩) (xr_rec hK hO rfl) rfl hl.1 rfl (Nat.le_of_ble_eq_true rfl) dX7_gather_19 ⟨Nat.le_of_ble_eq_true rfl, Nat.le_of_ble_eq_true rfl⟩ hS (fun q h => h.elim) (fun r H locs hq hz hkp hS9 => ?_)
        obtain ⟨rfl, rfl⟩ := hq
        have hS := hS9
        refine lv_if_eq (tgt := 36) hx hb dX7_gather_22 (by decide) (fun h2 => ?_) (fun h2 => ?_)
        · have e := b2i_0.mp h2
          refine lv_iinc (v := nI (v + 1)) (lv' := [(2, .int (nI (v + 1))), (0, .ref b), (1, .int (nI p))]) hx hb dX7_gather_36 hl (k := 0) rfl (nI_1 v) (by decide) rfl (fun ls hl => ?_)
          refine lv_goto (tgt := 10) hx hb dX7_gather_39 (by decide) ?_
          exact ih (v + 1) (by omega) H _ R1 hO hM1 hOl (by rw [e1, sg, suM, if_neg (by rw [e]; decide), Nat.add_zero]) (e2) hS ls (lv_sub hl [0, 1, 2] rfl)
        · have e := b2i_n0.mp h2
          refine lv_aload_n hx hb dX7_gather_25 rfl (lv_at hl 1 rfl) ?_
          refine lv_sipush (v := 849) hx hb dX7_gather_26 (by decide) ?_
          refine xr_ti (x' := nI 849) rfl ?_
          refine lv_sipush (v := 849) hx hb dX7_gather_29 (by decide) ?_
          refine xr_ti (x' := nI 849) rfl ?_
          refine lv_iload_n hx hb dX7_gather_32 rfl (lv_at hl 0 rfl) ?_
          refine xr_Vv (rest := []) ⟨hx, hb, hml, hown, hts⟩ (KK_ok g) hK (c_X7_add l g H b th bu ob cn rn py ln hO R1 hM1 849 849 v (by decide) (by decide) (by omega) (by rw [e1, e8]; exact Nat.lt_of_le_of_lt (Nat.add_le_add (Nat.le_trans e6 e5) e7) (by decide))) (cwV 3 hts gX7_gather_X7_add rfl rfl rfl (by decide +kernel) ⟨Nat.le_of_ble_eq_true rfl, Nat.le_of_ble_eq_true rfl⟩) (xr_rec hK hO rfl) rfl hl.1 rfl (Nat.le_of_ble_eq_true rfl) dX7_gather_33 ⟨Nat.le_of_ble_eq_true rfl, Nat.le_of_ble_eq_true rfl⟩ hS (fun q h => h) (fun _ H locs hq hz hkp hS => ?_)
          replace hkp := fun (q : Nat) h1 (h2 : ¬ (q = b + 1)) => hkp q h1 h2
          replace hO := hO.kept (hkp _ hO.lt (by omega))
          replace hOl := hOl.kept (fun q hq1 hq2 hq3 => hkp q hq1 (by omega))
          obtain ⟨R2, hR2⟩ : ∃ r9 : Nat → Nat, r9 = va_up R1 849 (R1 849 + R1 v) := ⟨_, rfl⟩
          have hMR2 : RwsAt g H b R2 := by rw [hR2]; exact hq
          refine lv_iinc (v := nI (v + 1)) (lv' := [(2, .int (nI (v + 1))), (0, .ref b), (1, .int (nI p))]) hx hb dX7_gather_36 hl (k := 0) rfl (nI_1 v) (by decide) rfl (fun ls hl => ?_)
          refine lv_goto (tgt := 10) hx hb dX7_gather_39 (by decide) ?_
          exact ih (v + 1) (by omega) H _ R2 hO hMR2 hOl (by rw [hR2, va_up_self, e1, e8, sg, suM, if_pos e]) (fun j j1 => by rw [hR2, va_up_ne _ _ j1, e2 j j1]) hS ls (lv_sub hl [0, 1, 2] rfl)
  refine lv_aload_n hx hb dX7_gather_0 rfl (lv_at hl 0 rfl) ?_
  refine lv_sipush (v := 849) hx hb dX7_gather_1 (by decide) ?_
  refine xr_ti (x' := nI 849) rfl ?_
  refine lv_lconst (v := 0) hx hb dX7_gather_4 (by decide) ?_
  refine xr_tl (x' := lN 0) rfl ?_
  refine xr_Vv (rest := []) ⟨hx, hb, hml, hown, hts⟩ (KK_ok g) hK (c_X7_set l g s.heap b th bu ob cn rn py ln hO Rw hM 849 0 (by decide) (by decide)) (cwV 2 hts gX7_gather_X7_set rfl rfl rfl (by decide +kernel) ⟨Nat.le_of_ble_eq_true rfl, Nat.le_of_ble_eq_true rfl⟩) (xr_rec hK hO rfl) rfl hl.1 rfl (Nat.le_of_ble_eq_true rfl) dX7_gather_5 ⟨Nat.le_of_ble_eq_true rfl, Nat.le_of_ble_eq_true rfl⟩ hS (fun q h => h) (fun _ H locs hq hz hkp hS => ?_)
  replace hkp := fun (q : Nat) h1 (h2 : ¬ (q = b + 1)) => hkp q h1 h2
  replace hO := hO.kept (hkp _ hO.lt (by omega))
  replace hOl := hOl.kept (fun q hq1 hq2 hq3 => hkp q hq1 (by omega))
  obtain ⟨R1, hR1⟩ : ∃ r9 : Nat → Nat, r9 = va_up Rw 849 (0) := ⟨_, rfl⟩
  have hMR1 : RwsAt g H b R1 := by rw [hR1]; exact hq
  refine lv_iconst (v := 0) hx hb dX7_gather_8 (by decide) ?_
  refine xr_ti (x' := nI 0) rfl ?_
  refine lv_istore_n (lv' := [(2, .int (nI 0)), (0, .ref b), (1, .int (nI p))]) hx hb dX7_gather_9 rfl hl (by decide) rfl (fun ls hl => ?_)
  exact loop 48 0 (by omega) H _ R1 hO hMR1 hOl (by rw [hR1, va_up_self]; rfl) (fun j j1 => by rw [hR1, va_up_ne _ _ j1]) hS ls (lv_sub hl [0, 1, 2] rfl)
set_option maxHeartbeats 400000 in
set_option maxRecDepth 100000 in
theorem c_X7_isAfforded (l : Launch) (g : WG) (H0 : Heap) (b : Nat) (th bu ob cn rn py ln : Int32) (hO : obj g H0 b 7 (moF b th bu ob cn rn py ln)) (Rw : Nat → Nat) (hM : RwsAt g H0 b Rw) (c : Nat → Nat) (vs : Nat) (ap : Nat → Nat) (hOl : OldAt g H0 b c vs ap) (hBd : BdR Rw) (ch : Nat → Bool) (hI : xr_ia H0 (b + 9) (gZ g) 16 (fun z9 => b2i (ch z9))) (p : Nat) (hp : p < 16) : Ctr l (KK g) yX7_isAfforded wsX7_isAfforded { frames := 2, cells := 0, slots := 0, locals := 50 } [.ref b, .int (nI p)] H0 eI (fun r H => r = b2i (affB c vs ap (Rw 848) Rw ch p) ∧ ∃ R1 : Nat → Nat, RwsAt g H b R1 ∧ ∀ j, j ≠ 849 → j ≠ 850 → R1 j = Rw j) (fun q => q = b + 1) := by
  refine xr_enter (cc := cX7_isAfforded) (maxL := 2) (ret := (some .boolean)) (by decide) rfl (Nat.le_of_ble_eq_true rfl) ?_
  intro pgm env s mid below meth cde hx hb hr hml hts hown hlocks hnm hH hK ls hl
  subst hH
  have hl : lv_has ls 2 [(0, .ref b), (1, .int (nI p))] := hl
  have hS : va_S (fun q => q = b + 1) s.heap s.heap [] := va_S.rf
  obtain ⟨hf, hRb⟩ := id hM
  obtain ⟨hC, hV, hW, hcb, hab⟩ := id hOl
  have hcp := hcb p hp
  refine lv_aload_n hx hb dX7_isAfforded_0 rfl (lv_at hl 0 rfl) ?_
  refine va_get (D := g.1) (ci := 7) (v := .ref (b + 5)) (C := RX7) (T := TX7) (N := 18) hx hb hts (by decide +kernel) hown hK.1 (xr_one hO) 0 rfl rfl 6 (by decide) (hts (.fieldLink RX7 27 "SharesDeskModel" "oldCosts" "[I") (by decide +kernel)) (fun _ h9 => h9) rfl dX7_isAfforded_1 ?_
  refine lv_iload_n hx hb dX7_isAfforded_4 rfl (lv_at hl 1 rfl) ?_
  refine xr_rd hx hb hK hC hp (by decide) dX7_isAfforded_5 ?_
  refine lv_if_eq (tgt := 18) hx hb dX7_isAfforded_6 (by decide) (fun h1 => ?_) (fun h1 => ?_)
  · have e : ¬ 0 < c p := by have := (nI_inj (b := 0) (by omega) (by decide)).mp h1; omega
    refine lv_iconst (v := 0) hx hb dX7_isAfforded_18 (by decide) ?_
    exact xr_zret hx hb hr rfl hlocks hS ⟨by unfold affB; rw [decide_eq_false e]; rfl, Rw, hM, fun _ _ _ => rfl⟩ dX7_isAfforded_19
  · have e : 0 < c p := Nat.pos_of_ne_zero fun q => h1 (by rw [q]; rfl)
    refine lv_aload_n hx hb dX7_isAfforded_9 rfl (lv_at hl 0 rfl) ?_
    refine va_get (D := g.1) (ci := 7) (v := .ref (b + 9)) (C := RX7) (T := TX7) (N := 18) hx hb hts (by decide +kernel) hown hK.1 (xr_one hO) 0 rfl rfl 13 (by decide) (hts (.fieldLink RX7 42 "SharesDeskModel" "isChosen" "[Z") (by decide +kernel)) (fun _ h9 => h9) rfl dX7_isAfforded_10 ?_
    refine lv_iload_n hx hb dX7_isAfforded_13 rfl (lv_at hl 1 rfl) ?_
    refine xr_zrd hx hb hK hI hp (by decide) dX7_isAfforded_14 ?_
    refine lv_if_eq (tgt := 20) hx hb dX7_isAfforded_15 (by decide) (fun h2 => ?_) (fun h2 => ?_)
    · have e2 := b2i_0.mp h2
      refine lv_aload_n hx hb dX7_isAfforded_20 rfl (lv_at hl 0 rfl) ?_
      refine lv_iload_n hx hb dX7_isAfforded_21 rfl (lv_at hl 1 rfl) ?_
      refine xr_Vv (rest := []) ⟨hx, hb, hml, hown, hts⟩ (KK_ok g) hK (c_X7_gather l g s.heap b th bu ob cn rn py ln hO Rw hM c vs ap hOl hBd p hp) (cwV 1 hts gX7_isAfforded_X7_gather rfl rfl rfl (by decide +kernel) ⟨Nat.le_of_ble_eq_true rfl, Nat.le_of_ble_eq_true rfl⟩) (xr_rec hK hO rfl) rfl hl.1 rfl (Nat.le_of_ble_eq_true rfl) dX7_isAfforded_22 ⟨Nat.le_of_ble_eq_true rfl, Nat.le_of_ble_eq_true rfl⟩ hS (fun q h => h) (fun _ H locs hq hz hkp hS => ?_)
      replace hkp := fun (q : Nat) h1 (h2 : ¬ (q = b + 1)) => hkp q h1 h2
      replace hO := hO.kept (hkp _ hO.lt (by omega))
      obtain ⟨R1, hM1, f1, f2, f3⟩ := hq
      refine lv_aload_n hx hb dX7_isAfforded_25 rfl (lv_at hl 0 rfl) ?_
      refine lv_sipush (v := 849) hx hb dX7_isAfforded_26 (by decide) ?_
      refine xr_ti (x' := nI 849) rfl ?_
      refine lv_sipush (v := 850) hx hb dX7_isAfforded_29 (by decide) ?_
      refine xr_ti (x' := nI 850) rfl ?_
      refine xr_Vi (rest := []) ⟨hx, hb, hml, hown, hts⟩ (KK_ok g) hK (c_X7_compare l g H b th bu ob cn rn py ln hO R1 hM1 849 850 (by decide) (by decide)) (cwV 2 hts gX7_isAfforded_X7_compare rfl rfl rfl (by decide +kernel) ⟨Nat.le_of_ble_eq_true rfl, Nat.le_of_ble_eq_true rfl⟩) (xr_rec hK hO rfl) rfl hl.1 rfl (Nat.le_of_ble_eq_true rfl) dX7_isAfforded_32 ⟨Nat.le_of_ble_eq_true rfl, Nat.le_of_ble_eq_true rfl⟩ hS (fun q h => h.elim) (fun r H locs hq hz hkp hS9 => ?_)
      obtain ⟨rfl, rfl⟩ := hq
      have hS := hS9
      refine lv_if_lt (tgt := 42) hx hb dX7_isAfforded_35 (by decide) (fun h3 => ?_) (fun h3 => ?_)
      · have e3 : ¬ Rw 848 * c p ≤ sg (suM (sqp vs ap p) Rw) 48 := by have := cmpI_lt0 h3; rw [f1, f2] at this; omega
        refine lv_iconst (v := 0) hx hb dX7_isAfforded_42 (by decide) ?_
        exact xr_zret hx hb hr rfl hlocks hS ⟨by unfold affB; rw [decide_eq_false e3, Bool.and_false, Bool.and_false]; rfl, R1, hM1, f3⟩ dX7_isAfforded_43
      · have e3 : Rw 848 * c p ≤ sg (suM (sqp vs ap p) Rw) 48 := by have := cmpI_nl h3; rw [f1, f2] at this; omega
        refine lv_iconst (v := 1) hx hb dX7_isAfforded_38 (by decide) ?_
        refine lv_goto (tgt := 43) hx hb dX7_isAfforded_39 (by decide) ?_
        exact xr_zret hx hb hr rfl hlocks hS ⟨by unfold affB; rw [decide_eq_true e, e2, decide_eq_true e3]; rfl, R1, hM1, f3⟩ dX7_isAfforded_43
    · have e2 := b2i_n0.mp h2
      refine lv_iconst (v := 0) hx hb dX7_isAfforded_18 (by decide) ?_
      exact xr_zret hx hb hr rfl hlocks hS ⟨by unfold affB; rw [e2]; simp; rfl, Rw, hM, fun _ _ _ => rfl⟩ dX7_isAfforded_19
