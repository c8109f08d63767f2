set_option maxHeartbeats 1000000 in
set_option maxRecDepth 100000 in
theorem c_X7_pay (l : Launch) (g : WG) (H0 : Heap) (b : Nat) (th bu ob cn py ln : Int32) (n : Nat) (hO : obj g H0 b 7 (moF b th bu ob cn (nI (n)) py ln)) (Rw : Nat → Nat) (hM : RwsAt g H0 b Rw) (c : Nat → Nat) (vs : Nat) (ap : Nat → Nat) (hOl : OldAt g H0 b c vs ap) (hBd : BdR Rw) (ch : Nat → Bool) (hI : xr_ia H0 (b + 9) (gZ g) 16 (fun z9 => b2i (ch z9))) (hPo : ∃ pf0 : Nat → Bool, xr_ia H0 (b + 10) (gZ g) 48 (fun z9 => b2i (pf0 z9))) (ord : Nat → Nat) (hOr : xr_ia H0 (b + 8) (gI g) 16 (fun z9 => nI (ord z9))) (hn : n < 16) (p : Nat) (hp : p < 16) (hcp0 : 0 < c p) (hD0 : 0 < Rw 848) (haf : Rw 848 * c p ≤ sg (suM (sqp vs ap p) Rw) 48) : Ctr l (KK g) yX7_pay wsX7_pay { frames := 2, cells := 0, slots := 0, locals := 52 } [.ref b, .int (nI p)] H0 eV (fun _ H => ∃ (R1 : Nat → Nat) (r k : Nat) (pf : Nat → Bool), IsSh (sqp vs ap p) Rw (Rw 848 * c p) r k ∧ obj g H b 7 (moF b th bu ob cn (nI (n + 1)) (nI k) ln) ∧ RwsAt g H b R1 ∧ xr_ia H (b + 10) (gZ g) 48 (fun z9 => b2i (pf z9)) ∧ xr_ia H (b + 8) (gI g) 16 (fun z9 => nI (va_up ord n p z9)) ∧ xr_ia H (b + 9) (gZ g) 16 (fun z9 => b2i (va_up ch p true z9)) ∧ R1 848 = Rw 848 * k ∧ (∀ w9, w9 < 48 → R1 w9 = if vs.testBit w9 = true then Rw w9 * k - shM (sqp vs ap p) Rw r k w9 else Rw w9) ∧ (∀ w9, w9 < 48 → vs.testBit w9 = true → R1 (48 + 48 * n + w9) = shM (sqp vs ap p) Rw r k w9) ∧ R1 (816 + n) = Rw 848 * k ∧ R1 (832 + n) = r ∧ (∀ j, 48 ≤ j → j < 848 → ¬ (48 + 48 * n ≤ j ∧ j < 96 + 48 * n) → j ≠ 816 + n → j ≠ 832 + n → R1 j = Rw j)) (fun q => q = b ∨ q = b + 1 ∨ b + 8 ≤ q ∧ q ≤ b + 10) := by
  refine xr_enter (cc := cX7_pay) (maxL := 4) (ret := none) (by decide) rfl (Nat.le_of_ble_eq_true rfl) ?_
  intro pgm env s mid below meth cde hx hb hr hml hts hown hlocks hnm hH hK ls hl
  subst hH
  have hl : lv_has ls 4 [(0, .ref b), (1, .int (nI p))] := hl
  have hS : va_S (fun q => q = b ∨ q = b + 1 ∨ b + 8 ≤ q ∧ q ≤ b + 10) s.heap s.heap [] := va_S.rf
  obtain ⟨hf, hRb⟩ := id hM
  refine lv_aload_n hx hb dX7_pay_0 rfl (lv_at hl 0 rfl) ?_
  refine lv_iload_n hx hb dX7_pay_1 rfl (lv_at hl 1 rfl) ?_
  refine xr_Vv (rest := []) ⟨hx, hb, hml, hown, hts⟩ (KK_ok g) hK (c_X7_share l g s.heap b th bu ob cn (nI (n)) (py) ln hO Rw hM c vs ap hOl hBd hPo p hp hcp0 hD0 haf) (cwV 1 hts gX7_pay_X7_share rfl rfl rfl (by decide +kernel) ⟨Nat.le_of_ble_eq_true rfl, Nat.le_of_ble_eq_true rfl⟩) (xr_rec hK hO rfl) rfl hl.1 rfl (Nat.le_of_ble_eq_true rfl) dX7_pay_2 ⟨Nat.le_of_ble_eq_true rfl, Nat.le_of_ble_eq_true rfl⟩ hS (fun q h => by have h : q = b ∨ q = b + 1 ∨ q = b + 10 := h; show q = b ∨ q = b + 1 ∨ b + 8 ≤ q ∧ q ≤ b + 10; omega) (fun _ H locs hq hz hkp hS => ?_)
  replace hkp := fun (q : Nat) h1 (h2 : ¬ (q = b ∨ q = b + 1 ∨ q = b + 10)) => hkp q h1 h2
  replace hOl := hOl.kept (fun q hq1 hq2 hq3 => hkp q hq1 (by omega))
  replace hI := hI.kept (hkp _ hI.lt (by omega))
  replace hOr := hOr.kept (hkp _ hOr.lt (by omega))
  obtain ⟨R0, r, k, pf, hO, hM0, hPo, hsh, z1, hk48, hpf, z2⟩ := hq
  have hk0 : 0 < k := hsh.1
  have hNb : r ≤ 2 ^ 125 * 1000000 := Nat.le_trans hsh.kle.2 (Nat.mul_le_mul hBd.2 (hOl.2.2.2.1 p hp))
  have z8 : R0 848 = Rw 848 := z2 848 (by decide) (by decide) (by decide)
  have z7 : Rw 848 * k ≤ 2 ^ 125 * 48 := Nat.mul_le_mul hBd.2 hk48
  have hshle : ∀ w9, shM (sqp vs ap p) Rw r k w9 ≤ Rw w9 * k := fun w9 => by unfold shM; split; (exact Nat.min_le_left _ _); exact Nat.zero_le _
  refine lv_aload_n hx hb dX7_pay_5 rfl (lv_at hl 0 rfl) ?_
  refine lv_sipush (v := 848) hx hb dX7_pay_6 (by decide) ?_
  refine xr_ti (x' := nI 848) rfl ?_
  refine lv_sipush (v := 848) hx hb dX7_pay_9 (by decide) ?_
  refine xr_ti (x' := nI 848) rfl ?_
  refine lv_aload_n hx hb dX7_pay_12 rfl (lv_at hl 0 rfl) ?_
  refine va_get (D := g.1) (ci := 7) (v := .int (nI k)) (C := RX7) (T := TX7) (N := 18) hx hb hts (by decide +kernel) hown hK.1 (xr_one hO) 0 rfl rfl 15 (by decide) (hts (.fieldLink RX7 111 "SharesDeskModel" "payers" "I") (by decide +kernel)) (fun _ h9 => h9) rfl dX7_pay_13 ?_
  refine xr_Vv (rest := []) ⟨hx, hb, hml, hown, hts⟩ (KK_ok g) hK (c_X7_times l g H b th bu ob cn (nI (n)) (nI k) ln hO R0 hM0 848 848 k (by decide) (by decide) (by omega) (by rw [z8]; exact Nat.lt_of_le_of_lt z7 (by decide))) (cwV 3 hts gX7_pay_X7_times rfl rfl rfl (by decide +kernel) ⟨Nat.le_of_ble_eq_true rfl, Nat.le_of_ble_eq_true rfl⟩) (xr_rec hK hO rfl) rfl hl.1 rfl (Nat.le_of_ble_eq_true rfl) dX7_pay_16 ⟨Nat.le_of_ble_eq_true rfl, Nat.le_of_ble_eq_true rfl⟩ hS (fun q h => by have h : q = b + 1 := h; show q = b ∨ q = b + 1 ∨ b + 8 ≤ q ∧ q ≤ b + 10; omega) (fun _ H locs hq hz hkp hS => ?_)
  replace hkp := fun (q : Nat) h1 (h2 : ¬ (q = b + 1)) => hkp q h1 h2
  replace hOl := hOl.kept (fun q hq1 hq2 hq3 => hkp q hq1 (by omega))
  replace hI := hI.kept (hkp _ hI.lt (by omega))
  replace hOr := hOr.kept (hkp _ hOr.lt (by omega))
  replace hO := hO.kept (hkp _ hO.lt (by omega))
  replace hPo := hPo.kept (hkp _ hPo.lt (by omega))
  obtain ⟨R2, hR2⟩ : ∃ r9 : Nat → Nat, r9 = va_up R0 848 (R0 848 * k) := ⟨_, rfl⟩
  have hMR2 : RwsAt g H b R2 := by rw [hR2]; exact hq
  clear hq
  have y1 : R2 848 = Rw 848 * k := by rw [hR2, va_up_self, z8]
  have y2 : R2 850 = r := by rw [hR2, va_up_ne _ _ (by decide), z1]
  have y3 : ∀ j, j < 848 → R2 j = Rw j := fun j hj => by rw [hR2, va_up_ne _ _ (by omega), z2 j (by omega) (by omega) (by omega)]
  have loop : ∀ (n2 v : Nat), v + n2 = 48 → ∀ (H : Heap) (locs : List Loc) (R1 : Nat → Nat), obj g H b 7 (moF b th bu ob cn (nI (n)) (nI k) ln) → RwsAt g H b R1 → OldAt g H b c vs ap → xr_ia H (b + 9) (gZ g) 16 (fun z9 => b2i (ch z9)) → xr_ia H (b + 8) (gI g) 16 (fun z9 => nI (ord z9)) → xr_ia H (b + 10) (gZ g) 48 (fun z9 => b2i (pf z9)) → (∀ w9, w9 < 48 → R1 w9 = if w9 < v ∧ vs.testBit w9 = true then Rw w9 * k - shM (sqp vs ap p) Rw r k w9 else Rw w9) → (∀ w9, w9 < v → vs.testBit w9 = true → R1 (48 + 48 * n + w9) = shM (sqp vs ap p) Rw r k w9) → R1 848 = Rw 848 * k → R1 850 = r → (∀ j, 48 ≤ j → j < 848 → ¬ (48 + 48 * n ≤ j ∧ j < 96 + 48 * n) → R1 j = Rw j) → va_S (fun q => q = b ∨ q = b + 1 ∨ b + 8 ≤ q ∧ q ≤ b + 10) s.heap H locs → ∀ ls : Array Slot, lv_has ls 4 [(2, .int (nI v)), (0, .ref b), (1, .int (nI p))] → W pgm l env { frames := 2, cells := 0, slots := 0, locals := 52 } s mid ([.ref b, .int (nI p)] : List Value).toArray below meth cde H locs 0 0 (MQ below (xr_Post eV (fun _ H => ∃ (R1 : Nat → Nat) (r k : Nat) (pf : Nat → Bool), IsSh (sqp vs ap p) Rw (Rw 848 * c p) r k ∧ obj g H b 7 (moF b th bu ob cn (nI (n + 1)) (nI k) ln) ∧ RwsAt g H b R1 ∧ xr_ia H (b + 10) (gZ g) 48 (fun z9 => b2i (pf z9)) ∧ xr_ia H (b + 8) (gI g) 16 (fun z9 => nI (va_up ord n p z9)) ∧ xr_ia H (b + 9) (gZ g) 16 (fun z9 => b2i (va_up ch p true z9)) ∧ R1 848 = Rw 848 * k ∧ (∀ w9, w9 < 48 → R1 w9 = if vs.testBit w9 = true then Rw w9 * k - shM (sqp vs ap p) Rw r k w9 else Rw w9) ∧ (∀ w9, w9 < 48 → vs.testBit w9 = true → R1 (48 + 48 * n + w9) = shM (sqp vs ap p) Rw r k w9) ∧ R1 (816 + n) = Rw 848 * k ∧ R1 (832 + n) = r ∧ (∀ j, 48 ≤ j → j < 848 → ¬ (48 + 48 * n ≤ j ∧ j < 96 + 48 * n) → j ≠ 816 + n → j ≠ 832 + n → R1 j = Rw j)) (fun q => q = b ∨ q = b + 1 ∨ b + 8 ≤ q ∧ q ≤ b + 10)) ([.ref b, .int (nI p)] : List Value).toArray s ({ frames := 2, cells := 0, slots := 0, locals := 52 } : Room).cells ({ frames := 2, cells := 0, slots := 0, locals := 52 } : Room).slots (fun q => q = b ∨ q = b + 1 ∨ b + 8 ≤ q ∧ q ≤ b + 10)) (F0 mid 21 ls []) := by
    intro n2
    induction n2 with
    | zero =>
      intro v h1 H locs R1 hO hM1 hOl hI hOr hPo e1 e2 e3 e4 e5 hS ls hl
      have e : v = 48 := by omega
      subst e
      refine lv_iload_n hx hb dX7_pay_21 rfl (lv_at hl 0 rfl) ?_
      refine lv_bipush (v := 48) hx hb dX7_pay_22 (by decide) ?_
      refine lv_icmp_ge (tgt := 114) hx hb dX7_pay_24 (by decide) (fun hc => ?_) (fun hc => ?_)
      · clear hc
        refine lv_aload_n hx hb dX7_pay_114 rfl (lv_at hl 1 rfl) ?_
        refine lv_sipush (v := 816) hx hb dX7_pay_115 (by decide) ?_
        refine xr_ti (x' := nI 816) rfl ?_
        refine lv_aload_n hx hb dX7_pay_118 rfl (lv_at hl 1 rfl) ?_
        refine va_get (D := g.1) (ci := 7) (v := .int (nI (n))) (C := RX7) (T := TX7) (N := 18) hx hb hts (by decide +kernel) hown hK.1 (xr_one hO) 0 rfl rfl 11 (by decide) (hts (.fieldLink RX7 120 "SharesDeskModel" "rounds" "I") (by decide +kernel)) (fun _ h9 => h9) rfl dX7_pay_119 ?_
        refine lv_iadd hx hb dX7_pay_122 ?_
        refine xr_ti (x' := nI (816 + n)) (nI_add _ _) ?_
        refine lv_sipush (v := 848) hx hb dX7_pay_123 (by decide) ?_
        refine xr_ti (x' := nI 848) rfl ?_
        refine xr_Vv (rest := []) ⟨hx, hb, hml, hown, hts⟩ (KK_ok g) hK (c_X7_copy l g H b th bu ob cn (nI (n)) (nI k) ln hO R1 hM1 (816 + n) 848 (by omega) (by decide)) (cwV 2 hts gX7_pay_X7_copy rfl rfl rfl (by decide +kernel) ⟨Nat.le_of_ble_eq_true rfl, Nat.le_of_ble_eq_true rfl⟩) (xr_rec hK hO rfl) rfl hl.1 rfl (Nat.le_of_ble_eq_true rfl) dX7_pay_126 ⟨Nat.le_of_ble_eq_true rfl, Nat.le_of_ble_eq_true rfl⟩ hS (fun q h => by have h : q = b + 1 := h; show q = b ∨ q = b + 1 ∨ b + 8 ≤ q ∧ q ≤ b + 10; omega) (fun _ H locs hq hz hkp hS => ?_)
        replace hkp := fun (q : Nat) h1 (h2 : ¬ (q = b + 1)) => hkp q h1 h2
        replace hO := hO.kept (hkp _ hO.lt (by omega))
        replace hOl := hOl.kept (fun q hq1 hq2 hq3 => hkp q hq1 (by omega))
        replace hPo := hPo.kept (hkp _ hPo.lt (by omega))
        replace hI := hI.kept (hkp _ hI.lt (by omega))
        replace hOr := hOr.kept (hkp _ hOr.lt (by omega))
        obtain ⟨R4, hR4⟩ : ∃ r9 : Nat → Nat, r9 = va_up R1 (816 + n) (R1 848) := ⟨_, rfl⟩
        have hMR4 : RwsAt g H b R4 := by rw [hR4]; exact hq
        clear hq
        refine lv_aload_n hx hb dX7_pay_129 rfl (lv_at hl 1 rfl) ?_
        refine lv_sipush (v := 832) hx hb dX7_pay_130 (by decide) ?_
        refine xr_ti (x' := nI 832) rfl ?_
        refine lv_aload_n hx hb dX7_pay_133 rfl (lv_at hl 1 rfl) ?_
        refine va_get (D := g.1) (ci := 7) (v := .int (nI (n))) (C := RX7) (T := TX7) (N := 18) hx hb hts (by decide +kernel) hown hK.1 (xr_one hO) 0 rfl rfl 11 (by decide) (hts (.fieldLink RX7 120 "SharesDeskModel" "rounds" "I") (by decide +kernel)) (fun _ h9 => h9) rfl dX7_pay_134 ?_
        refine lv_iadd hx hb dX7_pay_137 ?_
        refine xr_ti (x' := nI (832 + n)) (nI_add _ _) ?_
        refine lv_sipush (v := 850) hx hb dX7_pay_138 (by decide) ?_
        refine xr_ti (x' := nI 850) rfl ?_
        refine xr_Vv (rest := []) ⟨hx, hb, hml, hown, hts⟩ (KK_ok g) hK (c_X7_copy l g H b th bu ob cn (nI (n)) (nI k) ln hO R4 hMR4 (832 + n) 850 (by omega) (by decide)) (cwV 2 hts gX7_pay_X7_copy rfl rfl rfl (by decide +kernel) ⟨Nat.le_of_ble_eq_true rfl, Nat.le_of_ble_eq_true rfl⟩) (xr_rec hK hO rfl) rfl hl.1 rfl (Nat.le_of_ble_eq_true rfl) dX7_pay_141 ⟨Nat.le_of_ble_eq_true rfl, Nat.le_of_ble_eq_true rfl⟩ hS (fun q h => by have h : q = b + 1 := h; show q = b ∨ q = b + 1 ∨ b + 8 ≤ q ∧ q ≤ b + 10; omega) (fun _ H locs hq hz hkp hS => ?_)
        replace hkp := fun (q : Nat) h1 (h2 : ¬ (q = b + 1)) => hkp q h1 h2
        replace hO := hO.kept (hkp _ hO.lt (by omega))
        replace hOl := hOl.kept (fun q hq1 hq2 hq3 => hkp q hq1 (by omega))
        replace hPo := hPo.kept (hkp _ hPo.lt (by omega))
        replace hI := hI.kept (hkp _ hI.lt (by omega))
        replace hOr := hOr.kept (hkp _ hOr.lt (by omega))
        obtain ⟨R5, hR5⟩ : ∃ r9 : Nat → Nat, r9 = va_up R4 (832 + n) (R4 850) := ⟨_, rfl⟩
        have hMR5 : RwsAt g H b R5 := by rw [hR5]; exact hq
        clear hq
        refine lv_aload_n hx hb dX7_pay_144 rfl (lv_at hl 1 rfl) ?_
        refine va_get (D := g.1) (ci := 7) (v := .ref (b + 8)) (C := RX7) (T := TX7) (N := 18) hx hb hts (by decide +kernel) hown hK.1 (xr_one hO) 0 rfl rfl 12 (by decide) (hts (.fieldLink RX7 39 "SharesDeskModel" "order" "[I") (by decide +kernel)) (fun _ h9 => h9) rfl dX7_pay_145 ?_
        refine lv_aload_n hx hb dX7_pay_148 rfl (lv_at hl 1 rfl) ?_
        refine va_get (D := g.1) (ci := 7) (v := .int (nI (n))) (C := RX7) (T := TX7) (N := 18) hx hb hts (by decide +kernel) hown hK.1 (xr_one hO) 0 rfl rfl 11 (by decide) (hts (.fieldLink RX7 120 "SharesDeskModel" "rounds" "I") (by decide +kernel)) (fun _ h9 => h9) rfl dX7_pay_149 ?_
        refine lv_iload_n hx hb dX7_pay_152 rfl (lv_at hl 2 rfl) ?_
        refine xr_nwr hx hb hK hS (show b + 8 = b ∨ b + 8 = b + 1 ∨ b + 8 ≤ b + 8 ∧ b + 8 ≤ b + 10 by omega) hOr hn (by decide) dX7_pay_153 (fun H locs hz hkp hOr hS => ?_)
        replace hO := hO.kept (hkp _ (by omega))
        replace hOl := hOl.kept (fun q hq1 hq2 hq3 => hkp q (by omega))
        replace hPo := hPo.kept (hkp _ (by omega))
        replace hI := hI.kept (hkp _ (by omega))
        replace hMR5 := hMR5.kept (hkp _ (by omega))
        refine lv_aload_n hx hb dX7_pay_154 rfl (lv_at hl 1 rfl) ?_
        refine va_get (D := g.1) (ci := 7) (v := .ref (b + 9)) (C := RX7) (T := TX7) (N := 18) hx hb hts (by decide +kernel) hown hK.1 (xr_one hO) 0 rfl rfl 13 (by decide) (hts (.fieldLink RX7 42 "SharesDeskModel" "isChosen" "[Z") (by decide +kernel)) (fun _ h9 => h9) rfl dX7_pay_155 ?_
        refine lv_iload_n hx hb dX7_pay_158 rfl (lv_at hl 2 rfl) ?_
        refine lv_iconst (v := 1) hx hb dX7_pay_159 (by decide) ?_
        refine xr_ti (x' := b2i true) rfl ?_
        refine xr_zwr hx hb hK hS (show b + 9 = b ∨ b + 9 = b + 1 ∨ b + 8 ≤ b + 9 ∧ b + 9 ≤ b + 10 by omega) hI hp (by decide) dX7_pay_160 (fun H locs hz hkp hI hS => ?_)
        replace hO := hO.kept (hkp _ (by omega))
        replace hOl := hOl.kept (fun q hq1 hq2 hq3 => hkp q (by omega))
        replace hPo := hPo.kept (hkp _ (by omega))
        replace hOr := hOr.kept (hkp _ (by omega))
        replace hMR5 := hMR5.kept (hkp _ (by omega))
        refine lv_aload_n hx hb dX7_pay_161 rfl (lv_at hl 1 rfl) ?_
        refine lv_dup hx hb dX7_pay_162 rfl ?_
        refine va_get (D := g.1) (ci := 7) (v := .int (nI (n))) (C := RX7) (T := TX7) (N := 18) hx hb hts (by decide +kernel) hown hK.1 (xr_one hO) 0 rfl rfl 11 (by decide) (hts (.fieldLink RX7 120 "SharesDeskModel" "rounds" "I") (by decide +kernel)) (fun _ h9 => h9) rfl dX7_pay_163 ?_
        refine lv_iconst (v := 1) hx hb dX7_pay_166 (by decide) ?_
        refine xr_ti (x' := nI 1) rfl ?_
        refine lv_iadd hx hb dX7_pay_167 ?_
        refine xr_ti (x' := nI (n + 1)) (nI_add _ _) ?_
        refine xr_put (ci := 7) (v := .int (nI (n + 1))) (ty := .int) (C := RX7) (T := TX7) (N := 18) hx hb hts (by decide +kernel) tyX7 tyX7_ok nmX7 hown hK.1 hO hS (Or.inl rfl) rfl 11 (by decide) (hts (.fieldLink RX7 120 "SharesDeskModel" "rounds" "I") (by decide +kernel)) rfl (by decide +kernel) rfl rfl (Nat.le_of_ble_eq_true rfl) dX7_pay_168 (fun H locs hz hkp hO hS => ?_)
        replace hOl := hOl.kept (fun q hq1 hq2 hq3 => hkp q (by omega))
        replace hPo := hPo.kept (hkp _ (by omega))
        replace hOr := hOr.kept (hkp _ (by omega))
        replace hI := hI.kept (hkp _ (by omega))
        replace hMR5 := hMR5.kept (hkp _ (by omega))
        have g1 : ∀ j, j ≠ 816 + n → j ≠ 832 + n → R5 j = R1 j := fun j j1 j2 => by rw [hR5, va_up_ne _ _ j2, hR4, va_up_ne _ _ j1]
        exact xr_vret hx hb hr hlocks hS ⟨R5, r, k, pf, hsh, hO, hMR5, hPo, hOr, hI, by rw [g1 848 (by omega) (by omega), e3], fun w9 hw => by rw [g1 w9 (by omega) (by omega), e1 w9 hw]; simp only [hw, true_and], fun w9 hw hb9 => by rw [g1 _ (by omega) (by omega), e2 w9 hw hb9], by rw [hR5, va_up_ne _ _ (by omega), hR4, va_up_self, e3], by rw [hR5, va_up_self, hR4, va_up_ne _ _ (by omega), e4], fun j j1 j2 j3 j4 j5 => by rw [g1 j j4 j5, e5 j j1 j2 j3]⟩ dX7_pay_171
      · exact absurd (by decide) hc
    | succ n2 ih =>
      intro v h1 H locs R1 hO hM1 hOl hI hOr hPo e1 e2 e3 e4 e5 hS ls hl
      have hv48 : v < 48 := by omega
      obtain ⟨hC, hV, hW, -, -⟩ := id hOl
      have e8 : R1 v = Rw v := by rw [e1 v hv48, if_neg (fun q => Nat.lt_irrefl _ q.1)]
      have e7 := hBd.1 v hv48
      have e6 : Rw v * k ≤ 2 ^ 125 * 48 := Nat.mul_le_mul e7 hk48
      have hrow : 48 + 48 * n + v < 816 := by omega
      refine lv_iload_n hx hb dX7_pay_21 rfl (lv_at hl 0 rfl) ?_
      refine lv_bipush (v := 48) hx hb dX7_pay_22 (by decide) ?_
      refine lv_icmp_ge (tgt := 114) hx hb dX7_pay_24 (by decide) (fun hc => ?_) (fun hc => ?_)
      · exact absurd ((nI_leI (a := 48) (b := v) (by decide) (by omega)).mp hc) (by omega)
      · clear hc
        refine lv_aload_n hx hb dX7_pay_27 rfl (lv_at hl 1 rfl) ?_
        refine va_get (D := g.1) (ci := 7) (v := .ref (b + 6)) (C := RX7) (T := TX7) (N := 18) hx hb hts (by decide +kernel) hown hK.1 (xr_one hO) 0 rfl rfl 7 (by decide) (hts (.fieldLink RX7 30 "SharesDeskModel" "oldVoters" "[Z") (by decide +kernel)) (fun _ h9 => h9) rfl dX7_pay_28 ?_
        refine lv_iload_n hx hb dX7_pay_31 rfl (lv_at hl 0 rfl) ?_
        refine xr_zrd hx hb hK hV hv48 (by decide) dX7_pay_32 ?_
        refine lv_if_ne (tgt := 39) hx hb dX7_pay_33 (by decide) (fun h2 => ?_) (fun h2 => ?_)
        · have hb9 : vs.testBit v = true := b2i_n0.mp h2
          refine lv_aload_n hx hb dX7_pay_39 rfl (lv_at hl 1 rfl) ?_
          refine lv_iload_n hx hb dX7_pay_40 rfl (lv_at hl 0 rfl) ?_
          refine lv_iload_n hx hb dX7_pay_41 rfl (lv_at hl 0 rfl) ?_
          refine lv_aload_n hx hb dX7_pay_42 rfl (lv_at hl 1 rfl) ?_
          refine va_get (D := g.1) (ci := 7) (v := .int (nI k)) (C := RX7) (T := TX7) (N := 18) hx hb hts (by decide +kernel) hown hK.1 (xr_one hO) 0 rfl rfl 15 (by decide) (hts (.fieldLink RX7 111 "SharesDeskModel" "payers" "I") (by decide +kernel)) (fun _ h9 => h9) rfl dX7_pay_43 ?_
          refine xr_Vv (rest := []) ⟨hx, hb, hml, hown, hts⟩ (KK_ok g) hK (c_X7_times l g H b th bu ob cn (nI (n)) (nI k) ln hO R1 hM1 v v k (by omega) (by omega) (by omega) (by rw [e8]; exact Nat.lt_of_le_of_lt e6 (by decide))) (cwV 3 hts gX7_pay_X7_times rfl rfl rfl (by decide +kernel) ⟨Nat.le_of_ble_eq_true rfl, Nat.le_of_ble_eq_true rfl⟩) (xr_rec hK hO rfl) rfl hl.1 rfl (Nat.le_of_ble_eq_true rfl) dX7_pay_46 ⟨Nat.le_of_ble_eq_true rfl, Nat.le_of_ble_eq_true rfl⟩ hS (fun q h => by have h : q = b + 1 := h; show q = b ∨ q = b + 1 ∨ b + 8 ≤ q ∧ q ≤ b + 10; omega) (fun _ H locs hq hz hkp hS => ?_)
          replace hkp := fun (q : Nat) h1 (h2 : ¬ (q = b + 1)) => hkp q h1 h2
          replace hO := hO.kept (hkp _ hO.lt (by omega))
          replace hOl := hOl.kept (fun q hq1 hq2 hq3 => hkp q hq1 (by omega))
          replace hPo := hPo.kept (hkp _ hPo.lt (by omega))
          replace hI := hI.kept (hkp _ hI.lt (by omega))
          replace hOr := hOr.kept (hkp _ hOr.lt (by omega))
          obtain ⟨R2, hR2⟩ : ∃ r9 : Nat → Nat, r9 = va_up R1 v (R1 v * k) := ⟨_, rfl⟩
          have hMR2 : RwsAt g H b R2 := by rw [hR2]; exact hq
          clear hq
          refine lv_bipush (v := 48) hx hb dX7_pay_49 (by decide) ?_
          refine xr_ti (x' := nI 48) rfl ?_
          refine lv_bipush (v := 48) hx hb dX7_pay_51 (by decide) ?_
          refine xr_ti (x' := nI 48) rfl ?_
          refine lv_aload_n hx hb dX7_pay_53 rfl (lv_at hl 1 rfl) ?_
          refine va_get (D := g.1) (ci := 7) (v := .int (nI (n))) (C := RX7) (T := TX7) (N := 18) hx hb hts (by decide +kernel) hown hK.1 (xr_one hO) 0 rfl rfl 11 (by decide) (hts (.fieldLink RX7 120 "SharesDeskModel" "rounds" "I") (by decide +kernel)) (fun _ h9 => h9) rfl dX7_pay_54 ?_
          refine lv_imul hx hb dX7_pay_57 ?_
          refine xr_ti (x' := nI (48 * n)) (pk_mul _ _) ?_
          refine lv_iadd hx hb dX7_pay_58 ?_
          refine xr_ti (x' := nI (48 + 48 * n)) (nI_add _ _) ?_
          refine lv_iload_n hx hb dX7_pay_59 rfl (lv_at hl 0 rfl) ?_
          refine lv_iadd hx hb dX7_pay_60 ?_
          refine xr_ti (x' := nI (48 + 48 * n + v)) (nI_add _ _) ?_
          refine lv_istore_n (lv' := [(3, .int (nI (48 + 48 * n + v))), (2, .int (nI v)), (0, .ref b), (1, .int (nI p))]) hx hb dX7_pay_61 rfl hl (by decide) rfl (fun ls hl => ?_)
          refine lv_aload_n hx hb dX7_pay_62 rfl (lv_at hl 2 rfl) ?_
          refine lv_iload_n hx hb dX7_pay_63 rfl (lv_at hl 0 rfl) ?_
          refine lv_lconst (v := 0) hx hb dX7_pay_64 (by decide) ?_
          refine xr_tl (x' := lN 0) rfl ?_
          refine xr_Vv (rest := []) ⟨hx, hb, hml, hown, hts⟩ (KK_ok g) hK (c_X7_set l g H b th bu ob cn (nI (n)) (nI k) ln hO R2 hMR2 (48 + 48 * n + v) 0 (by omega) (by decide)) (cwV 2 hts gX7_pay_X7_set rfl rfl rfl (by decide +kernel) ⟨Nat.le_of_ble_eq_true rfl, Nat.le_of_ble_eq_true rfl⟩) (xr_rec hK hO rfl) rfl hl.1 rfl (Nat.le_of_ble_eq_true rfl) dX7_pay_65 ⟨Nat.le_of_ble_eq_true rfl, Nat.le_of_ble_eq_true rfl⟩ hS (fun q h => by have h : q = b + 1 := h; show q = b ∨ q = b + 1 ∨ b + 8 ≤ q ∧ q ≤ b + 10; omega) (fun _ H locs hq hz hkp hS => ?_)
          replace hkp := fun (q : Nat) h1 (h2 : ¬ (q = b + 1)) => hkp q h1 h2
          replace hO := hO.kept (hkp _ hO.lt (by omega))
          replace hOl := hOl.kept (fun q hq1 hq2 hq3 => hkp q hq1 (by omega))
          replace hPo := hPo.kept (hkp _ hPo.lt (by omega))
          replace hI := hI.kept (hkp _ hI.lt (by omega))
          replace hOr := hOr.kept (hkp _ hOr.lt (by omega))
          obtain ⟨R3, hR3⟩ : ∃ r9 : Nat → Nat, r9 = va_up R2 (48 + 48 * n + v) (0) := ⟨_, rfl⟩
          have hMR3 : RwsAt g H b R3 := by rw [hR3]; exact hq
          clear hq
          refine lv_aload_n hx hb dX7_pay_68 rfl (lv_at hl 2 rfl) ?_
          refine lv_iload_n hx hb dX7_pay_69 rfl (lv_at hl 1 rfl) ?_
          refine lv_iload_n hx hb dX7_pay_70 rfl (lv_at hl 3 rfl) ?_
          refine xr_Vi (rest := []) ⟨hx, hb, hml, hown, hts⟩ (KK_ok g) hK (c_X7_supports l g H b th bu ob cn (nI (n)) (nI k) ln hO c vs ap hOl v p hv48 hp) (cwV 2 hts gX7_pay_X7_supports rfl rfl rfl (by decide +kernel) ⟨Nat.le_of_ble_eq_true rfl, Nat.le_of_ble_eq_true rfl⟩) (xr_rec hK hO rfl) rfl hl.1 rfl (Nat.le_of_ble_eq_true rfl) dX7_pay_71 ⟨Nat.le_of_ble_eq_true rfl, Nat.le_of_ble_eq_true rfl⟩ hS (fun q h => h.elim) (fun r H locs hq hz hkp hS9 => ?_)
          obtain ⟨rfl, rfl⟩ := hq
          have hS := hS9
          refine lv_if_ne (tgt := 80) hx hb dX7_pay_74 (by decide) (fun h3 => ?_) (fun h3 => ?_)
          · have hu : sqp vs ap p v = true := b2i_n0.mp h3
            refine lv_aload_n hx hb dX7_pay_80 rfl (lv_at hl 2 rfl) ?_
            refine lv_iload_n hx hb dX7_pay_81 rfl (lv_at hl 0 rfl) ?_
            refine lv_aload_n hx hb dX7_pay_82 rfl (lv_at hl 2 rfl) ?_
            refine va_get (D := g.1) (ci := 7) (v := .ref (b + 10)) (C := RX7) (T := TX7) (N := 18) hx hb hts (by decide +kernel) hown hK.1 (xr_one hO) 0 rfl rfl 14 (by decide) (hts (.fieldLink RX7 45 "SharesDeskModel" "poor" "[Z") (by decide +kernel)) (fun _ h9 => h9) rfl dX7_pay_83 ?_
            refine lv_iload_n hx hb dX7_pay_86 rfl (lv_at hl 1 rfl) ?_
            refine xr_zrd hx hb hK hPo hv48 (by decide) dX7_pay_87 ?_
            refine lv_if_eq (tgt := 95) hx hb dX7_pay_88 (by decide) (fun h4 => ?_) (fun h4 => ?_)
            · have hp0 : ¬ Rw v * k < r := fun q => by have := (hpf v hv48 hu).mpr q; rw [b2i_0.mp h4] at this; cases this
              refine lv_sipush (v := 850) hx hb dX7_pay_95 (by decide) ?_
              refine xr_ti (x' := nI 850) rfl ?_
              refine xr_Vv (rest := []) ⟨hx, hb, hml, hown, hts⟩ (KK_ok g) hK (c_X7_copy l g H b th bu ob cn (nI (n)) (nI k) ln hO R3 hMR3 (48 + 48 * n + v) 850 (by omega) (by omega)) (cwV 2 hts gX7_pay_X7_copy rfl rfl rfl (by decide +kernel) ⟨Nat.le_of_ble_eq_true rfl, Nat.le_of_ble_eq_true rfl⟩) (xr_rec hK hO rfl) rfl hl.1 rfl (Nat.le_of_ble_eq_true rfl) dX7_pay_98 ⟨Nat.le_of_ble_eq_true rfl, Nat.le_of_ble_eq_true rfl⟩ hS (fun q h => by have h : q = b + 1 := h; show q = b ∨ q = b + 1 ∨ b + 8 ≤ q ∧ q ≤ b + 10; omega) (fun _ H locs hq hz hkp hS => ?_)
              replace hkp := fun (q : Nat) h1 (h2 : ¬ (q = b + 1)) => hkp q h1 h2
              replace hO := hO.kept (hkp _ hO.lt (by omega))
              replace hOl := hOl.kept (fun q hq1 hq2 hq3 => hkp q hq1 (by omega))
              replace hPo := hPo.kept (hkp _ hPo.lt (by omega))
              replace hI := hI.kept (hkp _ hI.lt (by omega))
              replace hOr := hOr.kept (hkp _ hOr.lt (by omega))
              obtain ⟨R4, hR4⟩ : ∃ r9 : Nat → Nat, r9 = va_up R3 (48 + 48 * n + v) (R3 850) := ⟨_, rfl⟩
              have hMR4 : RwsAt g H b R4 := by rw [hR4]; exact hq
              clear hq
              have s1 : R4 (48 + 48 * n + v) = shM (sqp vs ap p) Rw r k v := by rw [hR4, va_up_self, hR3, va_up_ne _ _ (by omega), hR2]; rw [va_up_ne _ _ (by omega), e4]; unfold shM; rw [if_pos hu]; omega
              have s2 : R4 v = Rw v * k := by rw [hR4, va_up_ne _ _ (by omega), hR3, va_up_ne _ _ (by omega), hR2, va_up_self, e8]
              refine lv_aload_n hx hb dX7_pay_101 rfl (lv_at hl 2 rfl) ?_
              refine lv_iload_n hx hb dX7_pay_102 rfl (lv_at hl 1 rfl) ?_
              refine lv_iload_n hx hb dX7_pay_103 rfl (lv_at hl 1 rfl) ?_
              refine lv_iload_n hx hb dX7_pay_104 rfl (lv_at hl 0 rfl) ?_
              refine xr_Vv (rest := []) ⟨hx, hb, hml, hown, hts⟩ (KK_ok g) hK (c_X7_lessen l g H b th bu ob cn (nI (n)) (nI k) ln hO R4 hMR4 v v (48 + 48 * n + v) (by omega) (by omega) (by omega) (by rw [s1, s2]; exact hshle v)) (cwV 3 hts gX7_pay_X7_lessen rfl rfl rfl (by decide +kernel) ⟨Nat.le_of_ble_eq_true rfl, Nat.le_of_ble_eq_true rfl⟩) (xr_rec hK hO rfl) rfl hl.1 rfl (Nat.le_of_ble_eq_true rfl) dX7_pay_105 ⟨Nat.le_of_ble_eq_true rfl, Nat.le_of_ble_eq_true rfl⟩ hS (fun q h => by have h : q = b + 1 := h; show q = b ∨ q = b + 1 ∨ b + 8 ≤ q ∧ q ≤ b + 10; omega) (fun _ H locs hq hz hkp hS => ?_)
              replace hkp := fun (q : Nat) h1 (h2 : ¬ (q = b + 1)) => hkp q h1 h2
              replace hO := hO.kept (hkp _ hO.lt (by omega))
              replace hOl := hOl.kept (fun q hq1 hq2 hq3 => hkp q hq1 (by omega))
              replace hPo := hPo.kept (hkp _ hPo.lt (by omega))
              replace hI := hI.kept (hkp _ hI.lt (by omega))
              replace hOr := hOr.kept (hkp _ hOr.lt (by omega))
              obtain ⟨R5, hR5⟩ : ∃ r9 : Nat → Nat, r9 = va_up R4 v (R4 v - R4 (48 + 48 * n + v)) := ⟨_, rfl⟩
              have hMR5 : RwsAt g H b R5 := by rw [hR5]; exact hq
              clear hq
              have k1 : R5 v = Rw v * k - shM (sqp vs ap p) Rw r k v := by rw [hR5, va_up_self, s1, s2]
              have k2 : R5 (48 + 48 * n + v) = shM (sqp vs ap p) Rw r k v := by rw [hR5, va_up_ne _ _ (by omega), s1]
              have k3 : ∀ j, j ≠ v → j ≠ 48 + 48 * n + v → R5 j = R1 j := fun j j1 j2 => by rw [hR5, va_up_ne _ _ j1, hR4, va_up_ne _ _ j2, hR3, va_up_ne _ _ j2, hR2, va_up_ne _ _ j1]
              refine lv_iinc (v := nI (v + 1)) (lv' := [(2, .int (nI (v + 1))), (3, .int (nI (48 + 48 * n + v))), (0, .ref b), (1, .int (nI p))]) hx hb dX7_pay_108 hl (k := 1) rfl (nI_1 v) (by decide) rfl (fun ls hl => ?_)
              refine lv_goto (tgt := 21) hx hb dX7_pay_111 (by decide) ?_
              exact ih (v + 1) (by omega) H _ R5 hO hMR5 hOl hI hOr hPo (fun w9 hw => by by_cases e9 : w9 = v; (rw [e9, k1, if_pos ⟨Nat.lt_succ_self v, hb9⟩]); (rw [k3 w9 e9 (by omega), e1 w9 hw]; simp only [show (w9 < v + 1) = (w9 < v) from propext (by omega)])) (fun w9 hw hb8 => by by_cases e9 : w9 = v; (rw [e9, k2]); (rw [k3 _ (by omega) (by omega), e2 w9 (by omega) hb8])) (by rw [k3 848 (by omega) (by omega), e3]) (by rw [k3 850 (by omega) (by omega), e4]) (fun j j1 j2 j3 => by rw [k3 j (by omega) (by omega), e5 j j1 j2 j3]) hS ls (lv_sub hl [0, 2, 3] rfl)
            · have hp1 : Rw v * k < r := (hpf v hv48 hu).mp (b2i_n0.mp h4)
              refine lv_iload_n hx hb dX7_pay_91 rfl (lv_at hl 1 rfl) ?_
              refine lv_goto (tgt := 98) hx hb dX7_pay_92 (by decide) ?_
              refine xr_Vv (rest := []) ⟨hx, hb, hml, hown, hts⟩ (KK_ok g) hK (c_X7_copy l g H b th bu ob cn (nI (n)) (nI k) ln hO R3 hMR3 (48 + 48 * n + v) v (by omega) (by omega)) (cwV 2 hts gX7_pay_X7_copy rfl rfl rfl (by decide +kernel) ⟨Nat.le_of_ble_eq_true rfl, Nat.le_of_ble_eq_true rfl⟩) (xr_rec hK hO rfl) rfl hl.1 rfl (Nat.le_of_ble_eq_true rfl) dX7_pay_98 ⟨Nat.le_of_ble_eq_true rfl, Nat.le_of_ble_eq_true rfl⟩ hS (fun q h => by have h : q = b + 1 := h; show q = b ∨ q = b + 1 ∨ b + 8 ≤ q ∧ q ≤ b + 10; omega) (fun _ H locs hq hz hkp hS => ?_)
              replace hkp := fun (q : Nat) h1 (h2 : ¬ (q = b + 1)) => hkp q h1 h2
              replace hO := hO.kept (hkp _ hO.lt (by omega))
              replace hOl := hOl.kept (fun q hq1 hq2 hq3 => hkp q hq1 (by omega))
              replace hPo := hPo.kept (hkp _ hPo.lt (by omega))
              replace hI := hI.kept (hkp _ hI.lt (by omega))
              replace hOr := hOr.kept (hkp _ hOr.lt (by omega))
              obtain ⟨R4, hR4⟩ : ∃ r9 : Nat → Nat, r9 = va_up R3 (48 + 48 * n + v) (R3 v) := ⟨_, rfl⟩
              have hMR4 : RwsAt g H b R4 := by rw [hR4]; exact hq
              clear hq
              have s1 : R4 (48 + 48 * n + v) = shM (sqp vs ap p) Rw r k v := by rw [hR4, va_up_self, hR3, va_up_ne _ _ (by omega), hR2]; rw [va_up_self, e8]; unfold shM; rw [if_pos hu]; omega
              have s2 : R4 v = Rw v * k := by rw [hR4, va_up_ne _ _ (by omega), hR3, va_up_ne _ _ (by omega), hR2, va_up_self, e8]
              refine lv_aload_n hx hb dX7_pay_101 rfl (lv_at hl 2 rfl) ?_
              refine lv_iload_n hx hb dX7_pay_102 rfl (lv_at hl 1 rfl) ?_
              refine lv_iload_n hx hb dX7_pay_103 rfl (lv_at hl 1 rfl) ?_
              refine lv_iload_n hx hb dX7_pay_104 rfl (lv_at hl 0 rfl) ?_
              refine xr_Vv (rest := []) ⟨hx, hb, hml, hown, hts⟩ (KK_ok g) hK (c_X7_lessen l g H b th bu ob cn (nI (n)) (nI k) ln hO R4 hMR4 v v (48 + 48 * n + v) (by omega) (by omega) (by omega) (by rw [s1, s2]; exact hshle v)) (cwV 3 hts gX7_pay_X7_lessen rfl rfl rfl (by decide +kernel) ⟨Nat.le_of_ble_eq_true rfl, Nat.le_of_ble_eq_true rfl⟩) (xr_rec hK hO rfl) rfl hl.1 rfl (Nat.le_of_ble_eq_true rfl) dX7_pay_105 ⟨Nat.le_of_ble_eq_true rfl, Nat.le_of_ble_eq_true rfl⟩ hS (fun q h => by have h : q = b + 1 := h; show q = b ∨ q = b + 1 ∨ b + 8 ≤ q ∧ q ≤ b + 10; omega) (fun _ H locs hq hz hkp hS => ?_)
              replace hkp := fun (q : Nat) h1 (h2 : ¬ (q = b + 1)) => hkp q h1 h2
              replace hO := hO.kept (hkp _ hO.lt (by omega))
              replace hOl := hOl.kept (fun q hq1 hq2 hq3 => hkp q hq1 (by omega))
              replace hPo := hPo.kept (hkp _ hPo.lt (by omega))
              replace hI := hI.kept (hkp _ hI.lt (by omega))
              replace hOr := hOr.kept (hkp _ hOr.lt (by omega))
              obtain ⟨R5, hR5⟩ : ∃ r9 : Nat → Nat, r9 = va_up R4 v (R4 v - R4 (48 + 48 * n + v)) := ⟨_, rfl⟩
              have hMR5 : RwsAt g H b R5 := by rw [hR5]; exact hq
              clear hq
              have k1 : R5 v = Rw v * k - shM (sqp vs ap p) Rw r k v := by rw [hR5, va_up_self, s1, s2]
              have k2 : R5 (48 + 48 * n + v) = shM (sqp vs ap p) Rw r k v := by rw [hR5, va_up_ne _ _ (by omega), s1]
              have k3 : ∀ j, j ≠ v → j ≠ 48 + 48 * n + v → R5 j = R1 j := fun j j1 j2 => by rw [hR5, va_up_ne _ _ j1, hR4, va_up_ne _ _ j2, hR3, va_up_ne _ _ j2, hR2, va_up_ne _ _ j1]
              refine lv_iinc (v := nI (v + 1)) (lv' := [(2, .int (nI (v + 1))), (3, .int (nI (48 + 48 * n + v))), (0, .ref b), (1, .int (nI p))]) hx hb dX7_pay_108 hl (k := 1) rfl (nI_1 v) (by decide) rfl (fun ls hl => ?_)
              refine lv_goto (tgt := 21) hx hb dX7_pay_111 (by decide) ?_
              exact ih (v + 1) (by omega) H _ R5 hO hMR5 hOl hI hOr hPo (fun w9 hw => by by_cases e9 : w9 = v; (rw [e9, k1, if_pos ⟨Nat.lt_succ_self v, hb9⟩]); (rw [k3 w9 e9 (by omega), e1 w9 hw]; simp only [show (w9 < v + 1) = (w9 < v) from propext (by omega)])) (fun w9 hw hb8 => by by_cases e9 : w9 = v; (rw [e9, k2]); (rw [k3 _ (by omega) (by omega), e2 w9 (by omega) hb8])) (by rw [k3 848 (by omega) (by omega), e3]) (by rw [k3 850 (by omega) (by omega), e4]) (fun j j1 j2 j3 => by rw [k3 j (by omega) (by omega), e5 j j1 j2 j3]) hS ls (lv_sub hl [0, 2, 3] rfl)
          · have hu : sqp vs ap p v = false := b2i_0.mp h3
            have hs0 : shM (sqp vs ap p) Rw r k v = 0 := by unfold shM; rw [if_neg (by rw [hu]; decide)]
            have k1 : R3 v = Rw v * k - shM (sqp vs ap p) Rw r k v := by rw [hR3, va_up_ne _ _ (by omega), hR2, va_up_self, e8, hs0, Nat.sub_zero]
            have k2 : R3 (48 + 48 * n + v) = shM (sqp vs ap p) Rw r k v := by rw [hR3, va_up_self, hs0]
            have k3 : ∀ j, j ≠ v → j ≠ 48 + 48 * n + v → R3 j = R1 j := fun j j1 j2 => by rw [hR3, va_up_ne _ _ j2, hR2, va_up_ne _ _ j1]
            refine lv_goto (tgt := 108) hx hb dX7_pay_77 (by decide) ?_
            refine lv_iinc (v := nI (v + 1)) (lv' := [(2, .int (nI (v + 1))), (3, .int (nI (48 + 48 * n + v))), (0, .ref b), (1, .int (nI p))]) hx hb dX7_pay_108 hl (k := 1) rfl (nI_1 v) (by decide) rfl (fun ls hl => ?_)
            refine lv_goto (tgt := 21) hx hb dX7_pay_111 (by decide) ?_
            exact ih (v + 1) (by omega) H _ R3 hO hMR3 hOl hI hOr hPo (fun w9 hw => by by_cases e9 : w9 = v; (rw [e9, k1, if_pos ⟨Nat.lt_succ_self v, hb9⟩]); (rw [k3 w9 e9 (by omega), e1 w9 hw]; simp only [show (w9 < v + 1) = (w9 < v) from propext (by omega)])) (fun w9 hw hb8 => by by_cases e9 : w9 = v; (rw [e9, k2]); (rw [k3 _ (by omega) (by omega), e2 w9 (by omega) hb8])) (by rw [k3 848 (by omega) (by omega), e3]) (by rw [k3 850 (by omega) (by omega), e4]) (fun j j1 j2 j3 => by rw [k3 j (by omega) (by omega), e5 j j1 j2 j3]) hS ls (lv_sub hl [0, 2, 3] rfl)
        · have hb0 : vs.testBit v = false := b2i_0.mp h2
          refine lv_goto (tgt := 108) hx hb dX7_pay_36 (by decide) ?_
          refine lv_iinc (v := nI (v + 1)) (lv' := [(2, .int (nI (v + 1))), (0, .ref b), (1, .int (nI p))]) hx hb dX7_pay_108 hl (k := 0) rfl (nI_1 v) (by decide) rfl (fun ls hl => ?_)
          refine lv_goto (tgt := 21) hx hb dX7_pay_111 (by decide) ?_
          exact ih (v + 1) (by omega) H _ R1 hO hM1 hOl hI hOr hPo (fun w9 hw => by rw [e1 w9 hw]; by_cases e9 : w9 = v; (rw [e9, hb0]; simp); simp only [show (w9 < v + 1) = (w9 < v) from propext (by omega)]) (fun w9 hw hb8 => by by_cases e9 : w9 = v; (rw [e9, hb0] at hb8; cases hb8); exact e2 w9 (by omega) hb8) e3 e4 e5 hS ls (lv_sub hl [0, 1, 2] rfl)
  refine lv_iconst (v := 0) hx hb dX7_pay_19 (by decide) ?_
  refine xr_ti (x' := nI 0) rfl ?_
  refine lv_istore_n (lv' := [(2, .int (nI 0)), (0, .ref b), (1, .int (nI p))]) hx hb dX7_pay_20 rfl hl (by decide) rfl (fun ls hl => ?_)
  exact loop 48 0 (by omega) H _ R2 hO hMR2 hOl hI hOr hPo (fun w9 hw => by rw [y3 w9 (by omega), if_neg (fun q => Nat.not_lt_zero _ q.1)]) (fun w9 hw => absurd hw (Nat.not_lt_zero _)) y1 y2 (fun j j1 j2 _ => y3 j j2) hS ls (lv_sub hl [0, 1, 2] rfl)
set_option maxHeartbeats 400000 in
set_option maxRecDepth 100000 in
theorem c_X7_cost (l : Launch) (g : WG) (H0 : Heap) (b : Nat) (th bu ob cn py ln : Int32) (n : Nat) (hO : obj g H0 b 7 (moF b th bu ob cn (nI (n)) py ln)) (c : Nat → Nat) (vs : Nat) (ap : Nat → Nat) (hOl : OldAt g H0 b c vs ap) (ord : Nat → Nat) (hOr : xr_ia H0 (b + 8) (gI g) 16 (fun z9 => nI (ord z9))) (hn : n ≤ 16) (ho : ∀ i, i < n → ord i < 16) : Ctr l (KK g) yX7_cost wsX7_cost { frames := 0, cells := 0, slots := 0, locals := 0 } [.ref b] H0 eI (fun r H => r = nI (sg (fun i => c (ord i)) n) ∧ H = H0) (fun _ => False) := by
  refine xr_enter (cc := cX7_cost) (maxL := 3) (ret := (some .int)) (by decide) rfl (Nat.le_of_ble_eq_true rfl) ?_
  intro pgm env s mid below meth cde hx hb hr hml hts hown hlocks hnm hH hK ls hl
  subst hH
  have hl : lv_has ls 3 [(0, .ref b)] := hl
  have hS : va_S (fun _ => False) s.heap s.heap [] := va_S.rf
  obtain ⟨hC, hV, hW, hcb, hab⟩ := id hOl
  have loop : ∀ (k i : Nat), i + k = n → ∀ (locs : List Loc), va_S (fun _ => False) s.heap s.heap locs → ∀ ls : Array Slot, lv_has ls 3 [(2, .int (nI i)), (1, .int (nI (sg (fun i => c (ord i)) i))), (0, .ref b)] → W pgm l env { frames := 0, cells := 0, slots := 0, locals := 0 } s mid ([.ref b] : List Value).toArray below meth cde s.heap locs 0 0 (MQ below (xr_Post eI (fun r H => r = nI (sg (fun i => c (ord i)) n) ∧ H = s.heap) (fun _ => False)) ([.ref b] : List Value).toArray s ({ frames := 0, cells := 0, slots := 0, locals := 0 } : Room).cells ({ frames := 0, cells := 0, slots := 0, locals := 0 } : Room).slots (fun _ => False)) (F0 mid 4 ls []) := by
    intro k
    induction k with
    | zero =>
      intro i h1 locs hS ls hl
      have e : i = n := by omega
      subst e
      refine lv_iload_n hx hb dX7_cost_4 rfl (lv_at hl 0 rfl) ?_
      refine lv_aload_n hx hb dX7_cost_5 rfl (lv_at hl 2 rfl) ?_
      refine va_get (D := g.1) (ci := 7) (v := .int (nI (i))) (C := RX7) (T := TX7) (N := 18) hx hb hts (by decide +kernel) hown hK.1 (xr_one hO) 0 rfl rfl 11 (by decide) (hts (.fieldLink RX7 120 "SharesDeskModel" "rounds" "I") (by decide +kernel)) (fun _ h9 => h9) rfl dX7_cost_6 ?_
      refine lv_icmp_ge (tgt := 32) hx hb dX7_cost_9 (by decide) (fun hc => ?_) (fun hc => ?_)
      · clear hc
        refine lv_iload_n hx hb dX7_cost_32 rfl (lv_at hl 1 rfl) ?_
        exact xr_iret hx hb hr hlocks hS ⟨rfl, rfl⟩ dX7_cost_33
      · exact absurd (nI_le (Nat.le_refl i) (by omega)) hc
    | succ k ih =>
      intro i h1 locs hS ls hl
      have hoi := ho i (by omega)
      refine lv_iload_n hx hb dX7_cost_4 rfl (lv_at hl 0 rfl) ?_
      refine lv_aload_n hx hb dX7_cost_5 rfl (lv_at hl 2 rfl) ?_
      refine va_get (D := g.1) (ci := 7) (v := .int (nI (n))) (C := RX7) (T := TX7) (N := 18) hx hb hts (by decide +kernel) hown hK.1 (xr_one hO) 0 rfl rfl 11 (by decide) (hts (.fieldLink RX7 120 "SharesDeskModel" "rounds" "I") (by decide +kernel)) (fun _ h9 => h9) rfl dX7_cost_6 ?_
      refine lv_icmp_ge (tgt := 32) hx hb dX7_cost_9 (by decide) (fun hc => ?_) (fun hc => ?_)
      · exact absurd ((nI_leI (a := n) (b := i) (by omega) (by omega)).mp hc) (by omega)
      · clear hc
        refine lv_iload_n hx hb dX7_cost_12 rfl (lv_at hl 1 rfl) ?_
        refine lv_aload_n hx hb dX7_cost_13 rfl (lv_at hl 2 rfl) ?_
        refine va_get (D := g.1) (ci := 7) (v := .ref (b + 5)) (C := RX7) (T := TX7) (N := 18) hx hb hts (by decide +kernel) hown hK.1 (xr_one hO) 0 rfl rfl 6 (by decide) (hts (.fieldLink RX7 27 "SharesDeskModel" "oldCosts" "[I") (by decide +kernel)) (fun _ h9 => h9) rfl dX7_cost_14 ?_
        refine lv_aload_n hx hb dX7_cost_17 rfl (lv_at hl 2 rfl) ?_
        refine va_get (D := g.1) (ci := 7) (v := .ref (b + 8)) (C := RX7) (T := TX7) (N := 18) hx hb hts (by decide +kernel) hown hK.1 (xr_one hO) 0 rfl rfl 12 (by decide) (hts (.fieldLink RX7 39 "SharesDeskModel" "order" "[I") (by decide +kernel)) (fun _ h9 => h9) rfl dX7_cost_18 ?_
        refine lv_iload_n hx hb dX7_cost_21 rfl (lv_at hl 0 rfl) ?_
        refine xr_rd hx hb hK hOr (show i < 16 by omega) (by decide) dX7_cost_22 ?_
        refine xr_rd hx hb hK hC hoi (by decide) dX7_cost_23 ?_
        refine lv_iadd hx hb dX7_cost_24 ?_
        refine xr_ti (x' := nI (sg (fun i => c (ord i)) (i + 1))) (nI_add _ _) ?_
        refine lv_istore_n (lv' := [(1, .int (nI (sg (fun i => c (ord i)) (i + 1)))), (2, .int (nI i)), (0, .ref b)]) hx hb dX7_cost_25 rfl hl (by decide) rfl (fun ls hl => ?_)
        refine lv_iinc (v := nI (i + 1)) (lv' := [(2, .int (nI (i + 1))), (1, .int (nI (sg (fun i => c (ord i)) (i + 1)))), (0, .ref b)]) hx hb dX7_cost_26 hl (k := 1) rfl (nI_1 i) (by decide) rfl (fun ls hl => ?_)
        refine lv_goto (tgt := 4) hx hb dX7_cost_29 (by decide) ?_
        exact ih (i + 1) (by omega) _ hS ls (lv_sub hl [0, 1, 2] rfl)
  refine lv_iconst (v := 0) hx hb dX7_cost_0 (by decide) ?_
  refine xr_ti (x' := nI (sg (fun i => c (ord i)) 0)) rfl ?_
  refine lv_istore_n (lv' := [(1, .int (nI (sg (fun i => c (ord i)) 0))), (0, .ref b)]) hx hb dX7_cost_1 rfl hl (by decide) rfl (fun ls hl => ?_)
  refine lv_iconst (v := 0) hx hb dX7_cost_2 (by decide) ?_
  refine xr_ti (x' := nI 0) rfl ?_
  refine lv_istore_n (lv' := [(2, .int (nI 0)), (1, .int (nI (sg (fun i => c (ord i)) 0))), (0, .ref b)]) hx hb dX7_cost_3 rfl hl (by decide) rfl (fun ls hl => ?_)
  exact loop n 0 (by omega) [] hS ls (lv_sub hl [0, 1, 2] rfl)
