set_option maxHeartbeats 1000000 in
set_option maxRecDepth 100000 in
theorem c_X7_receipt (l : Launch) (g : WG) (H0 : Heap) (b : Nat) (th : Int32) (c0 : Nat → Nat) (vs0 : Nat) (ap0 : Nat → Nat) (bu0 : Nat) (c : Nat → Nat) (vs : Nat) (ap : Nat → Nat) (bu cn n : Nat) (Rw ord : Nat → Nat) (ch : Nat → Bool) (hD : ModAt g H0 b th c0 vs0 ap0 bu0 c vs ap bu cn n Rw ord ch) (hQ : MqOK c vs ap n Rw ord ch) (v k : Int32) : Ctr l (KK g) yX7_receipt wsX7_receipt { frames := 5, cells := 0, slots := 0, locals := 115 } [.ref b, .int v, .int k] H0 eI (fun r H => r = mRe vs n Rw ord v k ∧ ∃ R1 : Nat → Nat, ModAt g H b 0 c0 vs0 ap0 bu0 c vs ap bu cn n R1 ord ch ∧ ∀ j, j < 849 → R1 j = Rw j) (fun q => b ≤ q ∧ q < b + 12) := by
  refine xr_enter (cc := cX7_receipt) (maxL := 5) (ret := (some .int)) (by decide) rfl (Nat.le_of_ble_eq_true rfl) ?_
  intro pgm env s mid below meth cde hx hb hr hml hts hown hlocks hnm hH hK ls hl
  subst hH
  have hl : lv_has ls 5 [(0, .ref b), (1, .int v), (2, .int k)] := hl
  have hS : va_S (fun q => b ≤ q ∧ q < b + 12) s.heap s.heap [] := va_S.rf
  obtain ⟨py, ln, pf, tx, hO, hM, hNw, hOl, hOr, hI, hPo, hTx, hbl, hbh⟩ := id hD
  obtain ⟨hn16, hord, hxb, hDb, hlin, hpm, hD0, hmis⟩ := id hQ
  refine lv_aload_n hx hb dX7_receipt_0 rfl (lv_at hl 0 rfl) ?_
  refine lv_iconst (v := 0) hx hb dX7_receipt_1 (by decide) ?_
  refine xr_put (ci := 7) (v := .int 0) (ty := .int) (C := RX7) (T := TX7) (N := 18) hx hb hts (by decide +kernel) tyX7 tyX7_ok nmX7 hown hK.1 hO hS (show b ≤ b ∧ b < b + 12 by omega) rfl 0 (by decide) (hts (.fieldLink RX7 51 "SharesDeskModel" "thrown" "I") (by decide +kernel)) rfl (by decide +kernel) rfl rfl (Nat.le_of_ble_eq_true rfl) dX7_receipt_2 (fun H locs hz hkp hO hS => ?_)
  replace hM := hM.kept (hkp _ (by omega))
  replace hNw := hNw.kept (fun q hq1 hq2 hq3 => hkp q (by omega))
  replace hOl := hOl.kept (fun q hq1 hq2 hq3 => hkp q (by omega))
  replace hOr := hOr.kept (hkp _ (by omega))
  replace hI := hI.kept (hkp _ (by omega))
  replace hPo := hPo.kept (hkp _ (by omega))
  replace hTx := hTx.kept (hkp _ (by omega))
  refine lv_aload_n hx hb dX7_receipt_5 rfl (lv_at hl 0 rfl) ?_
  refine lv_iload_n hx hb dX7_receipt_6 rfl (lv_at hl 1 rfl) ?_
  refine xr_Vi (rest := []) ⟨hx, hb, hml, hown, hts⟩ (KK_ok g) hK (c_X7_isVoter l g H b 0 (nI bu0) (nI bu) (nI cn) (nI n) py ln hO c vs ap hOl v) (cwV 1 hts gX7_receipt_X7_isVoter rfl rfl rfl (by decide +kernel) ⟨Nat.le_of_ble_eq_true rfl, Nat.le_of_ble_eq_true rfl⟩) (xr_rec hK hO rfl) rfl hl.1 rfl (Nat.le_of_ble_eq_true rfl) dX7_receipt_7 ⟨Nat.le_of_ble_eq_true rfl, Nat.le_of_ble_eq_true rfl⟩ hS (fun q h => h.elim) (fun r H locs hq hz hkp hS946 => ?_)
  obtain ⟨rfl, rfl⟩ := hq
  have hS := hS946
  refine lv_if_eq (tgt := 17) hx hb dX7_receipt_10 (by decide) (fun h0 => ?_) (fun h0 => ?_)
  · have h9 : isV vs v = false := b2i_0.mp h0
    refine lv_iconst (v := (-1)) hx hb dX7_receipt_17 (by decide) ?_
    exact xr_iret hx hb hr hlocks hS ⟨by unfold mRe; rw [h9]; rfl, Rw, ⟨py, ln, pf, tx, hO, hM, hNw, hOl, hOr, hI, hPo, hTx, hbl, hbh⟩, fun _ _ => rfl⟩ dX7_receipt_18
  · have h9 : isV vs v = true := b2i_n0.mp h0
    refine lv_iload_n hx hb dX7_receipt_13 rfl (lv_at hl 2 rfl) ?_
    refine lv_if_ge (tgt := 19) hx hb dX7_receipt_14 (by decide) (fun h1 => ?_) (fun h1 => ?_)
    · obtain ⟨kk, hkk, rfl⟩ := nI_of (x := k) (fun q => i_nle q h1)
      obtain ⟨i, hi, rfl, hvi, hv0⟩ := isV_of h9
      refine lv_aload_n hx hb dX7_receipt_19 rfl (lv_at hl 0 rfl) ?_
      refine lv_iconst (v := 0) hx hb dX7_receipt_20 (by decide) ?_
      refine xr_ti (x' := nI (mTx Rw ord i 0).length) rfl ?_
      refine xr_put (ci := 7) (v := .int (nI (mTx Rw ord i 0).length)) (ty := .int) (C := RX7) (T := TX7) (N := 18) hx hb hts (by decide +kernel) tyX7 tyX7_ok nmX7 hown hK.1 hO hS (show b ≤ b ∧ b < b + 12 by omega) rfl 17 (by decide) (hts (.fieldLink RX7 162 "SharesDeskModel" "length" "I") (by decide +kernel)) rfl (by decide +kernel) rfl rfl (Nat.le_of_ble_eq_true rfl) dX7_receipt_21 (fun H locs hz hkp hO hS => ?_)
      replace hM := hM.kept (hkp _ (by omega))
      replace hNw := hNw.kept (fun q hq1 hq2 hq3 => hkp q (by omega))
      replace hOl := hOl.kept (fun q hq1 hq2 hq3 => hkp q (by omega))
      replace hOr := hOr.kept (hkp _ (by omega))
      replace hI := hI.kept (hkp _ (by omega))
      replace hPo := hPo.kept (hkp _ (by omega))
      replace hTx := hTx.kept (hkp _ (by omega))
      have loop : ∀ (q9 r : Nat), r + q9 = n → ∀ (H : Heap) (locs : List Loc) (tx R1 : Nat → Nat), obj g H b 7 (moF b 0 (nI bu0) (nI bu) (nI cn) (nI n) py (nI (mTx Rw ord i r).length)) → RwsAt g H b R1 → (∀ j, j < 849 → R1 j = Rw j) → NewAt g H b c0 vs0 ap0 → OldAt g H b c vs ap → xr_ia H (b + 8) (gI g) 16 (fun z9 => nI (ord z9)) → xr_ia H (b + 9) (gZ g) 16 (fun z9 => b2i (ch z9)) → xr_ia H (b + 10) (gZ g) 48 (fun z9 => b2i (pf z9)) → xr_ia H (b + 11) (gI g) 2400 (fun z9 => nI (tx z9)) → TxOK tx (mTx Rw ord i r) → va_S (fun q => b ≤ q ∧ q < b + 12) s.heap H locs → ∀ ls : Array Slot, lv_has ls 5 [(3, .int (nI r)), (0, .ref b), (1, .int (nI i)), (2, .int (nI kk))] → W pgm l env { frames := 5, cells := 0, slots := 0, locals := 115 } s mid ([.ref b, .int (nI i), .int (nI kk)] : List Value).toArray below meth cde H locs 0 0 (MQ below (xr_Post eI (fun r H => r = mRe vs n Rw ord (nI i) (nI kk) ∧ ∃ R1 : Nat → Nat, ModAt g H b 0 c0 vs0 ap0 bu0 c vs ap bu cn n R1 ord ch ∧ ∀ j, j < 849 → R1 j = Rw j) (fun q => b ≤ q ∧ q < b + 12)) ([.ref b, .int (nI i), .int (nI kk)] : List Value).toArray s ({ frames := 5, cells := 0, slots := 0, locals := 115 } : Room).cells ({ frames := 5, cells := 0, slots := 0, locals := 115 } : Room).slots (fun q => b ≤ q ∧ q < b + 12)) (F0 mid 26 ls []) := by
        intro q9
        induction q9 with
        | zero =>
          intro r h2 H locs tx R1 hO hM1 eR hNw hOl hOr hI hPo hTx hT hS ls hl
          have e : r = n := by omega
          subst e
          have hlen := mTx_len Rw ord i r
          have hf1 := fTx_len (Rw i) (Rw 848)
          have hxi := hxb i hi
          refine lv_iload_n hx hb dX7_receipt_26 rfl (lv_at hl 0 rfl) ?_
          refine lv_aload_n hx hb dX7_receipt_27 rfl (lv_at hl 1 rfl) ?_
          refine va_get (D := g.1) (ci := 7) (v := .int (nI r)) (C := RX7) (T := TX7) (N := 18) hx hb hts (by decide +kernel) hown hK.1 (xr_one hO) 0 rfl rfl 11 (by decide) (hts (.fieldLink RX7 120 "SharesDeskModel" "rounds" "I") (by decide +kernel)) (fun _ h9 => h9) rfl dX7_receipt_28 ?_
          refine lv_icmp_ge (tgt := 118) hx hb dX7_receipt_31 (by decide) (fun hc => ?_) (fun hc => ?_)
          · clear hc
            refine lv_aload_n hx hb dX7_receipt_118 rfl (lv_at hl 1 rfl) ?_
            refine lv_bipush (v := 61) hx hb dX7_receipt_119 (by decide) ?_
            refine xr_ti (x' := nI 61) rfl ?_
            refine xr_Vv (rest := []) ⟨hx, hb, hml, hown, hts⟩ (KK_ok g) hK (c_X7_say l g H b 0 (nI bu0) (nI bu) (nI cn) (nI r) py _ hO tx hTx (61) (by omega)) (cwV 1 hts gX7_receipt_X7_say rfl rfl rfl (by decide +kernel) ⟨Nat.le_of_ble_eq_true rfl, Nat.le_of_ble_eq_true rfl⟩) (xr_rec hK hO rfl) rfl hl.1 rfl (Nat.le_of_ble_eq_true rfl) dX7_receipt_121 ⟨Nat.le_of_ble_eq_true rfl, Nat.le_of_ble_eq_true rfl⟩ hS (fun q h => by have h : q = b ∨ q = b + 11 := h; show b ≤ q ∧ q < b + 12; omega) (fun _ H locs hq hz hkp hS => ?_)
            replace hkp := fun (q : Nat) h1 (h2 : ¬ (q = b ∨ q = b + 11)) => hkp q h1 h2
            replace hNw := hNw.kept (fun q hq1 hq2 hq3 => hkp q hq1 (by omega))
            replace hOl := hOl.kept (fun q hq1 hq2 hq3 => hkp q hq1 (by omega))
            replace hOr := hOr.kept (hkp _ hOr.lt (by omega))
            replace hI := hI.kept (hkp _ hI.lt (by omega))
            replace hPo := hPo.kept (hkp _ hPo.lt (by omega))
            replace hM1 := hM1.kept (hkp _ hM1.lt (by omega))
            obtain ⟨hO, hTx⟩ := hq
            have hT := hT.app (c := 61)
            obtain ⟨tx, hTx, hT⟩ : ∃ tz : Nat → Nat, xr_ia H (b + 11) (gI g) 2400 (fun z9 => nI (tz z9)) ∧ TxOK tz (mTx Rw ord i r ++ [61]) := ⟨_, hTx, hT⟩
            have hO : obj g H b 7 (moF b 0 (nI bu0) (nI bu) (nI cn) (nI r) py (nI (mTx Rw ord i r ++ [61]).length)) := by rw [List.length_append, List.length_singleton]; exact hO
            refine lv_aload_n hx hb dX7_receipt_124 rfl (lv_at hl 1 rfl) ?_
            refine lv_iload_n hx hb dX7_receipt_125 rfl (lv_at hl 2 rfl) ?_
            refine lv_sipush (v := 848) hx hb dX7_receipt_126 (by decide) ?_
            refine xr_ti (x' := nI 848) rfl ?_
            refine xr_Vv (rest := []) ⟨hx, hb, hml, hown, hts⟩ (KK_ok g) hK (c_X7_sayFraction l g H b 0 (nI bu0) (nI bu) (nI cn) (nI r) py (mTx Rw ord i r ++ [61]) hO R1 hM1 tx hTx hT (i) (848) (by omega) (by decide) (by rw [eR 848 (by decide)]; exact hD0 (Or.inl hv0)) (by rw [eR i (by omega)]; omega) (by rw [eR 848 (by decide)]; omega) (by simp; omega)) (cwV 2 hts gX7_receipt_X7_sayFraction rfl rfl rfl (by decide +kernel) ⟨Nat.le_of_ble_eq_true rfl, Nat.le_of_ble_eq_true rfl⟩) (xr_rec hK hO rfl) rfl hl.1 rfl (Nat.le_of_ble_eq_true rfl) dX7_receipt_129 ⟨Nat.le_of_ble_eq_true rfl, Nat.le_of_ble_eq_true rfl⟩ hS (fun q h => by have h : q = b ∨ q = b + 1 ∨ q = b + 11 := h; show b ≤ q ∧ q < b + 12; omega) (fun _ H locs hq hz hkp hS => ?_)
            replace hkp := fun (q : Nat) h1 (h2 : ¬ (q = b ∨ q = b + 1 ∨ q = b + 11)) => hkp q h1 h2
            replace hNw := hNw.kept (fun q hq1 hq2 hq3 => hkp q hq1 (by omega))
            replace hOl := hOl.kept (fun q hq1 hq2 hq3 => hkp q hq1 (by omega))
            replace hOr := hOr.kept (hkp _ hOr.lt (by omega))
            replace hI := hI.kept (hkp _ hI.lt (by omega))
            replace hPo := hPo.kept (hkp _ hPo.lt (by omega))
            obtain ⟨tx, R2, hO, hTx, hT, hM1, e2⟩ := hq
            rw [eR (i) (by omega), eR (848) (by omega)] at hO hT
            have eR : ∀ j, j < 849 → R2 j = Rw j := fun j hj => by rw [e2 j (by omega), eR j hj]
            obtain ⟨R1, hM1, eR⟩ : ∃ rz : Nat → Nat, RwsAt g H b rz ∧ ∀ j, j < 849 → rz j = Rw j := ⟨R2, hM1, eR⟩
            refine lv_aload_n hx hb dX7_receipt_132 rfl (lv_at hl 1 rfl) ?_
            refine lv_bipush (v := 46) hx hb dX7_receipt_133 (by decide) ?_
            refine xr_ti (x' := nI 46) rfl ?_
            refine xr_Vv (rest := []) ⟨hx, hb, hml, hown, hts⟩ (KK_ok g) hK (c_X7_say l g H b 0 (nI bu0) (nI bu) (nI cn) (nI r) py _ hO tx hTx (46) (by simp; omega)) (cwV 1 hts gX7_receipt_X7_say rfl rfl rfl (by decide +kernel) ⟨Nat.le_of_ble_eq_true rfl, Nat.le_of_ble_eq_true rfl⟩) (xr_rec hK hO rfl) rfl hl.1 rfl (Nat.le_of_ble_eq_true rfl) dX7_receipt_135 ⟨Nat.le_of_ble_eq_true rfl, Nat.le_of_ble_eq_true rfl⟩ hS (fun q h => by have h : q = b ∨ q = b + 11 := h; show b ≤ q ∧ q < b + 12; omega) (fun _ H locs hq hz hkp hS => ?_)
            replace hkp := fun (q : Nat) h1 (h2 : ¬ (q = b ∨ q = b + 11)) => hkp q h1 h2
            replace hNw := hNw.kept (fun q hq1 hq2 hq3 => hkp q hq1 (by omega))
            replace hOl := hOl.kept (fun q hq1 hq2 hq3 => hkp q hq1 (by omega))
            replace hOr := hOr.kept (hkp _ hOr.lt (by omega))
            replace hI := hI.kept (hkp _ hI.lt (by omega))
            replace hPo := hPo.kept (hkp _ hPo.lt (by omega))
            replace hM1 := hM1.kept (hkp _ hM1.lt (by omega))
            obtain ⟨hO, hTx⟩ := hq
            have hT := hT.app (c := 46)
            obtain ⟨tx, hTx, hT⟩ : ∃ tz : Nat → Nat, xr_ia H (b + 11) (gI g) 2400 (fun z9 => nI (tz z9)) ∧ TxOK tz (mTx Rw ord i r ++ [61] ++ fTx (Rw (i)) (Rw (848)) ++ [46]) := ⟨_, hTx, hT⟩
            have hO : obj g H b 7 (moF b 0 (nI bu0) (nI bu) (nI cn) (nI r) py (nI (mTx Rw ord i r ++ [61] ++ fTx (Rw (i)) (Rw (848)) ++ [46]).length)) := by rw [List.length_append, List.length_singleton]; exact hO
            have hfe : mTx Rw ord i r ++ [61] ++ fTx (Rw (i)) (Rw (848)) ++ [46] = mrT Rw ord r i := by unfold mrT; simp
            rw [hfe] at hO hT
            have hml : (mrT Rw ord r i).length ≤ 1409 := by unfold mrT; simp; omega
            have hans : mRe vs r Rw ord (nI i) (nI kk) = if kk < (mrT Rw ord r i).length then nI ((mrT Rw ord r i).getD kk 0) else -1 := by unfold mRe; rw [if_pos h9, ix_nI (show i < 2 ^ 31 by omega), nI_toInt hkk]; by_cases e9 : kk < (mrT Rw ord r i).length; (rw [if_pos e9, if_pos (by omega)]; rfl); (rw [if_neg e9, if_neg (by omega)])
            refine lv_iload_n hx hb dX7_receipt_138 rfl (lv_at hl 3 rfl) ?_
            refine lv_aload_n hx hb dX7_receipt_139 rfl (lv_at hl 1 rfl) ?_
            refine va_get (D := g.1) (ci := 7) (v := .int (nI (mrT Rw ord r i).length)) (C := RX7) (T := TX7) (N := 18) hx hb hts (by decide +kernel) hown hK.1 (xr_one hO) 0 rfl rfl 17 (by decide) (hts (.fieldLink RX7 162 "SharesDeskModel" "length" "I") (by decide +kernel)) (fun _ h9 => h9) rfl dX7_receipt_140 ?_
            refine lv_icmp_ge (tgt := 155) hx hb dX7_receipt_143 (by decide) (fun h5 => ?_) (fun h5 => ?_)
            · have e5 : (mrT Rw ord r i).length ≤ kk := (nI_leI (by omega) hkk).mp h5
              refine lv_iconst (v := (-1)) hx hb dX7_receipt_155 (by decide) ?_
              exact xr_iret hx hb hr hlocks hS ⟨by rw [hans, if_neg (by omega)], R1, ⟨py, _, pf, tx, hO, hM1, hNw, hOl, hOr, hI, hPo, hTx, hbl, hbh⟩, eR⟩ dX7_receipt_156
            · have e5 : kk < (mrT Rw ord r i).length := Nat.lt_of_not_le fun q => h5 (nI_le q hkk)
              refine lv_aload_n hx hb dX7_receipt_146 rfl (lv_at hl 1 rfl) ?_
              refine va_get (D := g.1) (ci := 7) (v := .ref (b + 11)) (C := RX7) (T := TX7) (N := 18) hx hb hts (by decide +kernel) hown hK.1 (xr_one hO) 0 rfl rfl 16 (by decide) (hts (.fieldLink RX7 48 "SharesDeskModel" "text" "[I") (by decide +kernel)) (fun _ h9 => h9) rfl dX7_receipt_147 ?_
              refine lv_iload_n hx hb dX7_receipt_150 rfl (lv_at hl 3 rfl) ?_
              refine xr_rd hx hb hK hTx (show kk < 2400 by omega) (by decide) dX7_receipt_151 ?_
              refine lv_goto (tgt := 156) hx hb dX7_receipt_152 (by decide) ?_
              exact xr_iret hx hb hr hlocks hS ⟨by rw [hans, if_pos e5, hT kk e5], R1, ⟨py, _, pf, tx, hO, hM1, hNw, hOl, hOr, hI, hPo, hTx, hbl, hbh⟩, eR⟩ dX7_receipt_156
          · exact absurd (nI_le (Nat.le_refl r) (by omega)) hc
        | succ q9 ih =>
          intro r h2 H locs tx R1 hO hM1 eR hNw hOl hOr hI hPo hTx hT hS ls hl
          have hrn : r < n := by omega
          have hlen := mTx_len Rw ord i r
          have hf1 := fTx_len (Rw (48 + 48 * r + i)) (Rw (816 + r))
          have hlr := hlin r hrn
          have hor := hord r hrn
          have hpr := hpm r i hrn hi hvi
          refine lv_iload_n hx hb dX7_receipt_26 rfl (lv_at hl 0 rfl) ?_
          refine lv_aload_n hx hb dX7_receipt_27 rfl (lv_at hl 1 rfl) ?_
          refine va_get (D := g.1) (ci := 7) (v := .int (nI n)) (C := RX7) (T := TX7) (N := 18) hx hb hts (by decide +kernel) hown hK.1 (xr_one hO) 0 rfl rfl 11 (by decide) (hts (.fieldLink RX7 120 "SharesDeskModel" "rounds" "I") (by decide +kernel)) (fun _ h9 => h9) rfl dX7_receipt_28 ?_
          refine lv_icmp_ge (tgt := 118) hx hb dX7_receipt_31 (by decide) (fun hc => ?_) (fun hc => ?_)
          · exact absurd ((nI_leI (a := n) (b := r) (by omega) (by omega)).mp hc) (by omega)
          · clear hc
            refine lv_bipush (v := 48) hx hb dX7_receipt_34 (by decide) ?_
            refine xr_ti (x' := nI 48) rfl ?_
            refine lv_bipush (v := 48) hx hb dX7_receipt_36 (by decide) ?_
            refine xr_ti (x' := nI 48) rfl ?_
            refine lv_iload_n hx hb dX7_receipt_38 rfl (lv_at hl 0 rfl) ?_
            refine lv_imul hx hb dX7_receipt_39 ?_
            refine xr_ti (x' := nI (48 * r)) (pk_mul _ _) ?_
            refine lv_iadd hx hb dX7_receipt_40 ?_
            refine xr_ti (x' := nI (48 + 48 * r)) (nI_add _ _) ?_
            refine lv_iload_n hx hb dX7_receipt_41 rfl (lv_at hl 2 rfl) ?_
            refine lv_iadd hx hb dX7_receipt_42 ?_
            refine xr_ti (x' := nI (48 + 48 * r + i)) (nI_add _ _) ?_
            refine lv_istore (lv' := [(4, .int (nI (48 + 48 * r + i))), (3, .int (nI r)), (0, .ref b), (1, .int (nI i)), (2, .int (nI kk))]) hx hb dX7_receipt_43 hl (by decide) rfl (fun ls hl => ?_)
            refine lv_aload_n hx hb dX7_receipt_45 rfl (lv_at hl 2 rfl) ?_
            refine lv_iload hx hb dX7_receipt_46 (lv_at hl 0 rfl) ?_
            refine xr_Vi (rest := []) ⟨hx, hb, hml, hown, hts⟩ (KK_ok g) hK (c_X7_isNone l g H b 0 (nI bu0) (nI bu) (nI cn) (nI n) py _ hO R1 hM1 (48 + 48 * r + i) (by omega)) (cwV 1 hts gX7_receipt_X7_isNone rfl rfl rfl (by decide +kernel) ⟨Nat.le_of_ble_eq_true rfl, Nat.le_of_ble_eq_true rfl⟩) (xr_rec hK hO rfl) rfl hl.1 rfl (Nat.le_of_ble_eq_true rfl) dX7_receipt_48 ⟨Nat.le_of_ble_eq_true rfl, Nat.le_of_ble_eq_true rfl⟩ hS (fun q h => h.elim) (fun r H locs hq hz hkp hS947 => ?_)
            obtain ⟨rfl, rfl⟩ := hq
            have hS := hS947
            rw [eR (48 + 48 * r + i) (by omega)]
            refine lv_if_eq (tgt := 57) hx hb dX7_receipt_51 (by decide) (fun h5 => ?_) (fun h5 => ?_)
            · have e5 : ¬ Rw (48 + 48 * r + i) = 0 := of_decide_eq_false (b2i_0.mp h5)
              refine lv_aload_n hx hb dX7_receipt_57 rfl (lv_at hl 2 rfl) ?_
              refine lv_bipush (v := 48) hx hb dX7_receipt_58 (by decide) ?_
              refine xr_ti (x' := nI 48) rfl ?_
              refine lv_aload_n hx hb dX7_receipt_60 rfl (lv_at hl 2 rfl) ?_
              refine va_get (D := g.1) (ci := 7) (v := .ref (b + 8)) (C := RX7) (T := TX7) (N := 18) hx hb hts (by decide +kernel) hown hK.1 (xr_one hO) 0 rfl rfl 12 (by decide) (hts (.fieldLink RX7 39 "SharesDeskModel" "order" "[I") (by decide +kernel)) (fun _ h9 => h9) rfl dX7_receipt_61 ?_
              refine lv_iload_n hx hb dX7_receipt_64 rfl (lv_at hl 1 rfl) ?_
              refine xr_rd hx hb hK hOr (show r < 16 by omega) (by decide) dX7_receipt_65 ?_
              refine lv_bipush (v := 10) hx hb dX7_receipt_66 (by decide) ?_
              refine xr_ti (x' := nI 10) rfl ?_
              refine lv_idiv hx hb dX7_receipt_68 (by decide) ?_
              refine xr_ti (x' := nI (ord r / 10)) (pk_div (by omega) (by decide) (by decide)) ?_
              refine lv_iadd hx hb dX7_receipt_69 ?_
              refine xr_ti (x' := nI (48 + ord r / 10)) (nI_add _ _) ?_
              refine xr_Vv (rest := []) ⟨hx, hb, hml, hown, hts⟩ (KK_ok g) hK (c_X7_say l g H b 0 (nI bu0) (nI bu) (nI cn) (nI n) py _ hO tx hTx (48 + ord r / 10) (by omega)) (cwV 1 hts gX7_receipt_X7_say rfl rfl rfl (by decide +kernel) ⟨Nat.le_of_ble_eq_true rfl, Nat.le_of_ble_eq_true rfl⟩) (xr_rec hK hO rfl) rfl hl.1 rfl (Nat.le_of_ble_eq_true rfl) dX7_receipt_70 ⟨Nat.le_of_ble_eq_true rfl, Nat.le_of_ble_eq_true rfl⟩ hS (fun q h => by have h : q = b ∨ q = b + 11 := h; show b ≤ q ∧ q < b + 12; omega) (fun _ H locs hq hz hkp hS => ?_)
              replace hkp := fun (q : Nat) h1 (h2 : ¬ (q = b ∨ q = b + 11)) => hkp q h1 h2
              replace hNw := hNw.kept (fun q hq1 hq2 hq3 => hkp q hq1 (by omega))
              replace hOl := hOl.kept (fun q hq1 hq2 hq3 => hkp q hq1 (by omega))
              replace hOr := hOr.kept (hkp _ hOr.lt (by omega))
              replace hI := hI.kept (hkp _ hI.lt (by omega))
              replace hPo := hPo.kept (hkp _ hPo.lt (by omega))
              replace hM1 := hM1.kept (hkp _ hM1.lt (by omega))
              obtain ⟨hO, hTx⟩ := hq
              have hT := hT.app (c := 48 + ord r / 10)
              obtain ⟨tx, hTx, hT⟩ : ∃ tz : Nat → Nat, xr_ia H (b + 11) (gI g) 2400 (fun z9 => nI (tz z9)) ∧ TxOK tz (mTx Rw ord i r ++ [48 + ord r / 10]) := ⟨_, hTx, hT⟩
              have hO : obj g H b 7 (moF b 0 (nI bu0) (nI bu) (nI cn) (nI n) py (nI (mTx Rw ord i r ++ [48 + ord r / 10]).length)) := by rw [List.length_append, List.length_singleton]; exact hO
              refine lv_aload_n hx hb dX7_receipt_73 rfl (lv_at hl 2 rfl) ?_
              refine lv_bipush (v := 48) hx hb dX7_receipt_74 (by decide) ?_
              refine xr_ti (x' := nI 48) rfl ?_
              refine lv_aload_n hx hb dX7_receipt_76 rfl (lv_at hl 2 rfl) ?_
              refine va_get (D := g.1) (ci := 7) (v := .ref (b + 8)) (C := RX7) (T := TX7) (N := 18) hx hb hts (by decide +kernel) hown hK.1 (xr_one hO) 0 rfl rfl 12 (by decide) (hts (.fieldLink RX7 39 "SharesDeskModel" "order" "[I") (by decide +kernel)) (fun _ h9 => h9) rfl dX7_receipt_77 ?_
              refine lv_iload_n hx hb dX7_receipt_80 rfl (lv_at hl 1 rfl) ?_
              refine xr_rd hx hb hK hOr (show r < 16 by omega) (by decide) dX7_receipt_81 ?_
              refine lv_bipush (v := 10) hx hb dX7_receipt_82 (by decide) ?_
              refine xr_ti (x' := nI 10) rfl ?_
              refine lv_irem hx hb dX7_receipt_84 (by decide) ?_
              refine xr_ti (x' := nI (ord r % 10)) (pk_rem (by omega) (by decide) (by decide)) ?_
              refine lv_iadd hx hb dX7_receipt_85 ?_
              refine xr_ti (x' := nI (48 + ord r % 10)) (nI_add _ _) ?_
              refine xr_Vv (rest := []) ⟨hx, hb, hml, hown, hts⟩ (KK_ok g) hK (c_X7_say l g H b 0 (nI bu0) (nI bu) (nI cn) (nI n) py _ hO tx hTx (48 + ord r % 10) (by simp; omega)) (cwV 1 hts gX7_receipt_X7_say rfl rfl rfl (by decide +kernel) ⟨Nat.le_of_ble_eq_true rfl, Nat.le_of_ble_eq_true rfl⟩) (xr_rec hK hO rfl) rfl hl.1 rfl (Nat.le_of_ble_eq_true rfl) dX7_receipt_86 ⟨Nat.le_of_ble_eq_true rfl, Nat.le_of_ble_eq_true rfl⟩ hS (fun q h => by have h : q = b ∨ q = b + 11 := h; show b ≤ q ∧ q < b + 12; omega) (fun _ H locs hq hz hkp hS => ?_)
              replace hkp := fun (q : Nat) h1 (h2 : ¬ (q = b ∨ q = b + 11)) => hkp q h1 h2
              replace hNw := hNw.kept (fun q hq1 hq2 hq3 => hkp q hq1 (by omega))
              replace hOl := hOl.kept (fun q hq1 hq2 hq3 => hkp q hq1 (by omega))
              replace hOr := hOr.kept (hkp _ hOr.lt (by omega))
              replace hI := hI.kept (hkp _ hI.lt (by omega))
              replace hPo := hPo.kept (hkp _ hPo.lt (by omega))
              replace hM1 := hM1.kept (hkp _ hM1.lt (by omega))
              obtain ⟨hO, hTx⟩ := hq
              have hT := hT.app (c := 48 + ord r % 10)
              obtain ⟨tx, hTx, hT⟩ : ∃ tz : Nat → Nat, xr_ia H (b + 11) (gI g) 2400 (fun z9 => nI (tz z9)) ∧ TxOK tz (mTx Rw ord i r ++ [48 + ord r / 10] ++ [48 + ord r % 10]) := ⟨_, hTx, hT⟩
              have hO : obj g H b 7 (moF b 0 (nI bu0) (nI bu) (nI cn) (nI n) py (nI (mTx Rw ord i r ++ [48 + ord r / 10] ++ [48 + ord r % 10]).length)) := by rw [List.length_append, List.length_singleton]; exact hO
              refine lv_aload_n hx hb dX7_receipt_89 rfl (lv_at hl 2 rfl) ?_
              refine lv_bipush (v := 32) hx hb dX7_receipt_90 (by decide) ?_
              refine xr_ti (x' := nI 32) rfl ?_
              refine xr_Vv (rest := []) ⟨hx, hb, hml, hown, hts⟩ (KK_ok g) hK (c_X7_say l g H b 0 (nI bu0) (nI bu) (nI cn) (nI n) py _ hO tx hTx (32) (by simp; omega)) (cwV 1 hts gX7_receipt_X7_say rfl rfl rfl (by decide +kernel) ⟨Nat.le_of_ble_eq_true rfl, Nat.le_of_ble_eq_true rfl⟩) (xr_rec hK hO rfl) rfl hl.1 rfl (Nat.le_of_ble_eq_true rfl) dX7_receipt_92 ⟨Nat.le_of_ble_eq_true rfl, Nat.le_of_ble_eq_true rfl⟩ hS (fun q h => by have h : q = b ∨ q = b + 11 := h; show b ≤ q ∧ q < b + 12; omega) (fun _ H locs hq hz hkp hS => ?_)
              replace hkp := fun (q : Nat) h1 (h2 : ¬ (q = b ∨ q = b + 11)) => hkp q h1 h2
              replace hNw := hNw.kept (fun q hq1 hq2 hq3 => hkp q hq1 (by omega))
              replace hOl := hOl.kept (fun q hq1 hq2 hq3 => hkp q hq1 (by omega))
              replace hOr := hOr.kept (hkp _ hOr.lt (by omega))
              replace hI := hI.kept (hkp _ hI.lt (by omega))
              replace hPo := hPo.kept (hkp _ hPo.lt (by omega))
              replace hM1 := hM1.kept (hkp _ hM1.lt (by omega))
              obtain ⟨hO, hTx⟩ := hq
              have hT := hT.app (c := 32)
              obtain ⟨tx, hTx, hT⟩ : ∃ tz : Nat → Nat, xr_ia H (b + 11) (gI g) 2400 (fun z9 => nI (tz z9)) ∧ TxOK tz (mTx Rw ord i r ++ [48 + ord r / 10] ++ [48 + ord r % 10] ++ [32]) := ⟨_, hTx, hT⟩
              have hO : obj g H b 7 (moF b 0 (nI bu0) (nI bu) (nI cn) (nI n) py (nI (mTx Rw ord i r ++ [48 + ord r / 10] ++ [48 + ord r % 10] ++ [32]).length)) := by rw [List.length_append, List.length_singleton]; exact hO
              refine lv_aload_n hx hb dX7_receipt_95 rfl (lv_at hl 2 rfl) ?_
              refine lv_iload hx hb dX7_receipt_96 (lv_at hl 0 rfl) ?_
              refine lv_sipush (v := 816) hx hb dX7_receipt_98 (by decide) ?_
              refine xr_ti (x' := nI 816) rfl ?_
              refine lv_iload_n hx hb dX7_receipt_101 rfl (lv_at hl 1 rfl) ?_
              refine lv_iadd hx hb dX7_receipt_102 ?_
              refine xr_ti (x' := nI (816 + r)) (nI_add _ _) ?_
              refine xr_Vv (rest := []) ⟨hx, hb, hml, hown, hts⟩ (KK_ok g) hK (c_X7_sayFraction l g H b 0 (nI bu0) (nI bu) (nI cn) (nI n) py (mTx Rw ord i r ++ [48 + ord r / 10] ++ [48 + ord r % 10] ++ [32]) hO R1 hM1 tx hTx hT (48 + 48 * r + i) (816 + r) (by omega) (by omega) (by rw [eR _ (by omega)]; exact hlr.1) (by rw [eR _ (by omega)]; exact hpr) (by rw [eR _ (by omega)]; exact hlr.2.1) (by simp; omega)) (cwV 2 hts gX7_receipt_X7_sayFraction rfl rfl rfl (by decide +kernel) ⟨Nat.le_of_ble_eq_true rfl, Nat.le_of_ble_eq_true rfl⟩) (xr_rec hK hO rfl) rfl hl.1 rfl (Nat.le_of_ble_eq_true rfl) dX7_receipt_103 ⟨Nat.le_of_ble_eq_true rfl, Nat.le_of_ble_eq_true rfl⟩ hS (fun q h => by have h : q = b ∨ q = b + 1 ∨ q = b + 11 := h; show b ≤ q ∧ q < b + 12; omega) (fun _ H locs hq hz hkp hS => ?_)
              replace hkp := fun (q : Nat) h1 (h2 : ¬ (q = b ∨ q = b + 1 ∨ q = b + 11)) => hkp q h1 h2
              replace hNw := hNw.kept (fun q hq1 hq2 hq3 => hkp q hq1 (by omega))
              replace hOl := hOl.kept (fun q hq1 hq2 hq3 => hkp q hq1 (by omega))
              replace hOr := hOr.kept (hkp _ hOr.lt (by omega))
              replace hI := hI.kept (hkp _ hI.lt (by omega))
              replace hPo := hPo.kept (hkp _ hPo.lt (by omega))
              obtain ⟨tx, R2, hO, hTx, hT, hM1, e2⟩ := hq
              rw [eR (48 + 48 * r + i) (by omega), eR (816 + r) (by omega)] at hO hT
              have eR : ∀ j, j < 849 → R2 j = Rw j := fun j hj => by rw [e2 j (by omega), eR j hj]
              obtain ⟨R1, hM1, eR⟩ : ∃ rz : Nat → Nat, RwsAt g H b rz ∧ ∀ j, j < 849 → rz j = Rw j := ⟨R2, hM1, eR⟩
              refine lv_aload_n hx hb dX7_receipt_106 rfl (lv_at hl 2 rfl) ?_
              refine lv_bipush (v := 59) hx hb dX7_receipt_107 (by decide) ?_
              refine xr_ti (x' := nI 59) rfl ?_
              refine xr_Vv (rest := []) ⟨hx, hb, hml, hown, hts⟩ (KK_ok g) hK (c_X7_say l g H b 0 (nI bu0) (nI bu) (nI cn) (nI n) py _ hO tx hTx (59) (by simp; omega)) (cwV 1 hts gX7_receipt_X7_say rfl rfl rfl (by decide +kernel) ⟨Nat.le_of_ble_eq_true rfl, Nat.le_of_ble_eq_true rfl⟩) (xr_rec hK hO rfl) rfl hl.1 rfl (Nat.le_of_ble_eq_true rfl) dX7_receipt_109 ⟨Nat.le_of_ble_eq_true rfl, Nat.le_of_ble_eq_true rfl⟩ hS (fun q h => by have h : q = b ∨ q = b + 11 := h; show b ≤ q ∧ q < b + 12; omega) (fun _ H locs hq hz hkp hS => ?_)
              replace hkp := fun (q : Nat) h1 (h2 : ¬ (q = b ∨ q = b + 11)) => hkp q h1 h2
              replace hNw := hNw.kept (fun q hq1 hq2 hq3 => hkp q hq1 (by omega))
              replace hOl := hOl.kept (fun q hq1 hq2 hq3 => hkp q hq1 (by omega))
              replace hOr := hOr.kept (hkp _ hOr.lt (by omega))
              replace hI := hI.kept (hkp _ hI.lt (by omega))
              replace hPo := hPo.kept (hkp _ hPo.lt (by omega))
              replace hM1 := hM1.kept (hkp _ hM1.lt (by omega))
              obtain ⟨hO, hTx⟩ := hq
              have hT := hT.app (c := 59)
              obtain ⟨tx, hTx, hT⟩ : ∃ tz : Nat → Nat, xr_ia H (b + 11) (gI g) 2400 (fun z9 => nI (tz z9)) ∧ TxOK tz (mTx Rw ord i r ++ [48 + ord r / 10] ++ [48 + ord r % 10] ++ [32] ++ fTx (Rw (48 + 48 * r + i)) (Rw (816 + r)) ++ [59]) := ⟨_, hTx, hT⟩
              have hO : obj g H b 7 (moF b 0 (nI bu0) (nI bu) (nI cn) (nI n) py (nI (mTx Rw ord i r ++ [48 + ord r / 10] ++ [48 + ord r % 10] ++ [32] ++ fTx (Rw (48 + 48 * r + i)) (Rw (816 + r)) ++ [59]).length)) := by rw [List.length_append, List.length_singleton]; exact hO
              refine lv_iinc (v := nI (r + 1)) (lv' := [(3, .int (nI (r + 1))), (4, .int (nI (48 + 48 * r + i))), (0, .ref b), (1, .int (nI i)), (2, .int (nI kk))]) hx hb dX7_receipt_112 hl (k := 1) rfl (nI_1 r) (by decide) rfl (fun ls hl => ?_)
              refine lv_goto (tgt := 26) hx hb dX7_receipt_115 (by decide) ?_
              have hfe : mTx Rw ord i r ++ [48 + ord r / 10] ++ [48 + ord r % 10] ++ [32] ++ fTx (Rw (48 + 48 * r + i)) (Rw (816 + r)) ++ [59] = mTx Rw ord i (r + 1) := by rw [mTx]; unfold mEn; rw [if_neg e5]; simp
              rw [hfe] at hO hT
              exact ih (r + 1) (by omega) H _ tx R1 hO hM1 eR hNw hOl hOr hI hPo hTx hT hS ls (lv_sub hl [0, 2, 3, 4] rfl)
            · have e5 : Rw (48 + 48 * r + i) = 0 := of_decide_eq_true (b2i_n0.mp h5)
              refine lv_goto (tgt := 112) hx hb dX7_receipt_54 (by decide) ?_
              refine lv_iinc (v := nI (r + 1)) (lv' := [(3, .int (nI (r + 1))), (4, .int (nI (48 + 48 * r + i))), (0, .ref b), (1, .int (nI i)), (2, .int (nI kk))]) hx hb dX7_receipt_112 hl (k := 1) rfl (nI_1 r) (by decide) rfl (fun ls hl => ?_)
              refine lv_goto (tgt := 26) hx hb dX7_receipt_115 (by decide) ?_
              have hfe : mTx Rw ord i r = mTx Rw ord i (r + 1) := by rw [mTx]; unfold mEn; rw [if_pos e5, List.append_nil]
              rw [hfe] at hO hT
              exact ih (r + 1) (by omega) H _ tx R1 hO hM1 eR hNw hOl hOr hI hPo hTx hT hS ls (lv_sub hl [0, 2, 3, 4] rfl)
      refine lv_iconst (v := 0) hx hb dX7_receipt_24 (by decide) ?_
      refine xr_ti (x' := nI 0) rfl ?_
      refine lv_istore_n (lv' := [(3, .int (nI 0)), (0, .ref b), (1, .int (nI i)), (2, .int (nI kk))]) hx hb dX7_receipt_25 rfl hl (by decide) rfl (fun ls hl => ?_)
      exact loop n 0 (by omega) H _ tx Rw hO hM (fun _ _ => rfl) hNw hOl hOr hI hPo hTx (fun j hj => absurd hj (Nat.not_lt_zero _)) hS ls (lv_sub hl [0, 1, 2, 3] rfl)
    · have h8 : ¬ 0 ≤ k.toInt := fun q => h1 (Int32.le_iff_toInt_le.mpr q)
      refine lv_iconst (v := (-1)) hx hb dX7_receipt_17 (by decide) ?_
      exact xr_iret hx hb hr hlocks hS ⟨by unfold mRe; rw [if_pos h9, if_neg (fun q => h8 q.1)], Rw, ⟨py, ln, pf, tx, hO, hM, hNw, hOl, hOr, hI, hPo, hTx, hbl, hbh⟩, fun _ _ => rfl⟩ dX7_receipt_18
