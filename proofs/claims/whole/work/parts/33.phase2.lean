set_option maxHeartbeats 400000 in
set_option maxRecDepth 100000 in
theorem c_X1_findShare (l : Launch) (g : WG) (H0 : Heap) (t : Nat) (c : Nat → Nat) (vs : Nat) (ap : Nat → Nat) (bu : Nat) (hT : TownAt g H0 t c vs ap bu) (f pc pk ps co op bs tr : Nat) (hO : obj g H0 f 1 (phF f t pc pk ps co op bs tr)) (hft : t + 3 ≤ f ∨ f + 280 ≤ t) (pay : Nat → Nat) (hpc : pc ≤ 48) (hpay : ∀ i, i < pc → pay i < 48) (hPy : xr_ia H0 (f + 6) (gI g) 48 (fun i => nI (pay i))) (B : Nat) (hBa : NatAt g H0 (f + 1) B) (pur : Nat → Nat) (hPu : PoolAt g H0 (f + 3) (f + 24) 48 pur) (hB : B * 48000000 < 2 ^ 128) (hpb : ∀ i, i < pc → pur (pay i) * 48 < 2 ^ 128) (r0 k0 : Nat) (hTr : ShareAt g H0 tr r0 k0) (htr : tr = f + 10 ∨ tr = f + 17) (p0 : Nat) (hp : p0 < 16) : Ctr l (KK g) yX1_findShare wsX1_findShare { frames := 3, cells := 0, slots := 0, locals := 82 } [.ref f, .int (nI p0)] H0 eI (fun z H => z = b2i (shr (supL pur pay ap p0 pc 0) (B * c p0)).1 ∧ ShareAt g H tr (shr (supL pur pay ap p0 pc 0) (B * c p0)).2.1 (shr (supL pur pay ap p0 pc 0) (B * c p0)).2.2) (fun q => tr ≤ q ∧ q < tr + 7) := by
  refine xr_enter (cc := cX1_findShare) (maxL := 4) (ret := (some .boolean)) (by decide) rfl (Nat.le_of_ble_eq_true rfl) ?_
  intro pgm env s mid below meth cde hx hb hr hml hts hown hlocks hnm hH hK ls hl
  subst hH
  have hl : lv_has ls 4 [(0, .ref f), (1, .int (nI p0))] := hl
  have hS : va_S (fun q => tr ≤ q ∧ q < tr + 7) s.heap s.heap [] := va_S.rf
  obtain ⟨hSo, hN1, hN2, hN3⟩ := id hTr
  have hcp := hT.2.2.2.1 p0 hp
  have hBc : B * c p0 < 2 ^ 128 := Nat.lt_of_le_of_lt (Nat.mul_le_mul_left B (show c p0 ≤ 48000000 by omega)) hB
  have loop : ∀ (n i r k : Nat), i + n = pc → k = (supL pur pay ap p0 n i).length → shr (supL pur pay ap p0 n i) r = shr (supL pur pay ap p0 pc 0) (B * c p0) → ∀ (H : Heap) (locs : List Loc), obj g H f 1 (phF f t pc pk ps co op bs tr) → TownAt g H t c vs ap bu → xr_ia H (f + 6) (gI g) 48 (fun i => nI (pay i)) → PoolAt g H (f + 3) (f + 24) 48 pur → ShareAt g H tr r k → va_S (fun q => tr ≤ q ∧ q < tr + 7) s.heap H locs → ∀ ls : Array Slot, lv_has ls 4 [(2, .int (nI i)), (0, .ref f), (1, .int (nI p0))] → W pgm l env { frames := 3, cells := 0, slots := 0, locals := 82 } s mid ([.ref f, .int (nI p0)] : List Value).toArray below meth cde H locs 0 0 (MQ below (xr_Post eI (fun z H => z = b2i (shr (supL pur pay ap p0 pc 0) (B * c p0)).1 ∧ ShareAt g H tr (shr (supL pur pay ap p0 pc 0) (B * c p0)).2.1 (shr (supL pur pay ap p0 pc 0) (B * c p0)).2.2) (fun q => tr ≤ q ∧ q < tr + 7)) ([.ref f, .int (nI p0)] : List Value).toArray s ({ frames := 3, cells := 0, slots := 0, locals := 82 } : Room).cells ({ frames := 3, cells := 0, slots := 0, locals := 82 } : Room).slots (fun q => tr ≤ q ∧ q < tr + 7)) (F0 mid 47 ls []) := by
    intro n
    induction n with
    | zero =>
      intro i r k h1 hk hsr H locs hO hT hPy hPu hTr hS ls hl
      refine lv_iload_n hx hb dX1_findShare_47 rfl (lv_at hl 0 rfl) ?_
      refine lv_aload_n hx hb dX1_findShare_48 rfl (lv_at hl 1 rfl) ?_
      refine va_get (D := g.1) (ci := 1) (v := .int (nI pc)) (C := RX1) (T := TX1) (N := 16) hx hb hts (by decide +kernel) hown hK.1 (xr_one hO) 0 rfl rfl 6 (by decide) (hts (.fieldLink RX1 118 "SharesDesk$Phase" "payerCount" "I") (by decide +kernel)) (fun _ h9 => h9) rfl dX1_findShare_49 ?_
      refine lv_icmp_ge (tgt := 130) hx hb dX1_findShare_52 (by decide) (fun hc => ?_) (fun hc => ?_)
      · clear hc
        have hk : k = 0 := hk
        subst hk
        have hsr : (false, r, 0) = shr (supL pur pay ap p0 pc 0) (B * c p0) := hsr
        refine lv_iconst (v := 0) hx hb dX1_findShare_130 (by decide) ?_
        exact xr_zret hx hb hr rfl hlocks hS (by rw [← hsr]; exact ⟨rfl, hTr⟩) dX1_findShare_131
      · exact absurd (nI_le (show pc ≤ i by omega) (by omega)) hc
    | succ n ih =>
      intro i r k h1 hk hsr H locs hO hT hPy hPu hTr hS ls hl
      refine lv_iload_n hx hb dX1_findShare_47 rfl (lv_at hl 0 rfl) ?_
      refine lv_aload_n hx hb dX1_findShare_48 rfl (lv_at hl 1 rfl) ?_
      refine va_get (D := g.1) (ci := 1) (v := .int (nI pc)) (C := RX1) (T := TX1) (N := 16) hx hb hts (by decide +kernel) hown hK.1 (xr_one hO) 0 rfl rfl 6 (by decide) (hts (.fieldLink RX1 118 "SharesDesk$Phase" "payerCount" "I") (by decide +kernel)) (fun _ h9 => h9) rfl dX1_findShare_49 ?_
      refine lv_icmp_ge (tgt := 130) hx hb dX1_findShare_52 (by decide) (fun hc => ?_) (fun hc => ?_)
      · exact absurd ((nI_leI (by omega) (by omega)).mp hc) (by omega)
      · clear hc
        have hv := hpay i (by omega)
        refine lv_aload_n hx hb dX1_findShare_55 rfl (lv_at hl 1 rfl) ?_
        refine va_get (D := g.1) (ci := 1) (v := .ref (f + 6)) (C := RX1) (T := TX1) (N := 16) hx hb hts (by decide +kernel) hown hK.1 (xr_one hO) 0 rfl rfl 5 (by decide) (hts (.fieldLink RX1 29 "SharesDesk$Phase" "payers" "[I") (by decide +kernel)) (fun _ h9 => h9) rfl dX1_findShare_56 ?_
        refine lv_iload_n hx hb dX1_findShare_59 rfl (lv_at hl 0 rfl) ?_
        refine xr_rd hx hb hK hPy (show i < 48 by omega) (by decide) dX1_findShare_60 ?_
        refine lv_istore_n (lv' := [(3, .int (nI (pay i))), (2, .int (nI i)), (0, .ref f), (1, .int (nI p0))]) hx hb dX1_findShare_61 rfl hl (by decide) rfl (fun ls hl => ?_)
        refine lv_aload_n hx hb dX1_findShare_62 rfl (lv_at hl 2 rfl) ?_
        refine va_get (D := g.1) (ci := 1) (v := .ref t) (C := RX1) (T := TX1) (N := 16) hx hb hts (by decide +kernel) hown hK.1 (xr_one hO) 0 rfl rfl 0 (by decide) (hts (.fieldLink RX1 51 "SharesDesk$Phase" "town" "LSharesDesk$Town;") (by decide +kernel)) (fun _ h9 => h9) rfl dX1_findShare_63 ?_
        refine lv_iload_n hx hb dX1_findShare_66 rfl (lv_at hl 0 rfl) ?_
        refine lv_iload_n hx hb dX1_findShare_67 rfl (lv_at hl 3 rfl) ?_
        refine xr_Vi (rest := []) ⟨hx, hb, hml, hown, hts⟩ (KK_ok g) hK (c_X5_approves l g H t c vs ap bu hT (pay i) p0 hv hp) (cwV 2 hts gX1_findShare_X5_approves rfl rfl rfl (by decide +kernel) ⟨Nat.le_of_ble_eq_true rfl, Nat.le_of_ble_eq_true rfl⟩) (xr_rec hK hT.1 rfl) rfl hl.1 rfl (Nat.le_of_ble_eq_true rfl) dX1_findShare_68 ⟨Nat.le_of_ble_eq_true rfl, Nat.le_of_ble_eq_true rfl⟩ hS (fun q h => h.elim) (fun r H locs hq hz hkp hS9 => ?_)
        obtain ⟨rfl, rfl⟩ := hq
        have hS := hS9
        refine lv_if_ne (tgt := 77) hx hb dX1_findShare_71 (by decide) (fun hc => ?_) (fun hc => ?_)
        · have h8 := b2i_n0.mp hc
          rw [supL_y h8] at hk hsr
          rw [List.length_cons] at hk
          have hlen := supL_len (pur := pur) (pay := pay) (ap := ap) (p := p0) n (i + 1)
          have hxk : pur (pay i) * k < 2 ^ 128 := Nat.lt_of_le_of_lt (Nat.mul_le_mul_left _ (show k ≤ 48 by omega)) (hpb i (by omega))
          refine lv_aload_n hx hb dX1_findShare_77 rfl (lv_at hl 2 rfl) ?_
          refine va_get (D := g.1) (ci := 1) (v := .ref tr) (C := RX1) (T := TX1) (N := 16) hx hb hts (by decide +kernel) hown hK.1 (xr_one hO) 0 rfl rfl 15 (by decide) (hts (.fieldLink RX1 48 "SharesDesk$Phase" "tried" "LSharesDesk$Share;") (by decide +kernel)) (fun _ h9 => h9) rfl dX1_findShare_78 ?_
          refine lv_aload_n hx hb dX1_findShare_81 rfl (lv_at hl 2 rfl) ?_
          refine va_get (D := g.1) (ci := 1) (v := .ref (f + 3)) (C := RX1) (T := TX1) (N := 16) hx hb hts (by decide +kernel) hown hK.1 (xr_one hO) 0 rfl rfl 2 (by decide) (hts (.fieldLink RX1 18 "SharesDesk$Phase" "purses" "[LSharesDesk$Natural;") (by decide +kernel)) (fun _ h9 => h9) rfl dX1_findShare_82 ?_
          refine lv_iload_n hx hb dX1_findShare_85 rfl (lv_at hl 0 rfl) ?_
          refine xr_pl hx hb hK hPu hv (by decide) dX1_findShare_86 ?_
          refine xr_Vi (rest := []) ⟨hx, hb, hml, hown, hts⟩ (KK_ok g) hK (c_X3_isWithin l g H tr (f + 24 + 4 * pay i) r k (pur (pay i)) hTr (hPu.2 _ hv) (by omega) (by omega) hxk) (cwV 1 hts gX1_findShare_X3_isWithin rfl rfl rfl (by decide +kernel) ⟨Nat.le_of_ble_eq_true rfl, Nat.le_of_ble_eq_true rfl⟩) (xr_rec hK hTr.1 rfl) rfl hl.1 rfl (Nat.le_of_ble_eq_true rfl) dX1_findShare_87 ⟨Nat.le_of_ble_eq_true rfl, Nat.le_of_ble_eq_true rfl⟩ hS (fun q h => by have h : q = tr + 4 := h; show tr ≤ q ∧ q < tr + 7; omega) (fun z H locs hq hz hkp hS => ?_)
          replace hkp := fun (q : Nat) h1 (h2 : ¬ (q = tr + 4)) => hkp q h1 h2
          clear hz
          replace hO := hO.kept (hkp _ hO.lt (by omega))
          replace hT := hT.kept (fun q hq1 hq2 hq3 => hkp q hq1 (by omega))
          replace hPy := hPy.kept (hkp _ hPy.lt (by omega))
          replace hPu := hPu.kept (hkp _ hPu.1.lt (by omega)) (fun v hv => hkp _ (hPu.2 v hv).1.lt (by omega)) (fun v hv => hkp _ (hPu.2 v hv).2.1.lt (by omega))
          obtain ⟨rfl, hTr⟩ := hq
          refine lv_if_eq (tgt := 95) hx hb dX1_findShare_90 (by decide) (fun hc => ?_) (fun hc => ?_)
          · have h9 := of_decide_eq_false (b2i_0.mp hc)
            rw [shr, if_neg (by rw [← hk]; exact h9)] at hsr
            have hle : pur (pay i) ≤ r := Nat.le_of_lt (Nat.lt_of_le_of_lt (Nat.le_mul_of_pos_right _ (show 0 < k by omega)) (Nat.lt_of_not_le h9))
            refine lv_aload_n hx hb dX1_findShare_95 rfl (lv_at hl 2 rfl) ?_
            refine va_get (D := g.1) (ci := 1) (v := .ref tr) (C := RX1) (T := TX1) (N := 16) hx hb hts (by decide +kernel) hown hK.1 (xr_one hO) 0 rfl rfl 15 (by decide) (hts (.fieldLink RX1 48 "SharesDesk$Phase" "tried" "LSharesDesk$Share;") (by decide +kernel)) (fun _ h9 => h9) rfl dX1_findShare_96 ?_
            refine va_get (D := g.1) (ci := 3) (v := .ref (tr + 1)) (C := RX3) (T := TX3) (N := 4) hx hb hts (by decide +kernel) hown hK.1 (xr_one hTr.1) 0 rfl rfl 0 (by decide) (hts (.fieldLink RX1 153 "SharesDesk$Share" "rest" "LSharesDesk$Natural;") (by decide +kernel)) (fun _ h9 => h9) rfl dX1_findShare_99 ?_
            refine lv_aload_n hx hb dX1_findShare_102 rfl (lv_at hl 2 rfl) ?_
            refine va_get (D := g.1) (ci := 1) (v := .ref (f + 3)) (C := RX1) (T := TX1) (N := 16) hx hb hts (by decide +kernel) hown hK.1 (xr_one hO) 0 rfl rfl 2 (by decide) (hts (.fieldLink RX1 18 "SharesDesk$Phase" "purses" "[LSharesDesk$Natural;") (by decide +kernel)) (fun _ h9 => h9) rfl dX1_findShare_103 ?_
            refine lv_iload_n hx hb dX1_findShare_106 rfl (lv_at hl 0 rfl) ?_
            refine xr_pl hx hb hK hPu hv (by decide) dX1_findShare_107 ?_
            obtain ⟨hSo, hN1, ⟨u2, hN2⟩, ⟨u3, hN3⟩⟩ := hTr
            refine xr_Vv (rest := []) ⟨hx, hb, hml, hown, hts⟩ (KK_ok g) hK (c_X0_minus l g H (tr + 1) (f + 24 + 4 * pay i) r (pur (pay i)) hN1 (hPu.2 _ hv) (by omega) hle (by omega)) (cwV 1 hts gX1_findShare_X0_minus rfl rfl rfl (by decide +kernel) ⟨Nat.le_of_ble_eq_true rfl, Nat.le_of_ble_eq_true rfl⟩) (xr_rec hK hN1.1 rfl) rfl hl.1 rfl (Nat.le_of_ble_eq_true rfl) dX1_findShare_108 ⟨Nat.le_of_ble_eq_true rfl, Nat.le_of_ble_eq_true rfl⟩ hS (fun q h => by have h : q = tr + 1 + 1 := h; show tr ≤ q ∧ q < tr + 7; omega) (fun _ H locs hq hz hkp hS => ?_)
            replace hkp := fun (q : Nat) h1 (h2 : ¬ (q = tr + 1 + 1)) => hkp q h1 h2
            clear hz
            replace hO := hO.kept (hkp _ hO.lt (by omega))
            replace hT := hT.kept (fun q hq1 hq2 hq3 => hkp q hq1 (by omega))
            replace hPy := hPy.kept (hkp _ hPy.lt (by omega))
            replace hPu := hPu.kept (hkp _ hPu.1.lt (by omega)) (fun v hv => hkp _ (hPu.2 v hv).1.lt (by omega)) (fun v hv => hkp _ (hPu.2 v hv).2.1.lt (by omega))
            replace hSo := hSo.kept (hkp _ hSo.lt (by omega))
            replace hN2 := hN2.kept (hkp _ hN2.1.lt (by omega)) (hkp _ hN2.2.1.lt (by omega))
            replace hN3 := hN3.kept (hkp _ hN3.1.lt (by omega)) (hkp _ hN3.2.1.lt (by omega))
            have hN1 : NatAt g H (tr + 1) (r - pur (pay i)) := hq
            refine lv_aload_n hx hb dX1_findShare_111 rfl (lv_at hl 2 rfl) ?_
            refine va_get (D := g.1) (ci := 1) (v := .ref tr) (C := RX1) (T := TX1) (N := 16) hx hb hts (by decide +kernel) hown hK.1 (xr_one hO) 0 rfl rfl 15 (by decide) (hts (.fieldLink RX1 48 "SharesDesk$Phase" "tried" "LSharesDesk$Share;") (by decide +kernel)) (fun _ h9 => h9) rfl dX1_findShare_112 ?_
            refine lv_dup hx hb dX1_findShare_115 rfl ?_
            refine va_get (D := g.1) (ci := 3) (v := .int (nI k)) (C := RX3) (T := TX3) (N := 4) hx hb hts (by decide +kernel) hown hK.1 (xr_one hSo) 0 rfl rfl 1 (by decide) (hts (.fieldLink RX1 159 "SharesDesk$Share" "payers" "I") (by decide +kernel)) (fun _ h9 => h9) rfl dX1_findShare_116 ?_
            refine lv_iconst (v := 1) hx hb dX1_findShare_119 (by decide) ?_
            refine lv_isub hx hb dX1_findShare_120 ?_
            refine xr_ti (x' := nI (supL pur pay ap p0 n (i + 1)).length) (by rw [hk]; exact nI_pred _) ?_
            refine xr_put (ci := 3) (v := .int (nI (supL pur pay ap p0 n (i + 1)).length)) (ty := .int) (C := RX3) (T := TX3) (N := 4) hx hb hts (by decide +kernel) tyX3 tyX3_ok nmX3 hown hK.1 hSo hS (show tr ≤ tr ∧ tr < tr + 7 by omega) rfl 1 (by decide) (hts (.fieldLink RX1 159 "SharesDesk$Share" "payers" "I") (by decide +kernel)) rfl (by decide +kernel) rfl rfl (Nat.le_of_ble_eq_true rfl) dX1_findShare_121 (fun H locs hz hkp hSo hS => ?_)
            replace hO := hO.kept (hkp _ (by omega))
            replace hT := hT.kept (fun q hq1 hq2 hq3 => hkp q (by omega))
            replace hPy := hPy.kept (hkp _ (by omega))
            replace hPu := hPu.kept (hkp _ (by omega)) (fun v hv => hkp _ (by omega)) (fun v hv => hkp _ (by omega))
            replace hN2 := hN2.kept (hkp _ (by omega)) (hkp _ (by omega))
            replace hN3 := hN3.kept (hkp _ (by omega)) (hkp _ (by omega))
            replace hN1 := hN1.kept (hkp _ (by omega)) (hkp _ (by omega))
            refine lv_iinc (v := nI (i + 1)) (lv' := [(2, .int (nI (i + 1))), (3, .int (nI (pay i))), (0, .ref f), (1, .int (nI p0))]) hx hb dX1_findShare_124 hl (k := 1) rfl (nI_1 i) (by decide) rfl (fun ls hl => ?_)
            refine lv_goto (tgt := 47) hx hb dX1_findShare_127 (by decide) ?_
            exact ih (i + 1) _ _ (by omega) rfl hsr H locs hO hT hPy hPu ⟨hSo, hN1, ⟨u2, hN2⟩, ⟨u3, hN3⟩⟩ hS ls (lv_sub hl [0, 2, 3] rfl)
          · have h9 := of_decide_eq_true (b2i_n0.mp hc)
            rw [shr, if_pos (by rw [← hk]; exact h9), ← hk] at hsr
            refine lv_iconst (v := 1) hx hb dX1_findShare_93 (by decide) ?_
            exact xr_zret hx hb hr rfl hlocks hS (by rw [← hsr]; exact ⟨rfl, hTr⟩) dX1_findShare_94
        · have h8 : (ap (pay i)).testBit p0 = false := b2i_0.mp hc
          rw [supL_n h8] at hk hsr
          refine lv_goto (tgt := 124) hx hb dX1_findShare_74 (by decide) ?_
          refine lv_iinc (v := nI (i + 1)) (lv' := [(2, .int (nI (i + 1))), (3, .int (nI (pay i))), (0, .ref f), (1, .int (nI p0))]) hx hb dX1_findShare_124 hl (k := 1) rfl (nI_1 i) (by decide) rfl (fun ls hl => ?_)
          refine lv_goto (tgt := 47) hx hb dX1_findShare_127 (by decide) ?_
          exact ih (i + 1) r k (by omega) hk hsr H locs hO hT hPy hPu hTr hS ls (lv_sub hl [0, 2, 3] rfl)
  obtain ⟨u2, hN2⟩ := hN2
  obtain ⟨u3, hN3⟩ := hN3
  refine lv_aload_n hx hb dX1_findShare_0 rfl (lv_at hl 0 rfl) ?_
  refine va_get (D := g.1) (ci := 1) (v := .ref tr) (C := RX1) (T := TX1) (N := 16) hx hb hts (by decide +kernel) hown hK.1 (xr_one hO) 0 rfl rfl 15 (by decide) (hts (.fieldLink RX1 48 "SharesDesk$Phase" "tried" "LSharesDesk$Share;") (by decide +kernel)) (fun _ h9 => h9) rfl dX1_findShare_1 ?_
  refine va_get (D := g.1) (ci := 3) (v := .ref (tr + 1)) (C := RX3) (T := TX3) (N := 4) hx hb hts (by decide +kernel) hown hK.1 (xr_one hSo) 0 rfl rfl 0 (by decide) (hts (.fieldLink RX1 153 "SharesDesk$Share" "rest" "LSharesDesk$Natural;") (by decide +kernel)) (fun _ h9 => h9) rfl dX1_findShare_4 ?_
  refine lv_aload_n hx hb dX1_findShare_7 rfl (lv_at hl 0 rfl) ?_
  refine va_get (D := g.1) (ci := 1) (v := .ref (f + 1)) (C := RX1) (T := TX1) (N := 16) hx hb hts (by decide +kernel) hown hK.1 (xr_one hO) 0 rfl rfl 1 (by decide) (hts (.fieldLink RX1 12 "SharesDesk$Phase" "base" "LSharesDesk$Natural;") (by decide +kernel)) (fun _ h9 => h9) rfl dX1_findShare_8 ?_
  refine xr_Vv (rest := []) ⟨hx, hb, hml, hown, hts⟩ (KK_ok g) hK (c_X0_copy l g s.heap (tr + 1) (f + 1) r0 B hN1 hBa (by omega)) (cwV 1 hts gX1_findShare_X0_copy rfl rfl rfl (by decide +kernel) ⟨Nat.le_of_ble_eq_true rfl, Nat.le_of_ble_eq_true rfl⟩) (xr_rec hK hN1.1 rfl) rfl hl.1 rfl (Nat.le_of_ble_eq_true rfl) dX1_findShare_11 ⟨Nat.le_of_ble_eq_true rfl, Nat.le_of_ble_eq_true rfl⟩ hS (fun q h => by have h : q = tr + 1 + 1 := h; show tr ≤ q ∧ q < tr + 7; omega) (fun _ H locs hq hz hkp hS => ?_)
  replace hkp := fun (q : Nat) h1 (h2 : ¬ (q = tr + 1 + 1)) => hkp q h1 h2
  clear hz
  replace hO := hO.kept (hkp _ hO.lt (by omega))
  replace hT := hT.kept (fun q hq1 hq2 hq3 => hkp q hq1 (by omega))
  replace hPy := hPy.kept (hkp _ hPy.lt (by omega))
  replace hPu := hPu.kept (hkp _ hPu.1.lt (by omega)) (fun v hv => hkp _ (hPu.2 v hv).1.lt (by omega)) (fun v hv => hkp _ (hPu.2 v hv).2.1.lt (by omega))
  replace hSo := hSo.kept (hkp _ hSo.lt (by omega))
  replace hN2 := hN2.kept (hkp _ hN2.1.lt (by omega)) (hkp _ hN2.2.1.lt (by omega))
  replace hN3 := hN3.kept (hkp _ hN3.1.lt (by omega)) (hkp _ hN3.2.1.lt (by omega))
  have hN1 : NatAt g H (tr + 1) B := hq
  refine lv_aload_n hx hb dX1_findShare_14 rfl (lv_at hl 0 rfl) ?_
  refine va_get (D := g.1) (ci := 1) (v := .ref tr) (C := RX1) (T := TX1) (N := 16) hx hb hts (by decide +kernel) hown hK.1 (xr_one hO) 0 rfl rfl 15 (by decide) (hts (.fieldLink RX1 48 "SharesDesk$Phase" "tried" "LSharesDesk$Share;") (by decide +kernel)) (fun _ h9 => h9) rfl dX1_findShare_15 ?_
  refine va_get (D := g.1) (ci := 3) (v := .ref (tr + 1)) (C := RX3) (T := TX3) (N := 4) hx hb hts (by decide +kernel) hown hK.1 (xr_one hSo) 0 rfl rfl 0 (by decide) (hts (.fieldLink RX1 153 "SharesDesk$Share" "rest" "LSharesDesk$Natural;") (by decide +kernel)) (fun _ h9 => h9) rfl dX1_findShare_18 ?_
  refine lv_aload_n hx hb dX1_findShare_21 rfl (lv_at hl 0 rfl) ?_
  refine va_get (D := g.1) (ci := 1) (v := .ref t) (C := RX1) (T := TX1) (N := 16) hx hb hts (by decide +kernel) hown hK.1 (xr_one hO) 0 rfl rfl 0 (by decide) (hts (.fieldLink RX1 51 "SharesDesk$Phase" "town" "LSharesDesk$Town;") (by decide +kernel)) (fun _ h9 => h9) rfl dX1_findShare_22 ?_
  refine va_get (D := g.1) (ci := 5) (v := .ref (t + 1)) (C := RX5) (T := TX5) (N := 4) hx hb hts (by decide +kernel) hown hK.1 (xr_one hT.1) 0 rfl rfl 0 (by decide) (hts (.fieldLink RX1 112 "SharesDesk$Town" "costs" "[I") (by decide +kernel)) (fun _ h9 => h9) rfl dX1_findShare_25 ?_
  refine lv_iload_n hx hb dX1_findShare_28 rfl (lv_at hl 1 rfl) ?_
  refine xr_rd hx hb hK hT.2.1 hp (by decide) dX1_findShare_29 ?_
  refine xr_Vv (rest := []) ⟨hx, hb, hml, hown, hts⟩ (KK_ok g) hK (c_X0_times l g H (tr + 1) B (c p0) hN1 (by omega) hBc) (cwV 1 hts gX1_findShare_X0_times rfl rfl rfl (by decide +kernel) ⟨Nat.le_of_ble_eq_true rfl, Nat.le_of_ble_eq_true rfl⟩) (xr_rec hK hN1.1 rfl) rfl hl.1 rfl (Nat.le_of_ble_eq_true rfl) dX1_findShare_30 ⟨Nat.le_of_ble_eq_true rfl, Nat.le_of_ble_eq_true rfl⟩ hS (fun q h => by have h : q = tr + 1 + 1 := h; show tr ≤ q ∧ q < tr + 7; omega) (fun _ H locs hq hz hkp hS => ?_)
  replace hkp := fun (q : Nat) h1 (h2 : ¬ (q = tr + 1 + 1)) => hkp q h1 h2
  clear hz
  replace hO := hO.kept (hkp _ hO.lt (by omega))
  replace hT := hT.kept (fun q hq1 hq2 hq3 => hkp q hq1 (by omega))
  replace hPy := hPy.kept (hkp _ hPy.lt (by omega))
  replace hPu := hPu.kept (hkp _ hPu.1.lt (by omega)) (fun v hv => hkp _ (hPu.2 v hv).1.lt (by omega)) (fun v hv => hkp _ (hPu.2 v hv).2.1.lt (by omega))
  replace hSo := hSo.kept (hkp _ hSo.lt (by omega))
  replace hN2 := hN2.kept (hkp _ hN2.1.lt (by omega)) (hkp _ hN2.2.1.lt (by omega))
  replace hN3 := hN3.kept (hkp _ hN3.1.lt (by omega)) (hkp _ hN3.2.1.lt (by omega))
  have hN1 : NatAt g H (tr + 1) (B * c p0) := hq
  refine lv_aload_n hx hb dX1_findShare_33 rfl (lv_at hl 0 rfl) ?_
  refine va_get (D := g.1) (ci := 1) (v := .ref tr) (C := RX1) (T := TX1) (N := 16) hx hb hts (by decide +kernel) hown hK.1 (xr_one hO) 0 rfl rfl 15 (by decide) (hts (.fieldLink RX1 48 "SharesDesk$Phase" "tried" "LSharesDesk$Share;") (by decide +kernel)) (fun _ h9 => h9) rfl dX1_findShare_34 ?_
  refine lv_aload_n hx hb dX1_findShare_37 rfl (lv_at hl 0 rfl) ?_
  refine lv_iload_n hx hb dX1_findShare_38 rfl (lv_at hl 1 rfl) ?_
  refine xr_Vi (rest := [.ref tr]) ⟨hx, hb, hml, hown, hts⟩ (KK_ok g) hK (c_X1_countPayers l g H t c vs ap bu hT f pc pk ps co op bs tr hO hft pay hpc hpay hPy pur p0 hp) (cwV 1 hts gX1_findShare_X1_countPayers rfl rfl rfl (by decide +kernel) ⟨Nat.le_of_ble_eq_true rfl, Nat.le_of_ble_eq_true rfl⟩) (xr_rec hK hO rfl) rfl hl.1 rfl (Nat.le_of_ble_eq_true rfl) dX1_findShare_39 ⟨Nat.le_of_ble_eq_true rfl, Nat.le_of_ble_eq_true rfl⟩ hS (fun q h => h.elim) (fun r H locs hq hz hkp hS9 => ?_)
  obtain ⟨rfl, rfl⟩ := hq
  have hS := hS9
  refine xr_put (ci := 3) (v := .int (nI (supL pur pay ap p0 pc 0).length)) (ty := .int) (C := RX3) (T := TX3) (N := 4) hx hb hts (by decide +kernel) tyX3 tyX3_ok nmX3 hown hK.1 hSo hS (show tr ≤ tr ∧ tr < tr + 7 by omega) rfl 1 (by decide) (hts (.fieldLink RX1 159 "SharesDesk$Share" "payers" "I") (by decide +kernel)) rfl (by decide +kernel) rfl rfl (Nat.le_of_ble_eq_true rfl) dX1_findShare_42 (fun H locs hz hkp hSo hS => ?_)
  replace hO := hO.kept (hkp _ (by omega))
  replace hT := hT.kept (fun q hq1 hq2 hq3 => hkp q (by omega))
  replace hPy := hPy.kept (hkp _ (by omega))
  replace hPu := hPu.kept (hkp _ (by omega)) (fun v hv => hkp _ (by omega)) (fun v hv => hkp _ (by omega))
  replace hN2 := hN2.kept (hkp _ (by omega)) (hkp _ (by omega))
  replace hN3 := hN3.kept (hkp _ (by omega)) (hkp _ (by omega))
  replace hN1 := hN1.kept (hkp _ (by omega)) (hkp _ (by omega))
  refine lv_iconst (v := 0) hx hb dX1_findShare_45 (by decide) ?_
  refine xr_ti (x' := nI 0) rfl ?_
  refine lv_istore_n (lv' := [(2, .int (nI 0)), (0, .ref f), (1, .int (nI p0))]) hx hb dX1_findShare_46 rfl hl (by decide) rfl (fun ls hl => ?_)
  exact loop pc 0 (B * c p0) _ (by omega) rfl rfl H locs hO hT hPy hPu ⟨hSo, hN1, ⟨u2, hN2⟩, ⟨u3, hN3⟩⟩ hS ls (lv_sub hl [0, 1, 2] rfl)
