set_option maxHeartbeats 1000000 in
set_option maxRecDepth 100000 in
theorem c_X6_passedOver9 (l : Launch) (g : WG) (H0 : Heap) (sa sb : Nat) (hl9 : l.stackTraces = false) (a : Nat) (c0 : Nat → Nat) (vs0 : Nat) (ap0 : Nat → Nat) (bu0 : Nat) (c : Nat → Nat) (vs : Nat) (ap : Nat → Nat) (bu : Nat) (n : Nat) (S : PSt) (ow : Int32) (tx : List Nat) (hD : DeskAt g H0 a c0 vs0 ap0 bu0 c vs ap bu n S ow tx) (hQ : PhQ c vs ap n S) (mm : Int32) : CtrX l (KKX g (fun _ => False) H0 sa sb) yX6_passedOver wsX6_passedOver { frames := 6, cells := 1, slots := 6, locals := 82 } [.ref a, .int mm] H0 eI (fun r H => (cnt vs 48 = 0 ∧ rg mm 4 = true ∧ r = 0 ∨ cnt vs 48 ≠ 0 ∧ ∃ m9, mm = nI m9 ∧ 1 ≤ m9 ∧ m9 ≤ 4 ∧ FstC (PoC c vs ap bu (qps S) m9) m9 r) ∧ H = H0) (fun _ => False) (rg mm 4 = false) := by
  refine xr_enterX (cc := cX6_passedOver) (maxL := 6) (ret := (some .int)) (by decide) rfl (Nat.le_of_ble_eq_true rfl) ?_
  intro pgm env s mid below meth cde hx hb hr hml hts hown hlocks hnm hH hK9 hout ls hl
  subst hH
  have hK := hK9.1
  have hl : lv_has ls 6 [(0, .ref a), (1, .int mm)] := hl
  have hS : va_S (fun _ => False) s.heap s.heap [] := va_S.rf
  obtain ⟨rs, tr, rt, ru, ly, n2, S2, hrt, hO, hT0, hT, hRt, hLk, hSl, hP, hP2, hPr, hp1, hp2⟩ := id hD
  obtain ⟨hTO, hcs, hap, hcb, hvb, hab, hbb⟩ := id hT
  refine lv_iload_n hx hb dX6_passedOver_0 rfl (lv_at hl 1 rfl) ?_
  refine lv_iconst (v := 1) hx hb dX6_passedOver_1 (by decide) ?_
  refine lv_icmp_lt (tgt := 10) hx hb dX6_passedOver_2 (by decide) (fun h0 => ?_) (fun h0 => ?_)
  · have hTh : rg mm 4 = false := rg_lo h0
    exact vx_throwS (own := RX6) (cls := kx_E) (text := kx_p) (names := kx_n) (ik := 95) (is := 161) (ic := 99) hx hb hl9 hown (by decide) (by decide) (hts _ (by decide +kernel)) (hts _ (by decide +kernel)) hK9.2.2.1 (vx_hat (B := kx_w) (fun w9 hw9 => hts w9 ((by decide +kernel : ∀ w ∈ (vx_atS RX6 99 kx_E kx_n).filter goodWord, w ∈ wsX6_passedOver) w9 hw9)) (by decide +kernel) hK9.2.words) (by decide +kernel) hK9.2.2.2.2.1 hK9.2.2.2.2.2 hS (by rw [hml]; exact hl.1) dX6_passedOver_10 dX6_passedOver_13 dX6_passedOver_14 dX6_passedOver_16 dX6_passedOver_19 (fun x9 hx9 => (hout x9 hx9).elim) (Nat.le_of_ble_eq_true rfl) (Nat.le_of_ble_eq_true rfl) (Nat.le_of_ble_eq_true rfl) (Nat.le_of_ble_eq_true rfl) hlocks (fun t _ h1 h2 => ⟨rfl, hTh, h1, fun q h3 _ => h2 q h3⟩) (fun z9 hz9 => by cases hz9) (Nat.le_of_ble_eq_true rfl) (Nat.le_of_ble_eq_true rfl)
  · have e0 := h0
    refine lv_iload_n hx hb dX6_passedOver_5 rfl (lv_at hl 1 rfl) ?_
    refine lv_iconst (v := 4) hx hb dX6_passedOver_6 (by decide) ?_
    refine lv_icmp_le (tgt := 20) hx hb dX6_passedOver_7 (by decide) (fun h1 => ?_) (fun h1 => ?_)
    · obtain ⟨hrg, m9, hm1, hm2, hm3, rfl⟩ := rg_ok (M := 4) (m := 4) (by decide) e0 h1
      refine vx_ret ?_
      refine W.widen (k := 1) (n := 6) (Nat.le_of_ble_eq_true rfl) (Nat.le_of_ble_eq_true rfl) ?_
      have hc48 := cnt_le vs 48
      refine lv_aload_n hx hb dX6_passedOver_20 rfl (lv_at hl 0 rfl) ?_
      refine va_get (D := g.1) (ci := 6) (v := .ref (a + 4)) (C := RX6) (T := TX6) (N := 7) hx hb hts (by decide +kernel) hown hK.1 (xr_one hO) 0 rfl rfl 1 (by decide) (hts (.fieldLink RX6 16 "SharesDesk" "past" "LSharesDesk$Town;") (by decide +kernel)) (fun _ h9 => h9) rfl dX6_passedOver_21 ?_
      refine xr_Vi (rest := []) ⟨hx, hb, hml, hown, hts⟩ (KK_ok g) hK (c_X5_countVoters l g s.heap (a + 4) c vs ap bu hT) (cwV 0 hts gX6_passedOver_X5_countVoters rfl rfl rfl (by decide +kernel) ⟨Nat.le_of_ble_eq_true rfl, Nat.le_of_ble_eq_true rfl⟩) (xr_rec hK hTO rfl) rfl hl.1 rfl (Nat.le_of_ble_eq_true rfl) dX6_passedOver_24 ⟨Nat.le_of_ble_eq_true rfl, Nat.le_of_ble_eq_true rfl⟩ hS (fun q h => h.elim) (fun r H locs hq hz hkp hS936 => ?_)
      obtain ⟨rfl, rfl⟩ := hq
      have hS := hS936
      refine lv_istore_n (lv' := [(2, .int (nI (cnt vs 48))), (0, .ref a), (1, .int (nI m9))]) hx hb dX6_passedOver_27 rfl hl (by decide) rfl (fun ls hl => ?_)
      refine lv_iload_n hx hb dX6_passedOver_28 rfl (lv_at hl 0 rfl) ?_
      refine lv_if_ne (tgt := 34) hx hb dX6_passedOver_29 (by decide) (fun h2 => ?_) (fun h2 => ?_)
      · have hc0 : cnt vs 48 ≠ 0 := fun q => h2 (by rw [q]; rfl)
        refine lv_aload_n hx hb dX6_passedOver_34 rfl (lv_at hl 1 rfl) ?_
        refine va_get (D := g.1) (ci := 6) (v := .ref (a + 4)) (C := RX6) (T := TX6) (N := 7) hx hb hts (by decide +kernel) hown hK.1 (xr_one hO) 0 rfl rfl 1 (by decide) (hts (.fieldLink RX6 16 "SharesDesk" "past" "LSharesDesk$Town;") (by decide +kernel)) (fun _ h9 => h9) rfl dX6_passedOver_35 ?_
        refine xr_Vi (rest := []) ⟨hx, hb, hml, hown, hts⟩ (KK_ok g) hK (c_X5_allProjects l g s.heap (a + 4) c vs ap bu hT) (cwV 0 hts gX6_passedOver_X5_allProjects rfl rfl rfl (by decide +kernel) ⟨Nat.le_of_ble_eq_true rfl, Nat.le_of_ble_eq_true rfl⟩) (xr_rec hK hTO rfl) rfl hl.1 rfl (Nat.le_of_ble_eq_true rfl) dX6_passedOver_38 ⟨Nat.le_of_ble_eq_true rfl, Nat.le_of_ble_eq_true rfl⟩ hS (fun q h => h.elim) (fun r H locs hq hz hkp hS937 => ?_)
        obtain ⟨rfl, rfl⟩ := hq
        have hS := hS937
        refine lv_istore_n (lv' := [(3, .int (nI (setOf c 16))), (2, .int (nI (cnt vs 48))), (0, .ref a), (1, .int (nI m9))]) hx hb dX6_passedOver_41 rfl hl (by decide) rfl (fun ls hl => ?_)
        have hp4 : 2 ^ m9 ≤ 2 ^ 4 := Nat.pow_le_pow_right (by decide) hm2
        have hp1 : 1 ≤ 2 ^ m9 := Nat.one_le_two_pow
        have loop : ∀ (k i : Nat), i + k = 1820 → sqN m9 i < 2 ^ 17 → (∀ j, j < i → sqN m9 j < 65536 ∧ ¬ PoC c vs ap bu (qps S) m9 (sqN m9 j)) → ∀ (locs : List Loc), va_S (fun _ => False) s.heap s.heap locs → ∀ ls : Array Slot, lv_has ls 6 [(5, .int (nI i)), (4, .int (nI (sqN m9 i))), (0, .ref a), (1, .int (nI m9)), (2, .int (nI (cnt vs 48))), (3, .int (nI (setOf c 16)))] → W pgm l env { frames := 6, cells := 1, slots := 6, locals := 82 } s mid ([.ref a, .int (nI m9)] : List Value).toArray below meth cde s.heap locs 1 6 (MQ below (xr_Post eI (fun r H => (cnt vs 48 = 0 ∧ rg (nI m9) 4 = true ∧ r = 0 ∨ cnt vs 48 ≠ 0 ∧ ∃ m8, nI m9 = nI m8 ∧ 1 ≤ m8 ∧ m8 ≤ 4 ∧ FstC (PoC c vs ap bu (qps S) m8) m8 r) ∧ H = s.heap) (fun _ => False)) ([.ref a, .int (nI m9)] : List Value).toArray s ({ frames := 6, cells := 1, slots := 6, locals := 82 } : Room).cells ({ frames := 6, cells := 1, slots := 6, locals := 82 } : Room).slots (fun _ => False)) (F0 mid 52 ls []) := by
          intro k
          induction k with
          | zero =>
            intro i h3 h17 hno locs hS ls hl
            have e : i = 1820 := by omega
            subst e
            refine lv_iload hx hb dX6_passedOver_52 (lv_at hl 0 rfl) ?_
            refine lv_sipush (v := 1820) hx hb dX6_passedOver_54 (by decide) ?_
            refine xr_ti (x' := nI 1820) rfl ?_
            refine lv_icmp_ge (tgt := 103) hx hb dX6_passedOver_57 (by decide) (fun hc => ?_) (fun hc => ?_)
            · clear hc
              refine lv_iconst (v := 0) hx hb dX6_passedOver_103 (by decide) ?_
              exact xr_iret hx hb hr hlocks hS ⟨Or.inr ⟨hc0, m9, rfl, hm1, hm2, 1820, Nat.le_refl _, hno, Or.inr ⟨Or.inl rfl, rfl⟩⟩, rfl⟩ dX6_passedOver_104
            · exact absurd (by decide) hc
          | succ k ih =>
            intro i h3 h17 hno locs hS ls hl
            have hsp := sqN_pos (m := m9) hm1 i
            refine lv_iload hx hb dX6_passedOver_52 (lv_at hl 0 rfl) ?_
            refine lv_sipush (v := 1820) hx hb dX6_passedOver_54 (by decide) ?_
            refine xr_ti (x' := nI 1820) rfl ?_
            refine lv_icmp_ge (tgt := 103) hx hb dX6_passedOver_57 (by decide) (fun hc => ?_) (fun hc => ?_)
            · exact absurd ((nI_leI (a := 1820) (b := i) (by decide) (by omega)).mp hc) (by omega)
            · clear hc
              refine lv_iload hx hb dX6_passedOver_60 (lv_at hl 1 rfl) ?_
              refine lv_ldc (v := (65536)) hx hb hown (hts (.constant RX6 166 (65536)) (by decide +kernel)) dX6_passedOver_62 ?_
              refine xr_ti (x' := nI 65536) rfl ?_
              refine lv_icmp_ge (tgt := 103) hx hb dX6_passedOver_64 (by decide) (fun h4 => ?_) (fun h4 => ?_)
              · have h5 : 65536 ≤ sqN m9 i := (nI_leI (a := 65536) (by decide) (by omega)).mp h4
                refine lv_iconst (v := 0) hx hb dX6_passedOver_103 (by decide) ?_
                exact xr_iret hx hb hr hlocks hS ⟨Or.inr ⟨hc0, m9, rfl, hm1, hm2, i, by omega, hno, Or.inr ⟨Or.inr h5, rfl⟩⟩, rfl⟩ dX6_passedOver_104
              · have h5 : sqN m9 i < 65536 := Nat.lt_of_not_le fun q => h4 (nI_le q (by omega))
                refine lv_iload hx hb dX6_passedOver_67 (lv_at hl 1 rfl) ?_
                refine lv_iload_n hx hb dX6_passedOver_69 rfl (lv_at hl 5 rfl) ?_
                refine lv_iconst (v := (-1)) hx hb dX6_passedOver_70 (by decide) ?_
                refine lv_ixor hx hb dX6_passedOver_71 ?_
                refine lv_iand hx hb dX6_passedOver_72 ?_
                refine lv_if_ne (tgt := 90) hx hb dX6_passedOver_73 (by decide) (fun h6 => ?_) (fun h6 => ?_)
                · have h7 : ¬ sqN m9 i &&& setOf c 16 = sqN m9 i := fun q => h6 ((sub0 (by omega)).mpr q)
                  refine lv_iload hx hb dX6_passedOver_90 (lv_at hl 1 rfl) ?_
                  refine xr_Si (rest := []) ⟨hx, hb, hml, hown, hts⟩ (KK_ok g) hK (c_X6_nextOfSameSize l g s.heap (sqN m9 i) hsp h5) (cwS 1 hts gX6_passedOver_X6_nextOfSameSize rfl rfl rfl (by decide +kernel) ⟨Nat.le_of_ble_eq_true rfl, Nat.le_of_ble_eq_true rfl⟩) rfl hl.1 rfl (Nat.le_of_ble_eq_true rfl) dX6_passedOver_92 ⟨Nat.le_of_ble_eq_true rfl, Nat.le_of_ble_eq_true rfl⟩ hS (fun q h => h.elim) (fun r H locs hq hz hkp hS938 => ?_)
                  obtain ⟨rfl, rfl⟩ := hq
                  have hS := hS938
                  refine xr_ti (x' := nI (sqN m9 (i + 1))) rfl ?_
                  refine lv_istore (lv' := [(4, .int (nI (sqN m9 (i + 1)))), (5, .int (nI i)), (0, .ref a), (1, .int (nI m9)), (2, .int (nI (cnt vs 48))), (3, .int (nI (setOf c 16)))]) hx hb dX6_passedOver_95 hl (by decide) rfl (fun ls hl => ?_)
                  refine lv_iinc (v := nI (i + 1)) (lv' := [(5, .int (nI (i + 1))), (4, .int (nI (sqN m9 (i + 1)))), (0, .ref a), (1, .int (nI m9)), (2, .int (nI (cnt vs 48))), (3, .int (nI (setOf c 16)))]) hx hb dX6_passedOver_97 hl (k := 1) rfl (nI_1 i) (by decide) rfl (fun ls hl => ?_)
                  refine lv_goto (tgt := 52) hx hb dX6_passedOver_100 (by decide) ?_
                  exact ih (i + 1) (by omega) (nxS_lt h5) (fun j hj => by by_cases e9 : j = i; (rw [e9]; exact ⟨h5, fun q => h7 q.1⟩); exact hno j (by omega)) _ hS ls (lv_sub hl [0, 1, 2, 3, 4, 5] rfl)
                · have h7 : sqN m9 i &&& setOf c 16 = sqN m9 i := (sub0 (by omega)).mp h6
                  refine lv_aload_n hx hb dX6_passedOver_76 rfl (lv_at hl 2 rfl) ?_
                  refine lv_iload hx hb dX6_passedOver_77 (lv_at hl 1 rfl) ?_
                  refine lv_iload_n hx hb dX6_passedOver_79 rfl (lv_at hl 3 rfl) ?_
                  refine lv_iload_n hx hb dX6_passedOver_80 rfl (lv_at hl 4 rfl) ?_
                  refine xr_Vi (rest := []) ⟨hx, hb, hml, hown, hts⟩ (KK_ok g) hK (c_X6_deservesMore l g s.heap a c0 vs0 ap0 bu0 c vs ap bu n S ow tx hD hQ (sqN m9 i) m9 h5 (by omega)) (cwV 3 hts gX6_passedOver_X6_deservesMore rfl rfl rfl (by decide +kernel) ⟨Nat.le_of_ble_eq_true rfl, Nat.le_of_ble_eq_true rfl⟩) (xr_rec hK hO rfl) rfl hl.1 rfl (Nat.le_of_ble_eq_true rfl) dX6_passedOver_81 ⟨Nat.le_of_ble_eq_true rfl, Nat.le_of_ble_eq_true rfl⟩ hS (fun q h => h.elim) (fun r H locs hq hz hkp hS939 => ?_)
                  obtain ⟨rfl, rfl⟩ := hq
                  have hS := hS939
                  refine lv_if_eq (tgt := 90) hx hb dX6_passedOver_84 (by decide) (fun h8 => ?_) (fun h8 => ?_)
                  · have h9 : aDm c vs ap bu (qps S) (sqN m9 i) m9 = false := b2i_0.mp h8
                    refine lv_iload hx hb dX6_passedOver_90 (lv_at hl 1 rfl) ?_
                    refine xr_Si (rest := []) ⟨hx, hb, hml, hown, hts⟩ (KK_ok g) hK (c_X6_nextOfSameSize l g s.heap (sqN m9 i) hsp h5) (cwS 1 hts gX6_passedOver_X6_nextOfSameSize rfl rfl rfl (by decide +kernel) ⟨Nat.le_of_ble_eq_true rfl, Nat.le_of_ble_eq_true rfl⟩) rfl hl.1 rfl (Nat.le_of_ble_eq_true rfl) dX6_passedOver_92 ⟨Nat.le_of_ble_eq_true rfl, Nat.le_of_ble_eq_true rfl⟩ hS (fun q h => h.elim) (fun r H locs hq hz hkp hS940 => ?_)
                    obtain ⟨rfl, rfl⟩ := hq
                    have hS := hS940
                    refine xr_ti (x' := nI (sqN m9 (i + 1))) rfl ?_
                    refine lv_istore (lv' := [(4, .int (nI (sqN m9 (i + 1)))), (5, .int (nI i)), (0, .ref a), (1, .int (nI m9)), (2, .int (nI (cnt vs 48))), (3, .int (nI (setOf c 16)))]) hx hb dX6_passedOver_95 hl (by decide) rfl (fun ls hl => ?_)
                    refine lv_iinc (v := nI (i + 1)) (lv' := [(5, .int (nI (i + 1))), (4, .int (nI (sqN m9 (i + 1)))), (0, .ref a), (1, .int (nI m9)), (2, .int (nI (cnt vs 48))), (3, .int (nI (setOf c 16)))]) hx hb dX6_passedOver_97 hl (k := 1) rfl (nI_1 i) (by decide) rfl (fun ls hl => ?_)
                    refine lv_goto (tgt := 52) hx hb dX6_passedOver_100 (by decide) ?_
                    exact ih (i + 1) (by omega) (nxS_lt h5) (fun j hj => by by_cases e9 : j = i; (rw [e9]; exact ⟨h5, fun q => by have := q.2; rw [h9] at this; cases this⟩); exact hno j (by omega)) _ hS ls (lv_sub hl [0, 1, 2, 3, 4, 5] rfl)
                  · have h9 : aDm c vs ap bu (qps S) (sqN m9 i) m9 = true := b2i_n0.mp h8
                    refine lv_iload hx hb dX6_passedOver_87 (lv_at hl 1 rfl) ?_
                    exact xr_iret hx hb hr hlocks hS ⟨Or.inr ⟨hc0, m9, rfl, hm1, hm2, i, by omega, hno, Or.inl ⟨by omega, h5, ⟨h7, h9⟩, rfl⟩⟩, rfl⟩ dX6_passedOver_89
        refine lv_iconst (v := 1) hx hb dX6_passedOver_42 (by decide) ?_
        refine lv_iload_n hx hb dX6_passedOver_43 rfl (lv_at hl 3 rfl) ?_
        refine lv_ishl hx hb dX6_passedOver_44 ?_
        refine xr_ti (x' := nI (2 ^ m9)) (sh1 m9 (by omega)) ?_
        refine lv_iconst (v := 1) hx hb dX6_passedOver_45 (by decide) ?_
        refine xr_ti (x' := nI 1) rfl ?_
        refine lv_isub hx hb dX6_passedOver_46 ?_
        refine xr_ti (x' := nI (sqN m9 0)) (pk_sub hp1) ?_
        refine lv_istore (lv' := [(4, .int (nI (sqN m9 0))), (3, .int (nI (setOf c 16))), (2, .int (nI (cnt vs 48))), (0, .ref a), (1, .int (nI m9))]) hx hb dX6_passedOver_47 hl (by decide) rfl (fun ls hl => ?_)
        refine lv_iconst (v := 0) hx hb dX6_passedOver_49 (by decide) ?_
        refine xr_ti (x' := nI 0) rfl ?_
        refine lv_istore (lv' := [(5, .int (nI 0)), (4, .int (nI (sqN m9 0))), (3, .int (nI (setOf c 16))), (2, .int (nI (cnt vs 48))), (0, .ref a), (1, .int (nI m9))]) hx hb dX6_passedOver_50 hl (by decide) rfl (fun ls hl => ?_)
        exact loop 1820 0 (by omega) (by show 2 ^ m9 - 1 < 2 ^ 17; have h9 : (2 : Nat) ^ 4 < 2 ^ 17 := (by decide); omega) (fun j hj => absurd hj (Nat.not_lt_zero _)) _ hS ls (lv_sub hl [0, 1, 4, 5, 3, 2] rfl)
      · have hc0 : cnt vs 48 = 0 := (nI_inj (b := 0) (by omega) (by decide)).mp h2
        refine lv_iconst (v := 0) hx hb dX6_passedOver_32 (by decide) ?_
        exact xr_iret hx hb hr hlocks hS ⟨Or.inl ⟨hc0, hrg, rfl⟩, rfl⟩ dX6_passedOver_33
    · have hTh : rg mm 4 = false := rg_hi (m := 4) (M := 4) (by decide) h1
      exact vx_throwS (own := RX6) (cls := kx_E) (text := kx_p) (names := kx_n) (ik := 95) (is := 161) (ic := 99) hx hb hl9 hown (by decide) (by decide) (hts _ (by decide +kernel)) (hts _ (by decide +kernel)) hK9.2.2.1 (vx_hat (B := kx_w) (fun w9 hw9 => hts w9 ((by decide +kernel : ∀ w ∈ (vx_atS RX6 99 kx_E kx_n).filter goodWord, w ∈ wsX6_passedOver) w9 hw9)) (by decide +kernel) hK9.2.words) (by decide +kernel) hK9.2.2.2.2.1 hK9.2.2.2.2.2 hS (by rw [hml]; exact hl.1) dX6_passedOver_10 dX6_passedOver_13 dX6_passedOver_14 dX6_passedOver_16 dX6_passedOver_19 (fun x9 hx9 => (hout x9 hx9).elim) (Nat.le_of_ble_eq_true rfl) (Nat.le_of_ble_eq_true rfl) (Nat.le_of_ble_eq_true rfl) (Nat.le_of_ble_eq_true rfl) hlocks (fun t _ h1 h2 => ⟨rfl, hTh, h1, fun q h3 _ => h2 q h3⟩) (fun z9 hz9 => by cases hz9) (Nat.le_of_ble_eq_true rfl) (Nat.le_of_ble_eq_true rfl)
