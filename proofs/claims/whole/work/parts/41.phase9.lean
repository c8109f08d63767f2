set_option maxHeartbeats 1000000 in
set_option maxRecDepth 100000 in
theorem c_X1_play (l : Launch) (g : WG) (H0 : Heap) (t : Nat) (c : Nat → Nat) (vs : Nat) (ap : Nat → Nat) (bu : Nat) (f pc pk ps co op bs tr B : Nat) (pur las emp pay pik rat bas : Nat → Nat) (rb kb rt kt : Nat) (hO : obj g H0 f 1 (phF f t pc pk ps co op bs tr)) (hT : TownAt g H0 t c vs ap bu) (hBa : NatAt g H0 (f + 1) B) (hPu : PoolAt g H0 (f + 3) (f + 24) 48 pur) (hLa : PoolAt g H0 (f + 4) (f + 26) 48 las) (hEm : xr_ia H0 (f + 5) (gI g) 48 (fun z9 => nI (emp z9))) (hPy : xr_ia H0 (f + 6) (gI g) 48 (fun z9 => nI (pay z9))) (hPi : xr_ia H0 (f + 7) (gI g) 16 (fun z9 => nI (pik z9))) (hRa : PoolAt g H0 (f + 8) (f + 216) 16 rat) (hBb : PoolAt g H0 (f + 9) (f + 218) 16 bas) (hBs : ShareAt g H0 bs rb kb) (hTr : ShareAt g H0 tr rt kt) (hft : t + 3 ≤ f ∨ f + 280 ≤ t) (htb : (tr = f + 10 ∧ bs = f + 17 ∨ tr = f + 17 ∧ bs = f + 10)) (rz : Nat) (hrz : rz ≤ 10000000) : Ctr l (KK g) yX1_play wsX1_play { frames := 5, cells := 0, slots := 0, locals := 127 } [.ref f, .int (nI rz)] H0 eV (fun _ H => ∃ (n : Nat) (pc2 ps2 co2 op2 B2 : Nat) (pur2 las2 emp2 pay2 pik2 rat2 bas2 : Nat → Nat) (op3 bs2 tr2 rb2 kb2 rt2 kt2 : Nat), n ≤ 16 ∧ Rch c ap n ((vlG pay vs 48).2, 0, 0, setOf c 16, (if cnt vs 48 = 0 then 1 else cnt vs 48), puG pur vs (bu + cnt vs 48 * rz) 48, las, emG emp 48, (vlG pay vs 48).1, pik, rat, bas) (pc2, ps2, co2, op2, B2, pur2, las2, emp2, pay2, pik2, rat2, bas2) ∧ (n = 16 ∨ bu < co2 ∨ (fcGo (fun q => shr (supL pur2 pay2 ap q pc2 0) (B2 * c q)) c op2 16).1 = none) ∧ PInv n pc2 op2 B2 co2 pur2 pay2 ∧ (tr2 = f + 10 ∧ bs2 = f + 17 ∨ tr2 = f + 17 ∧ bs2 = f + 10) ∧ obj g H f 1 (phF f t pc2 n ps2 co2 op3 bs2 tr2) ∧ NatAt g H (f + 1) B2 ∧ PoolAt g H (f + 3) (f + 24) 48 pur2 ∧ PoolAt g H (f + 4) (f + 26) 48 las2 ∧ xr_ia H (f + 5) (gI g) 48 (fun z9 => nI (emp2 z9)) ∧ xr_ia H (f + 6) (gI g) 48 (fun z9 => nI (pay2 z9)) ∧ xr_ia H (f + 7) (gI g) 16 (fun z9 => nI (pik2 z9)) ∧ PoolAt g H (f + 8) (f + 216) 16 rat2 ∧ PoolAt g H (f + 9) (f + 218) 16 bas2 ∧ ShareAt g H bs2 rb2 kb2 ∧ ShareAt g H tr2 rt2 kt2) (fun q => f ≤ q ∧ q < f + 280) := by
  refine xr_enter (cc := cX1_play) (maxL := 4) (ret := none) (by decide) rfl (Nat.le_of_ble_eq_true rfl) ?_
  intro pgm env s mid below meth cde hx hb hr hml hts hown hlocks hnm hH hK ls hl
  subst hH
  have hl : lv_has ls 4 [(0, .ref f), (1, .int (nI rz))] := hl
  have hS : va_S (fun q => f ≤ q ∧ q < f + 280) s.heap s.heap [] := va_S.rf
  have hn48 := cnt_le vs 48
  have hbu := hT.2.2.2.2.2.2
  have hnr : cnt vs 48 * rz ≤ 48 * 10000000 := Nat.mul_le_mul hn48 hrz
  have loop : ∀ (n rd : Nat), rd + n = 16 → ∀ (pc2 ps2 co2 op2 B2 : Nat) (pur2 las2 emp2 pay2 pik2 rat2 bas2 : Nat → Nat) (bs2 tr2 rb2 kb2 rt2 kt2 : Nat), Rch c ap rd ((vlG pay vs 48).2, 0, 0, setOf c 16, (if cnt vs 48 = 0 then 1 else cnt vs 48), puG pur vs (bu + cnt vs 48 * rz) 48, las, emG emp 48, (vlG pay vs 48).1, pik, rat, bas) (pc2, ps2, co2, op2, B2, pur2, las2, emp2, pay2, pik2, rat2, bas2) → PInv rd pc2 op2 B2 co2 pur2 pay2 → (tr2 = f + 10 ∧ bs2 = f + 17 ∨ tr2 = f + 17 ∧ bs2 = f + 10) → ∀ (H : Heap) (locs : List Loc), obj g H f 1 (phF f t pc2 rd ps2 co2 op2 bs2 tr2) → TownAt g H t c vs ap bu → NatAt g H (f + 1) B2 → PoolAt g H (f + 3) (f + 24) 48 pur2 → PoolAt g H (f + 4) (f + 26) 48 las2 → xr_ia H (f + 5) (gI g) 48 (fun z9 => nI (emp2 z9)) → xr_ia H (f + 6) (gI g) 48 (fun z9 => nI (pay2 z9)) → xr_ia H (f + 7) (gI g) 16 (fun z9 => nI (pik2 z9)) → PoolAt g H (f + 8) (f + 216) 16 rat2 → PoolAt g H (f + 9) (f + 218) 16 bas2 → ShareAt g H bs2 rb2 kb2 → ShareAt g H tr2 rt2 kt2 → va_S (fun q => f ≤ q ∧ q < f + 280) s.heap H locs → ∀ ls : Array Slot, lv_has ls 4 [(2, .int (nI rd)), (0, .ref f)] → W pgm l env { frames := 5, cells := 0, slots := 0, locals := 127 } s mid ([.ref f, .int (nI rz)] : List Value).toArray below meth cde H locs 0 0 (MQ below (xr_Post eV (fun _ H => ∃ (n : Nat) (pc2 ps2 co2 op2 B2 : Nat) (pur2 las2 emp2 pay2 pik2 rat2 bas2 : Nat → Nat) (op3 bs2 tr2 rb2 kb2 rt2 kt2 : Nat), n ≤ 16 ∧ Rch c ap n ((vlG pay vs 48).2, 0, 0, setOf c 16, (if cnt vs 48 = 0 then 1 else cnt vs 48), puG pur vs (bu + cnt vs 48 * rz) 48, las, emG emp 48, (vlG pay vs 48).1, pik, rat, bas) (pc2, ps2, co2, op2, B2, pur2, las2, emp2, pay2, pik2, rat2, bas2) ∧ (n = 16 ∨ bu < co2 ∨ (fcGo (fun q => shr (supL pur2 pay2 ap q pc2 0) (B2 * c q)) c op2 16).1 = none) ∧ PInv n pc2 op2 B2 co2 pur2 pay2 ∧ (tr2 = f + 10 ∧ bs2 = f + 17 ∨ tr2 = f + 17 ∧ bs2 = f + 10) ∧ obj g H f 1 (phF f t pc2 n ps2 co2 op3 bs2 tr2) ∧ NatAt g H (f + 1) B2 ∧ PoolAt g H (f + 3) (f + 24) 48 pur2 ∧ PoolAt g H (f + 4) (f + 26) 48 las2 ∧ xr_ia H (f + 5) (gI g) 48 (fun z9 => nI (emp2 z9)) ∧ xr_ia H (f + 6) (gI g) 48 (fun z9 => nI (pay2 z9)) ∧ xr_ia H (f + 7) (gI g) 16 (fun z9 => nI (pik2 z9)) ∧ PoolAt g H (f + 8) (f + 216) 16 rat2 ∧ PoolAt g H (f + 9) (f + 218) 16 bas2 ∧ ShareAt g H bs2 rb2 kb2 ∧ ShareAt g H tr2 rt2 kt2) (fun q => f ≤ q ∧ q < f + 280)) ([.ref f, .int (nI rz)] : List Value).toArray s ({ frames := 5, cells := 0, slots := 0, locals := 127 } : Room).cells ({ frames := 5, cells := 0, slots := 0, locals := 127 } : Room).slots (fun q => f ≤ q ∧ q < f + 280)) (F0 mid 33 ls []) := by
    intro n
    induction n with
    | zero =>
      intro rd h1 pc2 ps2 co2 op2 B2 pur2 las2 emp2 pay2 pik2 rat2 bas2 bs2 tr2 rb2 kb2 rt2 kt2 hR hI htb H locs hO hT hBa hPu hLa hEm hPy hPi hRa hBb hBs hTr hS ls hl
      refine lv_iload_n hx hb dX1_play_33 rfl (lv_at hl 0 rfl) ?_
      refine lv_bipush (v := 16) hx hb dX1_play_34 (by decide) ?_
      refine lv_icmp_ge (tgt := 75) hx hb dX1_play_36 (by decide) (fun hc => ?_) (fun hc => ?_)
      · clear hc
        exact xr_vret hx hb hr hlocks hS ⟨rd, pc2, ps2, co2, op2, B2, pur2, las2, emp2, pay2, pik2, rat2, bas2, op2, bs2, tr2, rb2, kb2, rt2, kt2, by omega, hR, (Or.inl (by omega)), hI, htb, ⟨hO, hBa, hPu, hLa, hEm, hPy, hPi, hRa, hBb, hBs, hTr⟩⟩ dX1_play_75
      · exact absurd (nI_le (show 16 ≤ rd by omega) (by omega)) hc
    | succ n ih =>
      intro rd h1 pc2 ps2 co2 op2 B2 pur2 las2 emp2 pay2 pik2 rat2 bas2 bs2 tr2 rb2 kb2 rt2 kt2 hR hI htb H locs hO hT hBa hPu hLa hEm hPy hPi hRa hBb hBs hTr hS ls hl
      refine lv_iload_n hx hb dX1_play_33 rfl (lv_at hl 0 rfl) ?_
      refine lv_bipush (v := 16) hx hb dX1_play_34 (by decide) ?_
      refine lv_icmp_ge (tgt := 75) hx hb dX1_play_36 (by decide) (fun hc => ?_) (fun hc => ?_)
      · exact absurd ((nI_leI (a := 16) (b := rd) (by decide) (by omega)).mp hc) (by omega)
      · clear hc
        obtain ⟨hb1, hb2⟩ := hI.bnd (by omega)
        obtain ⟨i1, i2, i3, i4, i5, i6, i7, i8⟩ := id hI
        refine lv_aload_n hx hb dX1_play_39 rfl (lv_at hl 1 rfl) ?_
        refine xr_Vi (rest := []) ⟨hx, hb, hml, hown, hts⟩ (KK_ok g) hK (c_X1_overspends l g H t c vs ap bu hT f pc2 rd ps2 co2 op2 bs2 tr2 hO hft (by omega)) (cwV 0 hts gX1_play_X1_overspends rfl rfl rfl (by decide +kernel) ⟨Nat.le_of_ble_eq_true rfl, Nat.le_of_ble_eq_true rfl⟩) (xr_rec hK hO rfl) rfl hl.1 rfl (Nat.le_of_ble_eq_true rfl) dX1_play_40 ⟨Nat.le_of_ble_eq_true rfl, Nat.le_of_ble_eq_true rfl⟩ hS (fun q h => h.elim) (fun r H locs hq hz hkp hS9 => ?_)
        obtain ⟨rfl, rfl⟩ := hq
        have hS := hS9
        refine lv_if_ne (tgt := 75) hx hb dX1_play_43 (by decide) (fun hc => ?_) (fun hc => ?_)
        · have h8 := of_decide_eq_true (b2i_n0.mp hc)
          exact xr_vret hx hb hr hlocks hS ⟨rd, pc2, ps2, co2, op2, B2, pur2, las2, emp2, pay2, pik2, rat2, bas2, op2, bs2, tr2, rb2, kb2, rt2, kt2, by omega, hR, (Or.inr (Or.inl h8)), hI, htb, ⟨hO, hBa, hPu, hLa, hEm, hPy, hPi, hRa, hBb, hBs, hTr⟩⟩ dX1_play_75
        · clear hc
          refine lv_aload_n hx hb dX1_play_46 rfl (lv_at hl 1 rfl) ?_
          refine xr_Vi (rest := []) ⟨hx, hb, hml, hown, hts⟩ (KK_ok g) hK (c_X1_findCheapest l g H t c vs ap bu hT f pc2 rd ps2 co2 op2 bs2 tr2 hO hft pay2 i1 i2 hPy B2 hBa pur2 hPu hb1 hb2 rt2 kt2 rb2 kb2 hTr hBs htb i7) (cwV 0 hts gX1_play_X1_findCheapest rfl rfl rfl (by decide +kernel) ⟨Nat.le_of_ble_eq_true rfl, Nat.le_of_ble_eq_true rfl⟩) (xr_rec hK hO rfl) rfl hl.1 rfl (Nat.le_of_ble_eq_true rfl) dX1_play_47 ⟨Nat.le_of_ble_eq_true rfl, Nat.le_of_ble_eq_true rfl⟩ hS (fun q h => by have h : q = f ∨ (f + 10 ≤ q ∧ q < f + 24) := h; show f ≤ q ∧ q < f + 280; omega) (fun z H locs hq hz hkp hS => ?_)
          replace hkp := fun (q : Nat) h1 (h2 : ¬ (q = f ∨ (f + 10 ≤ q ∧ q < f + 24))) => hkp q h1 h2
          replace hT := hT.kept (fun q hq1 hq2 hq3 => hkp q hq1 (by omega))
          replace hBa := hBa.kept (hkp _ hBa.1.lt (by omega)) (hkp _ hBa.2.1.lt (by omega))
          replace hPu := hPu.kept (hkp _ hPu.1.lt (by omega)) (fun v hv => hkp _ (hPu.2 v hv).1.lt (by omega)) (fun v hv => hkp _ (hPu.2 v hv).2.1.lt (by omega))
          replace hLa := hLa.kept (hkp _ hLa.1.lt (by omega)) (fun v hv => hkp _ (hLa.2 v hv).1.lt (by omega)) (fun v hv => hkp _ (hLa.2 v hv).2.1.lt (by omega))
          replace hEm := hEm.kept (hkp _ hEm.lt (by omega))
          replace hPy := hPy.kept (hkp _ hPy.lt (by omega))
          replace hPi := hPi.kept (hkp _ hPi.lt (by omega))
          replace hRa := hRa.kept (hkp _ hRa.1.lt (by omega)) (fun v hv => hkp _ (hRa.2 v hv).1.lt (by omega)) (fun v hv => hkp _ (hRa.2 v hv).2.1.lt (by omega))
          replace hBb := hBb.kept (hkp _ hBb.1.lt (by omega)) (fun v hv => hkp _ (hBb.2 v hv).1.lt (by omega)) (fun v hv => hkp _ (hBb.2 v hv).2.1.lt (by omega))
          obtain ⟨bs3, tr3, rb3, kb3, rt3, kt3, htb3, hO, hBs, hTr, hw1, hw2⟩ := hq
          refine lv_istore_n (lv' := [(3, .int z), (2, .int (nI rd)), (0, .ref f)]) hx hb dX1_play_50 rfl hl (by decide) rfl (fun ls hl => ?_)
          refine lv_iload_n hx hb dX1_play_51 rfl (lv_at hl 0 rfl) ?_
          refine lv_iconst (v := (-1)) hx hb dX1_play_52 (by decide) ?_
          refine lv_icmp_ne (tgt := 59) hx hb dX1_play_53 (by decide) (fun h5 => ?_) (fun h5 => ?_)
          · obtain ⟨w9, hw⟩ : ∃ w, (fcGo (fun q => shr (supL pur2 pay2 ap q pc2 0) (B2 * c q)) c op2 16).1 = some w := by cases hq : (fcGo (fun q => shr (supL pur2 pay2 ap q pc2 0) (B2 * c q)) c op2 16).1 with | none => exact absurd (hw2 hq) h5 | some w => exact ⟨w, rfl⟩
            obtain ⟨p9, r9, k9⟩ := w9
            obtain ⟨hz1, hz2, hz3⟩ := hw1 _ hw
            dsimp only at hz1 hz2 hz3
            subst hz1
            replace hz2 := hz2.symm
            subst hz2
            replace hz3 := hz3.symm
            subst hz3
            obtain ⟨hp16, hsh⟩ := fcGo_in 16 _ hw
            obtain ⟨hst, hbit⟩ := fcGo_true 16 _ hw
            dsimp only at hp16 hsh hst hbit
            have hk0 : 0 < k9 := by have h := shr_pos _ _ hst; rw [show k9 = (shr (supL pur2 pay2 ap p9 pc2 0) (B2 * c p9)).2.2 from congrArg Prod.snd hsh]; exact h
            have hk48 : k9 ≤ 48 := by have h := (shr_le (supL pur2 pay2 ap p9 pc2 0) (B2 * c p9)).2; have h2 := supL_len (pur := pur2) (pay := pay2) (ap := ap) (p := p9) pc2 0; rw [show k9 = (shr (supL pur2 pay2 ap p9 pc2 0) (B2 * c p9)).2.2 from congrArg Prod.snd hsh]; omega
            have hop3 := fcGo_op (S := (fun q => shr (supL pur2 pay2 ap q pc2 0) (B2 * c q))) (c := c) (op := op2) 16
            have hBk : B2 * k9 < 2 ^ 128 := Nat.lt_of_le_of_lt (Nat.mul_le_mul_left _ (show k9 ≤ 48000000 by omega)) hb1
            have hcp := hT.2.2.2.1 p9 hp16
            refine lv_aload_n hx hb dX1_play_59 rfl (lv_at hl 2 rfl) ?_
            refine lv_iload_n hx hb dX1_play_60 rfl (lv_at hl 0 rfl) ?_
            refine lv_iload_n hx hb dX1_play_61 rfl (lv_at hl 1 rfl) ?_
            refine xr_Vv (rest := []) ⟨hx, hb, hml, hown, hts⟩ (KK_ok g) hK (c_X1_pay l g H t c vs ap bu f pc2 rd ps2 co2 (fcGo (fun q => shr (supL pur2 pay2 ap q pc2 0) (B2 * c q)) c op2 16).2 bs3 tr3 B2 pur2 las2 emp2 pay2 pik2 rat2 bas2 r9 k9 rt3 kt3 hO hT hBa hPu hLa hEm hPy hPi hRa hBb hBs hTr hft htb3 i1 i2 i3 hk48 hBk hb2 (by omega) p9 rd hp16 (by omega) hbit) (cwV 2 hts gX1_play_X1_pay rfl rfl rfl (by decide +kernel) ⟨Nat.le_of_ble_eq_true rfl, Nat.le_of_ble_eq_true rfl⟩) (xr_rec hK hO rfl) rfl hl.1 rfl (Nat.le_of_ble_eq_true rfl) dX1_play_62 ⟨Nat.le_of_ble_eq_true rfl, Nat.le_of_ble_eq_true rfl⟩ hS (fun q h => h) (fun _ H locs hq hz hkp hS => ?_)
            replace hkp := fun (q : Nat) h1 (h2 : ¬ (f ≤ q ∧ q < f + 280)) => hkp q h1 h2
            replace hT := hT.kept (fun q hq1 hq2 hq3 => hkp q hq1 (by omega))
            obtain ⟨hO, hBa, hPu, hLa, hEm, hPy, hPi, hRa, hBb, hBs, hTr⟩ := hq
            refine lv_aload_n hx hb dX1_play_65 rfl (lv_at hl 2 rfl) ?_
            refine xr_Vv (rest := []) ⟨hx, hb, hml, hown, hts⟩ (KK_ok g) hK (c_X1_sortPayers l g H t f (payC pur2 pay2 ap p9 k9 r9 pc2).2 (rd + 1) (ps2 ||| 2 ^ p9) (co2 + c p9) ((fcGo (fun q => shr (supL pur2 pay2 ap q pc2 0) (B2 * c q)) c op2 16).2 - 2 ^ p9) bs3 tr3 hO (payC pur2 pay2 ap p9 k9 r9 pc2).1 (by have := payC_le (pur := pur2) (pay := pay2) (ap := ap) (p := p9) (k := k9) (r := r9) pc2; omega) (fun i hi => by obtain ⟨j, hj, e⟩ := payC_in pc2 i hi; rw [e]; exact i2 j hj) hPy (fun x y hx hy e => payC_inj i3 pc2 (Nat.le_refl _) x y hx hy e) (payP pur2 pay2 ap p9 k9 r9 pc2) hPu) (cwV 0 hts gX1_play_X1_sortPayers rfl rfl rfl (by decide +kernel) ⟨Nat.le_of_ble_eq_true rfl, Nat.le_of_ble_eq_true rfl⟩) (xr_rec hK hO rfl) rfl hl.1 rfl (Nat.le_of_ble_eq_true rfl) dX1_play_66 ⟨Nat.le_of_ble_eq_true rfl, Nat.le_of_ble_eq_true rfl⟩ hS (fun q h => by have h : q = f + 6 := h; show f ≤ q ∧ q < f + 280; omega) (fun _ H locs hq hz hkp hS => ?_)
            replace hkp := fun (q : Nat) h1 (h2 : ¬ (q = f + 6)) => hkp q h1 h2
            replace hO := hO.kept (hkp _ hO.lt (by omega))
            replace hT := hT.kept (fun q hq1 hq2 hq3 => hkp q hq1 (by omega))
            replace hBa := hBa.kept (hkp _ hBa.1.lt (by omega)) (hkp _ hBa.2.1.lt (by omega))
            replace hPu := hPu.kept (hkp _ hPu.1.lt (by omega)) (fun v hv => hkp _ (hPu.2 v hv).1.lt (by omega)) (fun v hv => hkp _ (hPu.2 v hv).2.1.lt (by omega))
            replace hLa := hLa.kept (hkp _ hLa.1.lt (by omega)) (fun v hv => hkp _ (hLa.2 v hv).1.lt (by omega)) (fun v hv => hkp _ (hLa.2 v hv).2.1.lt (by omega))
            replace hEm := hEm.kept (hkp _ hEm.lt (by omega))
            replace hPi := hPi.kept (hkp _ hPi.lt (by omega))
            replace hRa := hRa.kept (hkp _ hRa.1.lt (by omega)) (fun v hv => hkp _ (hRa.2 v hv).1.lt (by omega)) (fun v hv => hkp _ (hRa.2 v hv).2.1.lt (by omega))
            replace hBb := hBb.kept (hkp _ hBb.1.lt (by omega)) (fun v hv => hkp _ (hBb.2 v hv).1.lt (by omega)) (fun v hv => hkp _ (hBb.2 v hv).2.1.lt (by omega))
            replace hBs := hBs.kept (fun q hq1 hq2 hq3 => hkp q hq1 (by omega))
            replace hTr := hTr.kept (fun q hq1 hq2 hq3 => hkp q hq1 (by omega))
            obtain ⟨pay3, hpm, hso, hPy⟩ := hq
            refine lv_iinc (v := nI (rd + 1)) (lv' := [(2, .int (nI (rd + 1))), (3, .int (nI p9)), (0, .ref f)]) hx hb dX1_play_69 hl (k := 1) rfl (nI_1 rd) (by decide) rfl (fun ls hl => ?_)
            refine lv_goto (tgt := 33) hx hb dX1_play_72 (by decide) ?_
            exact ih (rd + 1) (by omega) _ _ _ _ _ _ _ _ _ _ _ _ bs3 tr3 r9 k9 rt3 kt3 ⟨_, hR, p9, r9, k9, pay3, hw, hpm, hso, rfl⟩ (hI.next hk0 hk48 (Nat.le_trans (Nat.sub_le _ _) hop3) hcp hpm) htb3 H locs hO hT hBa hPu hLa hEm hPy hPi hRa hBb hBs hTr hS ls (lv_sub hl [0, 2] rfl)
          · have h6 : (fcGo (fun q => shr (supL pur2 pay2 ap q pc2 0) (B2 * c q)) c op2 16).1 = none := by cases hq : (fcGo (fun q => shr (supL pur2 pay2 ap q pc2 0) (B2 * c q)) c op2 16).1 with | none => rfl | some w => exact absurd ((hw1 w hq).1.symm.trans h5) (nI_m1 (by have := (fcGo_in 16 w hq).1; omega))
            refine lv_goto (tgt := 75) hx hb dX1_play_56 (by decide) ?_
            exact xr_vret hx hb hr hlocks hS ⟨rd, pc2, ps2, co2, op2, B2, pur2, las2, emp2, pay2, pik2, rat2, bas2, (fcGo (fun q => shr (supL pur2 pay2 ap q pc2 0) (B2 * c q)) c op2 16).2, bs3, tr3, rb3, kb3, rt3, kt3, by omega, hR, (Or.inr (Or.inr h6)), hI, htb3, ⟨hO, hBa, hPu, hLa, hEm, hPy, hPi, hRa, hBb, hBs, hTr⟩⟩ dX1_play_75
  refine lv_aload_n hx hb dX1_play_0 rfl (lv_at hl 0 rfl) ?_
  refine lv_iload_n hx hb dX1_play_1 rfl (lv_at hl 1 rfl) ?_
  refine xr_Vv (rest := []) ⟨hx, hb, hml, hown, hts⟩ (KK_ok g) hK (c_X1_fillPurses l g s.heap t c vs ap bu f pc pk ps co op bs tr B pur las emp pay pik rat bas rb kb rt kt hO hT hBa hPu hLa hEm hPy hPi hRa hBb hBs hTr hft htb rz hrz) (cwV 1 hts gX1_play_X1_fillPurses rfl rfl rfl (by decide +kernel) ⟨Nat.le_of_ble_eq_true rfl, Nat.le_of_ble_eq_true rfl⟩) (xr_rec hK hO rfl) rfl hl.1 rfl (Nat.le_of_ble_eq_true rfl) dX1_play_2 ⟨Nat.le_of_ble_eq_true rfl, Nat.le_of_ble_eq_true rfl⟩ hS (fun q h => h) (fun _ H locs hq hz hkp hS => ?_)
  replace hkp := fun (q : Nat) h1 (h2 : ¬ (f ≤ q ∧ q < f + 280)) => hkp q h1 h2
  replace hT := hT.kept (fun q hq1 hq2 hq3 => hkp q hq1 (by omega))
  obtain ⟨hO, hBa, hPu, hLa, hEm, hPy, hPi, hRa, hBb, hBs, hTr⟩ := hq
  refine lv_aload_n hx hb dX1_play_5 rfl (lv_at hl 0 rfl) ?_
  refine lv_iconst (v := 0) hx hb dX1_play_6 (by decide) ?_
  refine xr_ti (x' := nI 0) rfl ?_
  refine xr_put (ci := 1) (v := .int (nI 0)) (ty := .int) (C := RX1) (T := TX1) (N := 16) hx hb hts (by decide +kernel) tyX1 tyX1_ok nmX1 hown hK.1 hO hS (show f ≤ f ∧ f < f + 280 by omega) rfl 8 (by decide) (hts (.fieldLink RX1 59 "SharesDesk$Phase" "picked" "I") (by decide +kernel)) rfl (by decide +kernel) rfl rfl (Nat.le_of_ble_eq_true rfl) dX1_play_7 (fun H locs hz hkp hO hS => ?_)
  replace hT := hT.kept (fun q hq1 hq2 hq3 => hkp q (by omega))
  replace hBa := hBa.kept (hkp _ (by omega)) (hkp _ (by omega))
  replace hPu := hPu.kept (hkp _ (by omega)) (fun v hv => hkp _ (by omega)) (fun v hv => hkp _ (by omega))
  replace hLa := hLa.kept (hkp _ (by omega)) (fun v hv => hkp _ (by omega)) (fun v hv => hkp _ (by omega))
  replace hEm := hEm.kept (hkp _ (by omega))
  replace hPy := hPy.kept (hkp _ (by omega))
  replace hPi := hPi.kept (hkp _ (by omega))
  replace hRa := hRa.kept (hkp _ (by omega)) (fun v hv => hkp _ (by omega)) (fun v hv => hkp _ (by omega))
  replace hBb := hBb.kept (hkp _ (by omega)) (fun v hv => hkp _ (by omega)) (fun v hv => hkp _ (by omega))
  replace hBs := hBs.kept (fun q hq1 hq2 hq3 => hkp q (by omega))
  replace hTr := hTr.kept (fun q hq1 hq2 hq3 => hkp q (by omega))
  refine lv_aload_n hx hb dX1_play_10 rfl (lv_at hl 0 rfl) ?_
  refine lv_iconst (v := 0) hx hb dX1_play_11 (by decide) ?_
  refine xr_ti (x' := nI 0) rfl ?_
  refine xr_put (ci := 1) (v := .int (nI 0)) (ty := .int) (C := RX1) (T := TX1) (N := 16) hx hb hts (by decide +kernel) tyX1 tyX1_ok nmX1 hown hK.1 hO hS (show f ≤ f ∧ f < f + 280 by omega) rfl 9 (by decide) (hts (.fieldLink RX1 63 "SharesDesk$Phase" "pickedSet" "I") (by decide +kernel)) rfl (by decide +kernel) rfl rfl (Nat.le_of_ble_eq_true rfl) dX1_play_12 (fun H locs hz hkp hO hS => ?_)
  replace hT := hT.kept (fun q hq1 hq2 hq3 => hkp q (by omega))
  replace hBa := hBa.kept (hkp _ (by omega)) (hkp _ (by omega))
  replace hPu := hPu.kept (hkp _ (by omega)) (fun v hv => hkp _ (by omega)) (fun v hv => hkp _ (by omega))
  replace hLa := hLa.kept (hkp _ (by omega)) (fun v hv => hkp _ (by omega)) (fun v hv => hkp _ (by omega))
  replace hEm := hEm.kept (hkp _ (by omega))
  replace hPy := hPy.kept (hkp _ (by omega))
  replace hPi := hPi.kept (hkp _ (by omega))
  replace hRa := hRa.kept (hkp _ (by omega)) (fun v hv => hkp _ (by omega)) (fun v hv => hkp _ (by omega))
  replace hBb := hBb.kept (hkp _ (by omega)) (fun v hv => hkp _ (by omega)) (fun v hv => hkp _ (by omega))
  replace hBs := hBs.kept (fun q hq1 hq2 hq3 => hkp q (by omega))
  replace hTr := hTr.kept (fun q hq1 hq2 hq3 => hkp q (by omega))
  refine lv_aload_n hx hb dX1_play_15 rfl (lv_at hl 0 rfl) ?_
  refine lv_iconst (v := 0) hx hb dX1_play_16 (by decide) ?_
  refine xr_ti (x' := nI 0) rfl ?_
  refine xr_put (ci := 1) (v := .int (nI 0)) (ty := .int) (C := RX1) (T := TX1) (N := 16) hx hb hts (by decide +kernel) tyX1 tyX1_ok nmX1 hown hK.1 hO hS (show f ≤ f ∧ f < f + 280 by omega) rfl 10 (by decide) (hts (.fieldLink RX1 66 "SharesDesk$Phase" "cost" "I") (by decide +kernel)) rfl (by decide +kernel) rfl rfl (Nat.le_of_ble_eq_true rfl) dX1_play_17 (fun H locs hz hkp hO hS => ?_)
  replace hT := hT.kept (fun q hq1 hq2 hq3 => hkp q (by omega))
  replace hBa := hBa.kept (hkp _ (by omega)) (hkp _ (by omega))
  replace hPu := hPu.kept (hkp _ (by omega)) (fun v hv => hkp _ (by omega)) (fun v hv => hkp _ (by omega))
  replace hLa := hLa.kept (hkp _ (by omega)) (fun v hv => hkp _ (by omega)) (fun v hv => hkp _ (by omega))
  replace hEm := hEm.kept (hkp _ (by omega))
  replace hPy := hPy.kept (hkp _ (by omega))
  replace hPi := hPi.kept (hkp _ (by omega))
  replace hRa := hRa.kept (hkp _ (by omega)) (fun v hv => hkp _ (by omega)) (fun v hv => hkp _ (by omega))
  replace hBb := hBb.kept (hkp _ (by omega)) (fun v hv => hkp _ (by omega)) (fun v hv => hkp _ (by omega))
  replace hBs := hBs.kept (fun q hq1 hq2 hq3 => hkp q (by omega))
  replace hTr := hTr.kept (fun q hq1 hq2 hq3 => hkp q (by omega))
  refine lv_aload_n hx hb dX1_play_20 rfl (lv_at hl 0 rfl) ?_
  refine lv_aload_n hx hb dX1_play_21 rfl (lv_at hl 0 rfl) ?_
  refine va_get (D := g.1) (ci := 1) (v := .ref t) (C := RX1) (T := TX1) (N := 16) hx hb hts (by decide +kernel) hown hK.1 (xr_one hO) 0 rfl rfl 0 (by decide) (hts (.fieldLink RX1 51 "SharesDesk$Phase" "town" "LSharesDesk$Town;") (by decide +kernel)) (fun _ h9 => h9) rfl dX1_play_22 ?_
  refine xr_Vi (rest := [.ref f]) ⟨hx, hb, hml, hown, hts⟩ (KK_ok g) hK (c_X5_allProjects l g H t c vs ap bu hT) (cwV 0 hts gX1_play_X5_allProjects rfl rfl rfl (by decide +kernel) ⟨Nat.le_of_ble_eq_true rfl, Nat.le_of_ble_eq_true rfl⟩) (xr_rec hK hT.1 rfl) rfl hl.1 rfl (Nat.le_of_ble_eq_true rfl) dX1_play_25 ⟨Nat.le_of_ble_eq_true rfl, Nat.le_of_ble_eq_true rfl⟩ hS (fun q h => h.elim) (fun r H locs hq hz hkp hS9 => ?_)
  obtain ⟨rfl, rfl⟩ := hq
  have hS := hS9
  refine xr_put (ci := 1) (v := .int (nI (setOf c 16))) (ty := .int) (C := RX1) (T := TX1) (N := 16) hx hb hts (by decide +kernel) tyX1 tyX1_ok nmX1 hown hK.1 hO hS (show f ≤ f ∧ f < f + 280 by omega) rfl 13 (by decide) (hts (.fieldLink RX1 75 "SharesDesk$Phase" "open" "I") (by decide +kernel)) rfl (by decide +kernel) rfl rfl (Nat.le_of_ble_eq_true rfl) dX1_play_28 (fun H locs hz hkp hO hS => ?_)
  replace hT := hT.kept (fun q hq1 hq2 hq3 => hkp q (by omega))
  replace hBa := hBa.kept (hkp _ (by omega)) (hkp _ (by omega))
  replace hPu := hPu.kept (hkp _ (by omega)) (fun v hv => hkp _ (by omega)) (fun v hv => hkp _ (by omega))
  replace hLa := hLa.kept (hkp _ (by omega)) (fun v hv => hkp _ (by omega)) (fun v hv => hkp _ (by omega))
  replace hEm := hEm.kept (hkp _ (by omega))
  replace hPy := hPy.kept (hkp _ (by omega))
  replace hPi := hPi.kept (hkp _ (by omega))
  replace hRa := hRa.kept (hkp _ (by omega)) (fun v hv => hkp _ (by omega)) (fun v hv => hkp _ (by omega))
  replace hBb := hBb.kept (hkp _ (by omega)) (fun v hv => hkp _ (by omega)) (fun v hv => hkp _ (by omega))
  replace hBs := hBs.kept (fun q hq1 hq2 hq3 => hkp q (by omega))
  replace hTr := hTr.kept (fun q hq1 hq2 hq3 => hkp q (by omega))
  refine lv_iconst (v := 0) hx hb dX1_play_31 (by decide) ?_
  refine xr_ti (x' := nI 0) rfl ?_
  refine lv_istore_n (lv' := [(2, .int (nI 0)), (0, .ref f), (1, .int (nI rz))]) hx hb dX1_play_32 rfl hl (by decide) rfl (fun ls hl => ?_)
  exact loop 16 0 (by omega) _ _ _ _ _ _ _ _ _ _ _ _ bs tr rb kb rt kt rfl (PInv.start (by omega) hn48) htb H locs hO hT hBa hPu hLa hEm hPy hPi hRa hBb hBs hTr hS ls (lv_sub hl [0, 1] rfl)
