set_option maxHeartbeats 1000000 in
set_option maxRecDepth 100000 in
theorem lpX6_raise (l : Launch) (g : WG) (a s9 m9 : Nat) (c0 : Nat → Nat) (vs0 : Nat) (ap0 : Nat → Nat) (bu0 : Nat) (hs1 : 1 ≤ s9) (hs2 : s9 ≤ 100000) (hm9 : m9 ≤ 100) (pgm : Program) (env : Env) (s : State) (mid : MethodId) (below : List Frame) (meth : Method) (cde : Code) (hx : pgm.tables.exec = Jvm.exec) (hb : cde.code = cX6_raise) (hr : meth.sig.returnType = (some .int)) (hml : cde.maxLocals = 4) (hts : ∀ w ∈ wsX6_raise, w.before ([.ref a, .int (nI s9), .int (nI m9)] : List Value).toArray s = true) (hown : s.vm.findClass yX6_raise.cls = some mid.cls) (hlocks : meth.locks = false) (hnm : meth.name = yX6_raise.name) (hK : KK g s) : ∀ (k2 k : Nat), k + k2 = m9 → ∀ (H : Heap) (locs : List Loc) (n1 : Nat) (S1 : PSt), Res c0 vs0 ap0 bu0 (k * s9) n1 S1 → (∀ i, 1 ≤ i → i ≤ k → OKc c0 vs0 ap0 bu0 (i * s9)) → DeskAt g H a c0 vs0 ap0 bu0 c0 vs0 ap0 bu0 n1 S1 (-1) ([]) → va_S (fun q => a ≤ q ∧ q < a + 579) s.heap H locs → ∀ ls : Array Slot, lv_has ls 4 [(3, .int (nI k)), (0, .ref a), (1, .int (nI s9)), (2, .int (nI m9))] → W pgm l env { frames := 6, cells := 1, slots := 6, locals := 150 } s mid ([.ref a, .int (nI s9), .int (nI m9)] : List Value).toArray below meth cde H locs 1 6 (MQ below (xr_Post eI (fun r H => ∃ (n1 : Nat) (S1 : PSt) (s8 m8 j : Nat), nI s9 = nI s8 ∧ nI m9 = nI m8 ∧ 1 ≤ s8 ∧ s8 ≤ 100000 ∧ m8 ≤ 100 ∧ j ≤ m8 ∧ r = nI j ∧ Res c0 vs0 ap0 bu0 (j * s8) n1 S1 ∧ (costOf c0 (setOf c0 16) 16 ≤ bu0 ∧ j = m8 ∨ (∀ i, 1 ≤ i → i ≤ j → OKc c0 vs0 ap0 bu0 (i * s8)) ∧ (j = m8 ∨ NOc c0 vs0 ap0 bu0 ((j + 1) * s8))) ∧ DeskAt g H a c0 vs0 ap0 bu0 c0 vs0 ap0 bu0 n1 S1 (-1) ([])) (fun q => a ≤ q ∧ q < a + 579)) ([.ref a, .int (nI s9), .int (nI m9)] : List Value).toArray s ({ frames := 6, cells := 1, slots := 6, locals := 150 } : Room).cells ({ frames := 6, cells := 1, slots := 6, locals := 150 } : Room).slots (fun q => a ≤ q ∧ q < a + 579)) (F0 mid 81 ls []) := by
  intro k2
  induction k2 with
  | zero =>
    intro k h1 H locs n1 S1 hR hok hD1 hS ls hl
    have e : k = m9 := by omega
    subst e
    refine lv_iload_n hx hb dX6_raise_81 rfl (lv_at hl 0 rfl) ?_
    refine lv_iload_n hx hb dX6_raise_82 rfl (lv_at hl 3 rfl) ?_
    refine lv_icmp_ge (tgt := 120) hx hb dX6_raise_83 (by decide) (fun hc => ?_) (fun hc => ?_)
    · clear hc
      refine lv_iload_n hx hb dX6_raise_120 rfl (lv_at hl 3 rfl) ?_
      exact xr_iret hx hb hr hlocks hS ⟨n1, S1, s9, k, k, rfl, rfl, hs1, hs2, hm9, Nat.le_refl _, rfl, hR, Or.inr ⟨hok, Or.inl rfl⟩, hD1⟩ dX6_raise_121
    · exact absurd (nI_le (Nat.le_refl k) (by omega)) hc
  | succ k2 ih =>
    intro k h1 H locs n1 S1 hR hok hD1 hS ls hl
    have hks : (k + 1) * s9 ≤ 100 * 100000 := Nat.mul_le_mul (by omega) hs2
    obtain ⟨rs, tr, rt, ru, ly, n2, S2, hrt, hO, hT0, hT, hRt, hLk, hSl, hP, hP2, hPr, hp1, hp2⟩ :=  hD1
    obtain ⟨op, bs, tq, rb, kb, rq, kq, htb, hPO, hBa, hPu, hLa, hEm, hPy, hPi, hRa, hBb, hBs, hTr⟩ := id hP2
    refine lv_iload_n hx hb dX6_raise_81 rfl (lv_at hl 0 rfl) ?_
    refine lv_iload_n hx hb dX6_raise_82 rfl (lv_at hl 3 rfl) ?_
    refine lv_icmp_ge (tgt := 120) hx hb dX6_raise_83 (by decide) (fun hc => ?_) (fun hc => ?_)
    · exact absurd ((nI_leI (a := m9) (b := k) (by omega) (by omega)).mp hc) (by omega)
    · clear hc
      refine lv_aload_n hx hb dX6_raise_86 rfl (lv_at hl 1 rfl) ?_
      refine va_get (D := g.1) (ci := 6) (v := .ref tr) (C := RX6) (T := TX6) (N := 7) hx hb hts (by decide +kernel) hown hK.1 (xr_one hO) 0 rfl rfl 6 (by decide) (hts (.fieldLink RX6 49 "SharesDesk" "trial" "LSharesDesk$Phase;") (by decide +kernel)) (fun _ h9 => h9) rfl dX6_raise_87 ?_
      refine lv_iload_n hx hb dX6_raise_90 rfl (lv_at hl 0 rfl) ?_
      refine lv_iconst (v := 1) hx hb dX6_raise_91 (by decide) ?_
      refine xr_ti (x' := nI 1) rfl ?_
      refine lv_iadd hx hb dX6_raise_92 ?_
      refine xr_ti (x' := nI (k + 1)) (nI_add _ _) ?_
      refine lv_iload_n hx hb dX6_raise_93 rfl (lv_at hl 2 rfl) ?_
      refine lv_imul hx hb dX6_raise_94 ?_
      refine xr_ti (x' := nI ((k + 1) * s9)) (pk_mul _ _) ?_
      refine xr_Vv (rest := []) ⟨hx, hb, hml, hown, hts⟩ (KK_ok g) hK (c_X1_play l g H (a + 4) c0 vs0 ap0 bu0 tr (qpc S2) n2 (qps S2) (qco S2) op bs tq (qB S2) (qpur S2) (qlas S2) (qemp S2) (qpay S2) (qpik S2) (qrat S2) (qbas S2) rb kb rq kq hPO hT hBa hPu hLa hEm hPy hPi hRa hBb hBs hTr (by omega) htb ((k + 1) * s9) (by omega)) (cwV 1 hts gX6_raise_X1_play rfl rfl rfl (by decide +kernel) ⟨Nat.le_of_ble_eq_true rfl, Nat.le_of_ble_eq_true rfl⟩) (xr_rec hK hPO rfl) rfl hl.1 rfl (Nat.le_of_ble_eq_true rfl) dX6_raise_95 ⟨Nat.le_of_ble_eq_true rfl, Nat.le_of_ble_eq_true rfl⟩ hS (fun q h => by have h : tr ≤ q ∧ q < tr + 280 := h; show a ≤ q ∧ q < a + 579; omega) (fun _ H locs hq hz hkp hS => ?_)
      replace hkp := fun (q : Nat) h1 (h2 : ¬ (tr ≤ q ∧ q < tr + 280)) => hkp q h1 h2
      replace hO := hO.kept (hkp _ hO.lt (by omega))
      replace hT0 := hT0.kept (fun q hq1 hq2 hq3 => hkp q hq1 (by omega))
      replace hT := hT.kept (fun q hq1 hq2 hq3 => hkp q hq1 (by omega))
      replace hRt := hRt.kept (fun q hq1 hq2 hq3 => hkp q hq1 (by omega))
      replace hLk := hLk.kept (hkp _ hLk.1.lt (by omega)) (hkp _ hLk.2.1.lt (by omega))
      replace hSl := hSl.kept (fun q hq1 hq2 hq3 => hkp q hq1 (by omega))
      replace hP := hP.kept (fun q hq1 hq2 hq3 => hkp q hq1 (by omega))
      replace hPr := hPr.kept (hkp _ hPr.l1 (by omega)) (hkp _ hPr.l2 (by omega))
      obtain ⟨n9, pc2, ps2, co2, op2, B2, pur2, las2, emp2, pay2, pik2, rat2, bas2, op3, bs2, tr2, rb2, kb2, rt2, kt2, hn, hRch, hstop, hInv, htb2, hPO, hrest⟩ := hq
      have hPn : PhAt g H tr (a + 4) n9 (pc2, ps2, co2, op2, B2, pur2, las2, emp2, pay2, pik2, rat2, bas2) := ⟨op3, bs2, tr2, rb2, kb2, rt2, kt2, htb2, hPO, hrest⟩
      have hres : Res c0 vs0 ap0 bu0 ((k + 1) * s9) n9 (pc2, ps2, co2, op2, B2, pur2, las2, emp2, pay2, pik2, rat2, bas2) := ⟨_, _, _, _, _, _, _, hn, hRch, hstop, hInv⟩
      have hco : co2 ≤ 1000000 * n9 := hInv.2.2.2.2.2.2.2
      refine lv_aload_n hx hb dX6_raise_98 rfl (lv_at hl 1 rfl) ?_
      refine va_get (D := g.1) (ci := 6) (v := .ref tr) (C := RX6) (T := TX6) (N := 7) hx hb hts (by decide +kernel) hown hK.1 (xr_one hO) 0 rfl rfl 6 (by decide) (hts (.fieldLink RX6 49 "SharesDesk" "trial" "LSharesDesk$Phase;") (by decide +kernel)) (fun _ h9 => h9) rfl dX6_raise_99 ?_
      refine xr_Vi (rest := []) ⟨hx, hb, hml, hown, hts⟩ (KK_ok g) hK (c_X1_overspends l g H (a + 4) c0 vs0 ap0 bu0 hT tr pc2 n9 ps2 co2 op3 bs2 tr2 hPO (by omega) (by omega)) (cwV 0 hts gX6_raise_X1_overspends rfl rfl rfl (by decide +kernel) ⟨Nat.le_of_ble_eq_true rfl, Nat.le_of_ble_eq_true rfl⟩) (xr_rec hK hPO rfl) rfl hl.1 rfl (Nat.le_of_ble_eq_true rfl) dX6_raise_102 ⟨Nat.le_of_ble_eq_true rfl, Nat.le_of_ble_eq_true rfl⟩ hS (fun q h => h.elim) (fun r H locs hq hz hkp hS933 => ?_)
      obtain ⟨rfl, rfl⟩ := hq
      have hS := hS933
      refine lv_if_eq (tgt := 110) hx hb dX6_raise_105 (by decide) (fun h5 => ?_) (fun h5 => ?_)
      · have h6 : ¬ bu0 < co2 := of_decide_eq_false (b2i_0.mp h5)
        refine lv_aload_n hx hb dX6_raise_110 rfl (lv_at hl 1 rfl) ?_
        refine xr_Vv (rest := []) ⟨hx, hb, hml, hown, hts⟩ (KK_ok g) hK (c_X6_swapPhases l g H a rs tr hO) (cwV 0 hts gX6_raise_X6_swapPhases rfl rfl rfl (by decide +kernel) ⟨Nat.le_of_ble_eq_true rfl, Nat.le_of_ble_eq_true rfl⟩) (xr_rec hK hO rfl) rfl hl.1 rfl (Nat.le_of_ble_eq_true rfl) dX6_raise_111 ⟨Nat.le_of_ble_eq_true rfl, Nat.le_of_ble_eq_true rfl⟩ hS (fun q h => by have h : q = a := h; show a ≤ q ∧ q < a + 579; omega) (fun _ H locs hq hz hkp hS => ?_)
        replace hkp := fun (q : Nat) h1 (h2 : ¬ (q = a)) => hkp q h1 h2
        replace hT0 := hT0.kept (fun q hq1 hq2 hq3 => hkp q hq1 (by omega))
        replace hT := hT.kept (fun q hq1 hq2 hq3 => hkp q hq1 (by omega))
        replace hRt := hRt.kept (fun q hq1 hq2 hq3 => hkp q hq1 (by omega))
        replace hLk := hLk.kept (hkp _ hLk.1.lt (by omega)) (hkp _ hLk.2.1.lt (by omega))
        replace hSl := hSl.kept (fun q hq1 hq2 hq3 => hkp q hq1 (by omega))
        replace hP := hP.kept (fun q hq1 hq2 hq3 => hkp q hq1 (by omega))
        replace hPr := hPr.kept (hkp _ hPr.l1 (by omega)) (hkp _ hPr.l2 (by omega))
        replace hPn := hPn.kept (fun q hq1 hq2 hq3 => hkp q hq1 (by omega))
        have hO := hq
        refine lv_iinc (v := nI (k + 1)) (lv' := [(3, .int (nI (k + 1))), (0, .ref a), (1, .int (nI s9)), (2, .int (nI m9))]) hx hb dX6_raise_114 hl (k := 0) rfl (nI_1 k) (by decide) rfl (fun ls hl => ?_)
        refine lv_goto (tgt := 81) hx hb dX6_raise_117 (by decide) ?_
        exact ih (k + 1) (by omega) H _ n9 _ hres (fun i hi1 hi2 => by by_cases e9 : i = k + 1; (rw [e9]; exact ⟨_, _, hres, h6⟩); exact hok i hi1 (by omega)) ⟨tr, rs, rt, ru, ly, n1, S1, by rcases hrt with h | h; (exact Or.inr ⟨h.2, h.1⟩); exact Or.inl ⟨h.2, h.1⟩, hO, hT0, hT, hRt, hLk, hSl, hPn, hP, hPr, hp1, hp2⟩ hS ls (lv_sub hl [0, 1, 2, 3] rfl)
      · have h6 : bu0 < co2 := of_decide_eq_true (b2i_n0.mp h5)
        refine lv_iload_n hx hb dX6_raise_108 rfl (lv_at hl 0 rfl) ?_
        exact xr_iret hx hb hr hlocks hS ⟨n1, S1, s9, m9, k, rfl, rfl, hs1, hs2, hm9, by omega, rfl, hR, Or.inr ⟨hok, Or.inr ⟨_, _, hres, h6⟩⟩, ⟨rs, tr, rt, ru, ly, _, _, hrt, hO, hT0, hT, hRt, hLk, hSl, hP, hPn, hPr, hp1, hp2⟩⟩ dX6_raise_109
set_option maxHeartbeats 1000000 in
set_option maxRecDepth 100000 in
theorem c_X6_raise (l : Launch) (g : WG) (H0 : Heap) (sa sb : Nat) (hl9 : l.stackTraces = false) (a : Nat) (c0 : Nat → Nat) (vs0 : Nat) (ap0 : Nat → Nat) (bu0 : Nat) (c : Nat → Nat) (vs : Nat) (ap : Nat → Nat) (bu : Nat) (n : Nat) (S : PSt) (ow : Int32) (tx : List Nat) (hD : DeskAt g H0 a c0 vs0 ap0 bu0 c vs ap bu n S ow tx) (st mo : Int32) : CtrX l (KKX g (fun q => a ≤ q ∧ q < a + 579) H0 sa sb) yX6_raise wsX6_raise { frames := 6, cells := 1, slots := 6, locals := 150 } [.ref a, .int st, .int mo] H0 eI (fun r H => ∃ (n1 : Nat) (S1 : PSt) (s9 m9 j : Nat), st = nI s9 ∧ mo = nI m9 ∧ 1 ≤ s9 ∧ s9 ≤ 100000 ∧ m9 ≤ 100 ∧ j ≤ m9 ∧ r = nI j ∧ Res c0 vs0 ap0 bu0 (j * s9) n1 S1 ∧ (costOf c0 (setOf c0 16) 16 ≤ bu0 ∧ j = m9 ∨ (∀ i, 1 ≤ i → i ≤ j → OKc c0 vs0 ap0 bu0 (i * s9)) ∧ (j = m9 ∨ NOc c0 vs0 ap0 bu0 ((j + 1) * s9))) ∧ DeskAt g H a c0 vs0 ap0 bu0 c0 vs0 ap0 bu0 n1 S1 (-1) ([])) (fun q => a ≤ q ∧ q < a + 579) ((rg st 100000 && inR mo 101) = false) := by
  refine xr_enterX (cc := cX6_raise) (maxL := 4) (ret := (some .int)) (by decide) rfl (Nat.le_of_ble_eq_true rfl) ?_
  intro pgm env s mid below meth cde hx hb hr hml hts hown hlocks hnm hH hK9 hout ls hl
  subst hH
  have hK := hK9.1
  have hl : lv_has ls 4 [(0, .ref a), (1, .int st), (2, .int mo)] := hl
  have hS : va_S (fun q => a ≤ q ∧ q < a + 579) s.heap s.heap [] := va_S.rf
  refine lv_iload_n hx hb dX6_raise_0 rfl (lv_at hl 1 rfl) ?_
  refine lv_iconst (v := 1) hx hb dX6_raise_1 (by decide) ?_
  refine lv_icmp_lt (tgt := 21) hx hb dX6_raise_2 (by decide) (fun h0 => ?_) (fun h0 => ?_)
  · have hT : (rg st 100000 && inR mo 101) = false := by rw [rg_lo h0]; rfl
    exact vx_throwS (own := RX6) (cls := kx_E) (text := kx_r) (names := kx_n) (ik := 95) (is := 97) (ic := 99) hx hb hl9 hown (by decide) (by decide) (hts _ (by decide +kernel)) (hts _ (by decide +kernel)) hK9.2.1 (vx_hat (B := kx_w) (fun w9 hw9 => hts w9 ((by decide +kernel : ∀ w ∈ (vx_atS RX6 99 kx_E kx_n).filter goodWord, w ∈ wsX6_raise) w9 hw9)) (by decide +kernel) hK9.2.words) (by decide +kernel) hK9.2.2.2.2.1 hK9.2.2.2.2.2 hS (by rw [hml]; exact hl.1) dX6_raise_21 dX6_raise_24 dX6_raise_25 dX6_raise_27 dX6_raise_30 (fun x9 hx9 => (hout x9 hx9).elim) (Nat.le_of_ble_eq_true rfl) (Nat.le_of_ble_eq_true rfl) (Nat.le_of_ble_eq_true rfl) (Nat.le_of_ble_eq_true rfl) hlocks (fun t _ h1 h2 => ⟨rfl, hT, h1, fun q h3 _ => h2 q h3⟩) (fun z9 hz9 => by cases hz9) (Nat.le_of_ble_eq_true rfl) (Nat.le_of_ble_eq_true rfl)
  · have e0 := h0
    refine lv_iload_n hx hb dX6_raise_5 rfl (lv_at hl 1 rfl) ?_
    refine lv_ldc (v := (100000)) hx hb hown (hts (.constant RX6 94 (100000)) (by decide +kernel)) dX6_raise_6 ?_
    refine lv_icmp_gt (tgt := 21) hx hb dX6_raise_8 (by decide) (fun h1 => ?_) (fun h1 => ?_)
    · have hT : (rg st 100000 && inR mo 101) = false := by rw [rg_hi (m := 100000) (M := 100000) (by decide) (fun q => i_nle h1 q)]; rfl
      exact vx_throwS (own := RX6) (cls := kx_E) (text := kx_r) (names := kx_n) (ik := 95) (is := 97) (ic := 99) hx hb hl9 hown (by decide) (by decide) (hts _ (by decide +kernel)) (hts _ (by decide +kernel)) hK9.2.1 (vx_hat (B := kx_w) (fun w9 hw9 => hts w9 ((by decide +kernel : ∀ w ∈ (vx_atS RX6 99 kx_E kx_n).filter goodWord, w ∈ wsX6_raise) w9 hw9)) (by decide +kernel) hK9.2.words) (by decide +kernel) hK9.2.2.2.2.1 hK9.2.2.2.2.2 hS (by rw [hml]; exact hl.1) dX6_raise_21 dX6_raise_24 dX6_raise_25 dX6_raise_27 dX6_raise_30 (fun x9 hx9 => (hout x9 hx9).elim) (Nat.le_of_ble_eq_true rfl) (Nat.le_of_ble_eq_true rfl) (Nat.le_of_ble_eq_true rfl) (Nat.le_of_ble_eq_true rfl) hlocks (fun t _ h1 h2 => ⟨rfl, hT, h1, fun q h3 _ => h2 q h3⟩) (fun z9 hz9 => by cases hz9) (Nat.le_of_ble_eq_true rfl) (Nat.le_of_ble_eq_true rfl)
    · obtain ⟨hrg, s9, hs1, hs2, hs3, rfl⟩ := rg_ok (M := 100000) (m := 100000) (by decide) e0 (i_le h1)
      refine lv_iload_n hx hb dX6_raise_11 rfl (lv_at hl 2 rfl) ?_
      refine lv_if_lt (tgt := 21) hx hb dX6_raise_12 (by decide) (fun h2 => ?_) (fun h2 => ?_)
      · have hT : (rg (nI s9) 100000 && inR mo 101) = false := by rw [inR_neg h2, Bool.and_false]
        exact vx_throwS (own := RX6) (cls := kx_E) (text := kx_r) (names := kx_n) (ik := 95) (is := 97) (ic := 99) hx hb hl9 hown (by decide) (by decide) (hts _ (by decide +kernel)) (hts _ (by decide +kernel)) hK9.2.1 (vx_hat (B := kx_w) (fun w9 hw9 => hts w9 ((by decide +kernel : ∀ w ∈ (vx_atS RX6 99 kx_E kx_n).filter goodWord, w ∈ wsX6_raise) w9 hw9)) (by decide +kernel) hK9.2.words) (by decide +kernel) hK9.2.2.2.2.1 hK9.2.2.2.2.2 hS (by rw [hml]; exact hl.1) dX6_raise_21 dX6_raise_24 dX6_raise_25 dX6_raise_27 dX6_raise_30 (fun x9 hx9 => (hout x9 hx9).elim) (Nat.le_of_ble_eq_true rfl) (Nat.le_of_ble_eq_true rfl) (Nat.le_of_ble_eq_true rfl) (Nat.le_of_ble_eq_true rfl) hlocks (fun t _ h1 h2 => ⟨rfl, hT, h1, fun q h3 _ => h2 q h3⟩) (fun z9 hz9 => by cases hz9) (Nat.le_of_ble_eq_true rfl) (Nat.le_of_ble_eq_true rfl)
      · obtain ⟨m9, hm3, rfl⟩ := nI_of h2
        refine lv_iload_n hx hb dX6_raise_15 rfl (lv_at hl 2 rfl) ?_
        refine lv_bipush (v := 100) hx hb dX6_raise_16 (by decide) ?_
        refine xr_ti (x' := nI 100) rfl ?_
        refine lv_icmp_le (tgt := 31) hx hb dX6_raise_18 (by decide) (fun h3 => ?_) (fun h3 => ?_)
        · have hm9 : m9 ≤ 100 := (nI_leI hm3 (by decide)).mp h3
          refine vx_ret ?_
          refine W.widen (k := 1) (n := 6) (Nat.le_of_ble_eq_true rfl) (Nat.le_of_ble_eq_true rfl) ?_
          have hmst : m9 * s9 ≤ 100 * 100000 := Nat.mul_le_mul hm9 hs2
          have loop := lpX6_raise l g a s9 m9 c0 vs0 ap0 bu0 hs1 hs2 hm9 pgm env s mid below meth cde hx hb hr hml hts hown hlocks hnm hK
          refine lv_aload_n hx hb dX6_raise_31 rfl (lv_at hl 0 rfl) ?_
          refine xr_Vv (rest := []) ⟨hx, hb, hml, hown, hts⟩ (KK_ok g) hK (c_X6_keepTown l g s.heap a c0 vs0 ap0 bu0 c vs ap bu n S ow tx hD) (cwV 0 hts gX6_raise_X6_keepTown rfl rfl rfl (by decide +kernel) ⟨Nat.le_of_ble_eq_true rfl, Nat.le_of_ble_eq_true rfl⟩) (xr_rec hK (show obj g s.heap a 6 _ from hD.choose_spec.choose_spec.choose_spec.choose_spec.choose_spec.choose_spec.choose_spec.2.1) rfl) rfl hl.1 rfl (Nat.le_of_ble_eq_true rfl) dX6_raise_32 ⟨Nat.le_of_ble_eq_true rfl, Nat.le_of_ble_eq_true rfl⟩ hS (fun q h => h) (fun _ H locs hq hz hkp hS => ?_)
          obtain ⟨rs, tr, rt, ru, ly, n2, S2, hrt, hO, hT0, hT, hRt, hLk, hSl, hP, hP2, hPr, hp1, hp2⟩ := hq
          obtain ⟨op, bs, tq, rb, kb, rq, kq, htb, hPO, hBa, hPu, hLa, hEm, hPy, hPi, hRa, hBb, hBs, hTr⟩ := id hP
          obtain ⟨hTO, hcs, hap, hcb, hvb, hab, hbb⟩ := id hT
          refine lv_aload_n hx hb dX6_raise_35 rfl (lv_at hl 0 rfl) ?_
          refine va_get (D := g.1) (ci := 6) (v := .ref (a + 4)) (C := RX6) (T := TX6) (N := 7) hx hb hts (by decide +kernel) hown hK.1 (xr_one hO) 0 rfl rfl 1 (by decide) (hts (.fieldLink RX6 16 "SharesDesk" "past" "LSharesDesk$Town;") (by decide +kernel)) (fun _ h9 => h9) rfl dX6_raise_36 ?_
          refine lv_aload_n hx hb dX6_raise_39 rfl (lv_at hl 0 rfl) ?_
          refine va_get (D := g.1) (ci := 6) (v := .ref (a + 4)) (C := RX6) (T := TX6) (N := 7) hx hb hts (by decide +kernel) hown hK.1 (xr_one hO) 0 rfl rfl 1 (by decide) (hts (.fieldLink RX6 16 "SharesDesk" "past" "LSharesDesk$Town;") (by decide +kernel)) (fun _ h9 => h9) rfl dX6_raise_40 ?_
          refine xr_Vi (rest := [.ref (a + 4)]) ⟨hx, hb, hml, hown, hts⟩ (KK_ok g) hK (c_X5_allProjects l g H (a + 4) c0 vs0 ap0 bu0 hT) (cwV 0 hts gX6_raise_X5_allProjects rfl rfl rfl (by decide +kernel) ⟨Nat.le_of_ble_eq_true rfl, Nat.le_of_ble_eq_true rfl⟩) (xr_rec hK hTO rfl) rfl hl.1 rfl (Nat.le_of_ble_eq_true rfl) dX6_raise_43 ⟨Nat.le_of_ble_eq_true rfl, Nat.le_of_ble_eq_true rfl⟩ hS (fun q h => h.elim) (fun r H locs hq hz hkp hS934 => ?_)
          obtain ⟨rfl, rfl⟩ := hq
          have hS := hS934
          refine xr_Vi (rest := []) ⟨hx, hb, hml, hown, hts⟩ (KK_ok g) hK (c_X5_costOf l g H (a + 4) c0 vs0 ap0 bu0 hT (setOf c0 16) (setOf_lt c0 16)) (cwV 1 hts gX6_raise_X5_costOf rfl rfl rfl (by decide +kernel) ⟨Nat.le_of_ble_eq_true rfl, Nat.le_of_ble_eq_true rfl⟩) (xr_rec hK hTO rfl) rfl hl.1 rfl (Nat.le_of_ble_eq_true rfl) dX6_raise_46 ⟨Nat.le_of_ble_eq_true rfl, Nat.le_of_ble_eq_true rfl⟩ hS (fun q h => h.elim) (fun r H locs hq hz hkp hS935 => ?_)
          obtain ⟨rfl, rfl⟩ := hq
          have hS := hS935
          have hcl := costOf_le (st := setOf c0 16) hcb 16 (Nat.le_refl _)
          refine lv_aload_n hx hb dX6_raise_49 rfl (lv_at hl 0 rfl) ?_
          refine va_get (D := g.1) (ci := 6) (v := .ref (a + 4)) (C := RX6) (T := TX6) (N := 7) hx hb hts (by decide +kernel) hown hK.1 (xr_one hO) 0 rfl rfl 1 (by decide) (hts (.fieldLink RX6 16 "SharesDesk" "past" "LSharesDesk$Town;") (by decide +kernel)) (fun _ h9 => h9) rfl dX6_raise_50 ?_
          refine va_get (D := g.1) (ci := 5) (v := .int (nI bu0)) (C := RX5) (T := TX5) (N := 4) hx hb hts (by decide +kernel) hown hK.1 (xr_one hTO) 0 rfl rfl 3 (by decide) (hts (.fieldLink RX6 65 "SharesDesk$Town" "budget" "I") (by decide +kernel)) (fun _ h9 => h9) rfl dX6_raise_53 ?_
          refine lv_icmp_gt (tgt := 71) hx hb dX6_raise_56 (by decide) (fun h7 => ?_) (fun h7 => ?_)
          · clear h7
            refine lv_aload_n hx hb dX6_raise_71 rfl (lv_at hl 0 rfl) ?_
            refine va_get (D := g.1) (ci := 6) (v := .ref rs) (C := RX6) (T := TX6) (N := 7) hx hb hts (by decide +kernel) hown hK.1 (xr_one hO) 0 rfl rfl 5 (by decide) (hts (.fieldLink RX6 45 "SharesDesk" "result" "LSharesDesk$Phase;") (by decide +kernel)) (fun _ h9 => h9) rfl dX6_raise_72 ?_
            refine lv_iconst (v := 0) hx hb dX6_raise_75 (by decide) ?_
            refine xr_ti (x' := nI 0) rfl ?_
            refine xr_Vv (rest := []) ⟨hx, hb, hml, hown, hts⟩ (KK_ok g) hK (c_X1_play l g H (a + 4) c0 vs0 ap0 bu0 rs (qpc S) n (qps S) (qco S) op bs tq (qB S) (qpur S) (qlas S) (qemp S) (qpay S) (qpik S) (qrat S) (qbas S) rb kb rq kq hPO hT hBa hPu hLa hEm hPy hPi hRa hBb hBs hTr (by omega) htb 0 (by decide)) (cwV 1 hts gX6_raise_X1_play rfl rfl rfl (by decide +kernel) ⟨Nat.le_of_ble_eq_true rfl, Nat.le_of_ble_eq_true rfl⟩) (xr_rec hK hPO rfl) rfl hl.1 rfl (Nat.le_of_ble_eq_true rfl) dX6_raise_76 ⟨Nat.le_of_ble_eq_true rfl, Nat.le_of_ble_eq_true rfl⟩ hS (fun q h => by have h : rs ≤ q ∧ q < rs + 280 := h; show a ≤ q ∧ q < a + 579; omega) (fun _ H locs hq hz hkp hS => ?_)
            replace hkp := fun (q : Nat) h1 (h2 : ¬ (rs ≤ q ∧ q < rs + 280)) => hkp q h1 h2
            replace hO := hO.kept (hkp _ hO.lt (by omega))
            replace hT0 := hT0.kept (fun q hq1 hq2 hq3 => hkp q hq1 (by omega))
            replace hT := hT.kept (fun q hq1 hq2 hq3 => hkp q hq1 (by omega))
            replace hRt := hRt.kept (fun q hq1 hq2 hq3 => hkp q hq1 (by omega))
            replace hLk := hLk.kept (hkp _ hLk.1.lt (by omega)) (hkp _ hLk.2.1.lt (by omega))
            replace hSl := hSl.kept (fun q hq1 hq2 hq3 => hkp q hq1 (by omega))
            replace hP2 := hP2.kept (fun q hq1 hq2 hq3 => hkp q hq1 (by omega))
            replace hPr := hPr.kept (hkp _ hPr.l1 (by omega)) (hkp _ hPr.l2 (by omega))
            obtain ⟨n1, pc2, ps2, co2, op2, B2, pur2, las2, emp2, pay2, pik2, rat2, bas2, op3, bs2, tr2, rb2, kb2, rt2, kt2, hn, hRch, hstop, hInv, htb2, hPO, hrest⟩ := hq
            have hP : PhAt g H rs (a + 4) n1 (pc2, ps2, co2, op2, B2, pur2, las2, emp2, pay2, pik2, rat2, bas2) := ⟨op3, bs2, tr2, rb2, kb2, rt2, kt2, htb2, hPO, hrest⟩
            have hres : Res c0 vs0 ap0 bu0 (0 * s9) n1 (pc2, ps2, co2, op2, B2, pur2, las2, emp2, pay2, pik2, rat2, bas2) := by rw [Nat.zero_mul]; exact ⟨_, _, _, _, _, _, _, hn, hRch, hstop, hInv⟩
            refine lv_iconst (v := 0) hx hb dX6_raise_79 (by decide) ?_
            refine xr_ti (x' := nI 0) rfl ?_
            refine lv_istore_n (lv' := [(3, .int (nI 0)), (0, .ref a), (1, .int (nI s9)), (2, .int (nI m9))]) hx hb dX6_raise_80 rfl hl (by decide) rfl (fun ls hl => ?_)
            exact loop m9 0 (by omega) H _ n1 _ hres (fun i hi1 hi2 => absurd hi1 (by omega)) ⟨rs, tr, rt, ru, ly, n2, S2, hrt, hO, hT0, hT, hRt, hLk, hSl, hP, hP2, hPr, hp1, hp2⟩ hS ls (lv_sub hl [0, 1, 2, 3] rfl)
          · have h8 : costOf c0 (setOf c0 16) 16 ≤ bu0 := Nat.le_of_not_lt fun q => h7 (nI_lt q (by omega))
            refine lv_aload_n hx hb dX6_raise_59 rfl (lv_at hl 0 rfl) ?_
            refine va_get (D := g.1) (ci := 6) (v := .ref rs) (C := RX6) (T := TX6) (N := 7) hx hb hts (by decide +kernel) hown hK.1 (xr_one hO) 0 rfl rfl 5 (by decide) (hts (.fieldLink RX6 45 "SharesDesk" "result" "LSharesDesk$Phase;") (by decide +kernel)) (fun _ h9 => h9) rfl dX6_raise_60 ?_
            refine lv_iload_n hx hb dX6_raise_63 rfl (lv_at hl 2 rfl) ?_
            refine lv_iload_n hx hb dX6_raise_64 rfl (lv_at hl 1 rfl) ?_
            refine lv_imul hx hb dX6_raise_65 ?_
            refine xr_ti (x' := nI (m9 * s9)) (pk_mul _ _) ?_
            refine xr_Vv (rest := []) ⟨hx, hb, hml, hown, hts⟩ (KK_ok g) hK (c_X1_play l g H (a + 4) c0 vs0 ap0 bu0 rs (qpc S) n (qps S) (qco S) op bs tq (qB S) (qpur S) (qlas S) (qemp S) (qpay S) (qpik S) (qrat S) (qbas S) rb kb rq kq hPO hT hBa hPu hLa hEm hPy hPi hRa hBb hBs hTr (by omega) htb (m9 * s9) (by omega)) (cwV 1 hts gX6_raise_X1_play rfl rfl rfl (by decide +kernel) ⟨Nat.le_of_ble_eq_true rfl, Nat.le_of_ble_eq_true rfl⟩) (xr_rec hK hPO rfl) rfl hl.1 rfl (Nat.le_of_ble_eq_true rfl) dX6_raise_66 ⟨Nat.le_of_ble_eq_true rfl, Nat.le_of_ble_eq_true rfl⟩ hS (fun q h => by have h : rs ≤ q ∧ q < rs + 280 := h; show a ≤ q ∧ q < a + 579; omega) (fun _ H locs hq hz hkp hS => ?_)
            replace hkp := fun (q : Nat) h1 (h2 : ¬ (rs ≤ q ∧ q < rs + 280)) => hkp q h1 h2
            replace hO := hO.kept (hkp _ hO.lt (by omega))
            replace hT0 := hT0.kept (fun q hq1 hq2 hq3 => hkp q hq1 (by omega))
            replace hT := hT.kept (fun q hq1 hq2 hq3 => hkp q hq1 (by omega))
            replace hRt := hRt.kept (fun q hq1 hq2 hq3 => hkp q hq1 (by omega))
            replace hLk := hLk.kept (hkp _ hLk.1.lt (by omega)) (hkp _ hLk.2.1.lt (by omega))
            replace hSl := hSl.kept (fun q hq1 hq2 hq3 => hkp q hq1 (by omega))
            replace hP2 := hP2.kept (fun q hq1 hq2 hq3 => hkp q hq1 (by omega))
            replace hPr := hPr.kept (hkp _ hPr.l1 (by omega)) (hkp _ hPr.l2 (by omega))
            obtain ⟨n1, pc2, ps2, co2, op2, B2, pur2, las2, emp2, pay2, pik2, rat2, bas2, op3, bs2, tr2, rb2, kb2, rt2, kt2, hn, hRch, hstop, hInv, htb2, hPO, hrest⟩ := hq
            have hP : PhAt g H rs (a + 4) n1 (pc2, ps2, co2, op2, B2, pur2, las2, emp2, pay2, pik2, rat2, bas2) := ⟨op3, bs2, tr2, rb2, kb2, rt2, kt2, htb2, hPO, hrest⟩
            have hres : Res c0 vs0 ap0 bu0 (m9 * s9) n1 (pc2, ps2, co2, op2, B2, pur2, las2, emp2, pay2, pik2, rat2, bas2) := ⟨_, _, _, _, _, _, _, hn, hRch, hstop, hInv⟩
            refine lv_iload_n hx hb dX6_raise_69 rfl (lv_at hl 2 rfl) ?_
            exact xr_iret hx hb hr hlocks hS ⟨n1, _, s9, m9, m9, rfl, rfl, hs1, hs2, hm9, Nat.le_refl _, rfl, hres, Or.inl ⟨h8, rfl⟩, ⟨rs, tr, rt, ru, ly, n2, S2, hrt, hO, hT0, hT, hRt, hLk, hSl, hP, hP2, hPr, hp1, hp2⟩⟩ dX6_raise_70
        · have hT : (rg (nI s9) 100000 && inR (nI m9) 101) = false := by rw [inR_no hm3 (show 101 ≤ m9 from Nat.lt_of_not_le fun q => h3 (nI_le q (by decide))), Bool.and_false]
          exact vx_throwS (own := RX6) (cls := kx_E) (text := kx_r) (names := kx_n) (ik := 95) (is := 97) (ic := 99) hx hb hl9 hown (by decide) (by decide) (hts _ (by decide +kernel)) (hts _ (by decide +kernel)) hK9.2.1 (vx_hat (B := kx_w) (fun w9 hw9 => hts w9 ((by decide +kernel : ∀ w ∈ (vx_atS RX6 99 kx_E kx_n).filter goodWord, w ∈ wsX6_raise) w9 hw9)) (by decide +kernel) hK9.2.words) (by decide +kernel) hK9.2.2.2.2.1 hK9.2.2.2.2.2 hS (by rw [hml]; exact hl.1) dX6_raise_21 dX6_raise_24 dX6_raise_25 dX6_raise_27 dX6_raise_30 (fun x9 hx9 => (hout x9 hx9).elim) (Nat.le_of_ble_eq_true rfl) (Nat.le_of_ble_eq_true rfl) (Nat.le_of_ble_eq_true rfl) (Nat.le_of_ble_eq_true rfl) hlocks (fun t _ h1 h2 => ⟨rfl, hT, h1, fun q h3 _ => h2 q h3⟩) (fun z9 hz9 => by cases hz9) (Nat.le_of_ble_eq_true rfl) (Nat.le_of_ble_eq_true rfl)
