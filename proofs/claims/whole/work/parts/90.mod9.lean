set_option maxHeartbeats 400000 in
set_option maxRecDepth 100000 in
theorem c_X7_thrown (l : Launch) (g : WG) (H0 : Heap) (b : Nat) (th : Int32) (c0 : Nat → Nat) (vs0 : Nat) (ap0 : Nat → Nat) (bu0 : Nat) (c : Nat → Nat) (vs : Nat) (ap : Nat → Nat) (bu cn n : Nat) (Rw ord : Nat → Nat) (ch : Nat → Bool) (hD : ModAt g H0 b th c0 vs0 ap0 bu0 c vs ap bu cn n Rw ord ch) : Ctr l (KK g) yX7_thrown wsX7_thrown { frames := 0, cells := 0, slots := 0, locals := 0 } [.ref b] H0 eI (fun r H => r = th ∧ H = H0) (fun _ => False) := by
  refine xr_enter (cc := cX7_thrown) (maxL := 1) (ret := (some .int)) (by decide) rfl (Nat.le_of_ble_eq_true rfl) ?_
  intro pgm env s mid below meth cde hx hb hr hml hts hown hlocks hnm hH hK ls hl
  subst hH
  have hl : lv_has ls 1 [(0, .ref b)] := hl
  have hS : va_S (fun _ => False) s.heap s.heap [] := va_S.rf
  obtain ⟨py, ln, pf, tx, hO, hM, hNw, hOl, hOr, hI, hPo, hTx, hbl, hbh⟩ := id hD
  refine lv_aload_n hx hb dX7_thrown_0 rfl (lv_at hl 0 rfl) ?_
  refine va_get (D := g.1) (ci := 7) (v := .int th) (C := RX7) (T := TX7) (N := 18) hx hb hts (by decide +kernel) hown hK.1 (xr_one hO) 0 rfl rfl 0 (by decide) (hts (.fieldLink RX7 51 "SharesDeskModel" "thrown" "I") (by decide +kernel)) (fun _ h9 => h9) rfl dX7_thrown_1 ?_
  exact xr_iret hx hb hr hlocks hS ⟨rfl, rfl⟩ dX7_thrown_4
set_option maxHeartbeats 400000 in
set_option maxRecDepth 100000 in
theorem c_X7_run (l : Launch) (g : WG) (H0 : Heap) (b : Nat) (th : Int32) (c0 : Nat → Nat) (vs0 : Nat) (ap0 : Nat → Nat) (bu0 : Nat) (c : Nat → Nat) (vs : Nat) (ap : Nat → Nat) (bu cn n : Nat) (Rw ord : Nat → Nat) (ch : Nat → Bool) (hD : ModAt g H0 b th c0 vs0 ap0 bu0 c vs ap bu cn n Rw ord ch) : Ctr l (KK g) yX7_run wsX7_run { frames := 5, cells := 0, slots := 0, locals := 118 } [.ref b] H0 eI (fun r H => ∃ (n1 : Nat) (R1 ord1 : Nat → Nat) (ch1 : Nat → Bool), r = nI n1 ∧ ModAt g H b 0 c0 vs0 ap0 bu0 c0 vs0 ap0 bu0 ((cnt vs0 48)) n1 R1 ord1 ch1 ∧ MWk c0 vs0 ap0 bu0 0 n1 R1 ord1 ch1 ∧ MRes c0 vs0 ap0 bu0 0 n1 (mkM R1 ord1 ch1)) (fun q => b ≤ q ∧ q < b + 12) := by
  refine xr_enter (cc := cX7_run) (maxL := 2) (ret := (some .int)) (by decide) rfl (Nat.le_of_ble_eq_true rfl) ?_
  intro pgm env s mid below meth cde hx hb hr hml hts hown hlocks hnm hH hK ls hl
  subst hH
  have hl : lv_has ls 2 [(0, .ref b)] := hl
  have hS : va_S (fun q => b ≤ q ∧ q < b + 12) s.heap s.heap [] := va_S.rf
  obtain ⟨py, ln, pf, tx, hO, hM, hNw, hOl, hOr, hI, hPo, hTx, hbl, hbh⟩ := id hD
  refine lv_aload_n hx hb dX7_run_0 rfl (lv_at hl 0 rfl) ?_
  refine lv_iconst (v := 0) hx hb dX7_run_1 (by decide) ?_
  refine xr_put (ci := 7) (v := .int 0) (ty := .int) (C := RX7) (T := TX7) (N := 18) hx hb hts (by decide +kernel) tyX7 tyX7_ok nmX7 hown hK.1 hO hS (show b ≤ b ∧ b < b + 12 by omega) rfl 0 (by decide) (hts (.fieldLink RX7 51 "SharesDeskModel" "thrown" "I") (by decide +kernel)) rfl (by decide +kernel) rfl rfl (Nat.le_of_ble_eq_true rfl) dX7_run_2 (fun H locs hz hkp hO hS => ?_)
  replace hM := hM.kept (hkp _ (by omega))
  replace hNw := hNw.kept (fun q hq1 hq2 hq3 => hkp q (by omega))
  replace hOl := hOl.kept (fun q hq1 hq2 hq3 => hkp q (by omega))
  replace hOr := hOr.kept (hkp _ (by omega))
  replace hI := hI.kept (hkp _ (by omega))
  replace hPo := hPo.kept (hkp _ (by omega))
  replace hTx := hTx.kept (hkp _ (by omega))
  refine lv_aload_n hx hb dX7_run_5 rfl (lv_at hl 0 rfl) ?_
  refine lv_iconst (v := 0) hx hb dX7_run_6 (by decide) ?_
  refine xr_ti (x' := nI 0) rfl ?_
  refine xr_Vi (rest := []) ⟨hx, hb, hml, hown, hts⟩ (KK_ok g) hK (c_X7_phase l g H b 0 (nI bu) (nI cn) (nI n) py ln bu0 hO Rw hM c0 vs0 ap0 hNw ⟨hbl, hbh⟩ c vs ap hOl ord hOr ch hI ⟨_, hPo⟩ 0 (by decide)) (cwV 1 hts gX7_run_X7_phase rfl rfl rfl (by decide +kernel) ⟨Nat.le_of_ble_eq_true rfl, Nat.le_of_ble_eq_true rfl⟩) (xr_rec hK hO rfl) rfl hl.1 rfl (Nat.le_of_ble_eq_true rfl) dX7_run_7 ⟨Nat.le_of_ble_eq_true rfl, Nat.le_of_ble_eq_true rfl⟩ hS (fun q h => by have h : q = b ∨ q = b + 1 ∨ b + 5 ≤ q ∧ q ≤ b + 10 := h; show b ≤ q ∧ q < b + 12; omega) (fun rr H locs hq hz hkp hS => ?_)
  replace hkp := fun (q : Nat) h1 (h2 : ¬ (q = b ∨ q = b + 1 ∨ b + 5 ≤ q ∧ q ≤ b + 10)) => hkp q h1 h2
  replace hNw := hNw.kept (fun q hq1 hq2 hq3 => hkp q hq1 (by omega))
  replace hTx := hTx.kept (hkp _ hTx.lt (by omega))
  obtain ⟨n9, R9, ord9, ch9, py9, pf9, hrr, hO, hM, hOl, hOr, hI, hPo, hW9, hR9⟩ := hq
  refine lv_istore_n (lv' := [(1, .int rr), (0, .ref b)]) hx hb dX7_run_10 rfl hl (by decide) rfl (fun ls hl => ?_)
  refine lv_aload_n hx hb dX7_run_11 rfl (lv_at hl 1 rfl) ?_
  refine va_get (D := g.1) (ci := 7) (v := .int (nI n9)) (C := RX7) (T := TX7) (N := 18) hx hb hts (by decide +kernel) hown hK.1 (xr_one hO) 0 rfl rfl 11 (by decide) (hts (.fieldLink RX7 120 "SharesDeskModel" "rounds" "I") (by decide +kernel)) (fun _ h9 => h9) rfl dX7_run_12 ?_
  exact xr_iret hx hb hr hlocks hS ⟨n9, R9, ord9, ch9, rfl, ⟨py9, ln, pf9, tx, hO, hM, hNw, hOl, hOr, hI, hPo, hTx, hbl, hbh⟩, hW9, hR9⟩ dX7_run_15
set_option maxHeartbeats 1000000 in
set_option maxRecDepth 100000 in
theorem c_X7_raise (l : Launch) (g : WG) (H0 : Heap) (b : Nat) (th : Int32) (c0 : Nat → Nat) (vs0 : Nat) (ap0 : Nat → Nat) (bu0 : Nat) (c : Nat → Nat) (vs : Nat) (ap : Nat → Nat) (bu cn n : Nat) (Rw ord : Nat → Nat) (ch : Nat → Bool) (hD : ModAt g H0 b th c0 vs0 ap0 bu0 c vs ap bu cn n Rw ord ch) (st mo : Int32) : Ctr l (KK g) yX7_raise wsX7_raise { frames := 5, cells := 0, slots := 0, locals := 118 } [.ref b, .int st, .int mo] H0 eI (fun r H => ((rg st 100000 && inR mo 101) = false ∧ r = 0 ∧ ModAt g H b 1 c0 vs0 ap0 bu0 c vs ap bu cn n Rw ord ch) ∨ ((rg st 100000 && inR mo 101) = true ∧ ∃ (n1 : Nat) (R1 ord1 : Nat → Nat) (ch1 : Nat → Bool) (s9 m9 j : Nat), st = nI s9 ∧ mo = nI m9 ∧ 1 ≤ s9 ∧ s9 ≤ 100000 ∧ m9 ≤ 100 ∧ j ≤ m9 ∧ r = nI j ∧ ModAt g H b 0 c0 vs0 ap0 bu0 c0 vs0 ap0 bu0 ((cnt vs0 48)) n1 R1 ord1 ch1 ∧ MWk c0 vs0 ap0 bu0 (j * s9) n1 R1 ord1 ch1 ∧ MRes c0 vs0 ap0 bu0 (j * s9) n1 (mkM R1 ord1 ch1) ∧ (∀ i, i ≤ j → OKm c0 vs0 ap0 bu0 (i * s9)) ∧ (j = m9 ∨ NOm c0 vs0 ap0 bu0 ((j + 1) * s9)))) (fun q => b ≤ q ∧ q < b + 12) := by
  refine xr_enter (cc := cX7_raise) (maxL := 5) (ret := (some .int)) (by decide) rfl (Nat.le_of_ble_eq_true rfl) ?_
  intro pgm env s mid below meth cde hx hb hr hml hts hown hlocks hnm hH hK ls hl
  subst hH
  have hl : lv_has ls 5 [(0, .ref b), (1, .int st), (2, .int mo)] := hl
  have hS : va_S (fun q => b ≤ q ∧ q < b + 12) s.heap s.heap [] := va_S.rf
  obtain ⟨py, ln, pf, tx, hO, hM, hNw, hOl, hOr, hI, hPo, hTx, hbl, hbh⟩ := id hD
  have loop : ∀ (s9 m9 : Nat), st = nI s9 → mo = nI m9 → (rg st 100000 && inR mo 101) = true → 1 ≤ s9 → s9 ≤ 100000 → m9 ≤ 100 → ∀ (k2 k : Nat), k + k2 = m9 + 1 → ∀ (H : Heap) (locs : List Loc) (cA : Nat → Nat) (vsA : Nat) (apA : Nat → Nat) (buA cnA nA : Nat) (RwA ordA : Nat → Nat) (chA : Nat → Bool), ModAt g H b 0 c0 vs0 ap0 bu0 cA vsA apA buA cnA nA RwA ordA chA → (k = 0 ∨ ∃ k9, k = k9 + 1 ∧ cA = c0 ∧ vsA = vs0 ∧ apA = ap0 ∧ buA = bu0 ∧ cnA = cnt vs0 48 ∧ MWk c0 vs0 ap0 bu0 (k9 * s9) nA RwA ordA chA ∧ MRes c0 vs0 ap0 bu0 (k9 * s9) nA (mkM RwA ordA chA)) → (∀ i, i < k → OKm c0 vs0 ap0 bu0 (i * s9)) → va_S (fun q => b ≤ q ∧ q < b + 12) s.heap H locs → ∀ ls : Array Slot, lv_has ls 5 [(4, .int (nI k)), (0, .ref b), (1, .int (nI s9)), (2, .int (nI m9))] → W pgm l env { frames := 5, cells := 0, slots := 0, locals := 118 } s mid ([.ref b, .int st, .int mo] : List Value).toArray below meth cde H locs 0 0 (MQ below (xr_Post eI (fun r H => ((rg st 100000 && inR mo 101) = false ∧ r = 0 ∧ ModAt g H b 1 c0 vs0 ap0 bu0 c vs ap bu cn n Rw ord ch) ∨ ((rg st 100000 && inR mo 101) = true ∧ ∃ (n1 : Nat) (R1 ord1 : Nat → Nat) (ch1 : Nat → Bool) (s9 m9 j : Nat), st = nI s9 ∧ mo = nI m9 ∧ 1 ≤ s9 ∧ s9 ≤ 100000 ∧ m9 ≤ 100 ∧ j ≤ m9 ∧ r = nI j ∧ ModAt g H b 0 c0 vs0 ap0 bu0 c0 vs0 ap0 bu0 ((cnt vs0 48)) n1 R1 ord1 ch1 ∧ MWk c0 vs0 ap0 bu0 (j * s9) n1 R1 ord1 ch1 ∧ MRes c0 vs0 ap0 bu0 (j * s9) n1 (mkM R1 ord1 ch1) ∧ (∀ i, i ≤ j → OKm c0 vs0 ap0 bu0 (i * s9)) ∧ (j = m9 ∨ NOm c0 vs0 ap0 bu0 ((j + 1) * s9)))) (fun q => b ≤ q ∧ q < b + 12)) ([.ref b, .int st, .int mo] : List Value).toArray s ({ frames := 5, cells := 0, slots := 0, locals := 118 } : Room).cells ({ frames := 5, cells := 0, slots := 0, locals := 118 } : Room).slots (fun q => b ≤ q ∧ q < b + 12)) (F0 mid 43 ls []) := by
    intro s9 m9 hst hmo hok hs1 hs2 hm9 k2
    induction k2 with
    | zero =>
      intro k h1 H locs cA vsA apA buA cnA nA RwA ordA chA hD hsta hoki hS ls hl
      have e : k = m9 + 1 := by omega
      subst e
      refine lv_iload hx hb dX7_raise_43 (lv_at hl 0 rfl) ?_
      refine lv_iload_n hx hb dX7_raise_45 rfl (lv_at hl 3 rfl) ?_
      refine lv_icmp_gt (tgt := 88) hx hb dX7_raise_46 (by decide) (fun hc => ?_) (fun hc => ?_)
      · clear hc
        rcases hsta with q | ⟨k9, e9, rfl, rfl, rfl, rfl, rfl, hW9, hR9⟩
        · omega
        · have e8 : k9 = m9 := by omega
          subst e8
          refine lv_iload_n hx hb dX7_raise_88 rfl (lv_at hl 3 rfl) ?_
          exact xr_iret hx hb hr hlocks hS (Or.inr ⟨hok, nA, RwA, ordA, chA, s9, k9, k9, hst, hmo, hs1, hs2, hm9, Nat.le_refl _, rfl, hD, hW9, hR9, fun i hi => hoki i (by omega), Or.inl rfl⟩) dX7_raise_89
      · exact absurd (nI_lt (Nat.lt_succ_self m9) (by omega)) hc
    | succ k2 ih =>
      intro k h1 H locs cA vsA apA buA cnA nA RwA ordA chA hD hsta hoki hS ls hl
      have hks : k * s9 ≤ 100 * 100000 := Nat.mul_le_mul (by omega) hs2
      obtain ⟨py, ln, pf, tx, hO, hM, hNw, hOl, hOr, hI, hPo, hTx, hbl, hbh⟩ := id hD
      refine lv_iload hx hb dX7_raise_43 (lv_at hl 0 rfl) ?_
      refine lv_iload_n hx hb dX7_raise_45 rfl (lv_at hl 3 rfl) ?_
      refine lv_icmp_gt (tgt := 88) hx hb dX7_raise_46 (by decide) (fun hc => ?_) (fun hc => ?_)
      · exact absurd ((nI_ltI (by omega) (by omega)).mp hc) (by omega)
      · have hkm : k ≤ m9 := by omega
        refine lv_aload_n hx hb dX7_raise_49 rfl (lv_at hl 1 rfl) ?_
        refine lv_iload hx hb dX7_raise_50 (lv_at hl 0 rfl) ?_
        refine lv_iload_n hx hb dX7_raise_52 rfl (lv_at hl 2 rfl) ?_
        refine lv_imul hx hb dX7_raise_53 ?_
        refine xr_ti (x' := nI (k * s9)) (pk_mul _ _) ?_
        refine xr_Vi (rest := []) ⟨hx, hb, hml, hown, hts⟩ (KK_ok g) hK (c_X7_phase l g H b 0 (nI buA) (nI cnA) (nI nA) py ln bu0 hO RwA hM c0 vs0 ap0 hNw ⟨hbl, hbh⟩ cA vsA apA hOl ordA hOr chA hI ⟨_, hPo⟩ (k * s9) (by omega)) (cwV 1 hts gX7_raise_X7_phase rfl rfl rfl (by decide +kernel) ⟨Nat.le_of_ble_eq_true rfl, Nat.le_of_ble_eq_true rfl⟩) (xr_rec hK hO rfl) rfl hl.1 rfl (Nat.le_of_ble_eq_true rfl) dX7_raise_54 ⟨Nat.le_of_ble_eq_true rfl, Nat.le_of_ble_eq_true rfl⟩ hS (fun q h => by have h : q = b ∨ q = b + 1 ∨ b + 5 ≤ q ∧ q ≤ b + 10 := h; show b ≤ q ∧ q < b + 12; omega) (fun rr H locs hq hz hkp hS => ?_)
        replace hkp := fun (q : Nat) h1 (h2 : ¬ (q = b ∨ q = b + 1 ∨ b + 5 ≤ q ∧ q ≤ b + 10)) => hkp q h1 h2
        replace hNw := hNw.kept (fun q hq1 hq2 hq3 => hkp q hq1 (by omega))
        replace hTx := hTx.kept (hkp _ hTx.lt (by omega))
        obtain ⟨n8, R8, ord8, ch8, py8, pf8, hrr, hO, hM, hOl, hOr, hI, hPo, hW8, hR8⟩ := hq
        have hcb := hNw.2.2.2.1
        have hcost : sg (fun i => c0 (ord8 i)) n8 ≤ n8 * 1000000 := sg_bd n8 (fun i hi => hcb _ (hW8.2.2.2.2.2.2.1 i hi))
        have hn9 := hW8.1
        subst hrr
        refine lv_istore_n (lv' := [(3, .int (nI (sg (fun i => c0 (ord8 i)) n8))), (4, .int (nI k)), (0, .ref b), (1, .int (nI s9)), (2, .int (nI m9))]) hx hb dX7_raise_57 rfl hl (by decide) rfl (fun ls hl => ?_)
        refine lv_iload_n hx hb dX7_raise_58 rfl (lv_at hl 0 rfl) ?_
        refine lv_aload_n hx hb dX7_raise_59 rfl (lv_at hl 2 rfl) ?_
        refine va_get (D := g.1) (ci := 7) (v := .int (nI bu0)) (C := RX7) (T := TX7) (N := 18) hx hb hts (by decide +kernel) hown hK.1 (xr_one hO) 0 rfl rfl 5 (by decide) (hts (.fieldLink RX7 23 "SharesDeskModel" "budget" "I") (by decide +kernel)) (fun _ h9 => h9) rfl dX7_raise_60 ?_
        refine lv_icmp_le (tgt := 82) hx hb dX7_raise_63 (by decide) (fun h5 => ?_) (fun h5 => ?_)
        · have h6 : sg (fun i => c0 (ord8 i)) n8 ≤ bu0 := (nI_leI (by omega) (by omega)).mp h5
          refine lv_iinc (v := nI (k + 1)) (lv' := [(4, .int (nI (k + 1))), (3, .int (nI (sg (fun i => c0 (ord8 i)) n8))), (0, .ref b), (1, .int (nI s9)), (2, .int (nI m9))]) hx hb dX7_raise_82 hl (k := 1) rfl (nI_1 k) (by decide) rfl (fun ls hl => ?_)
          refine lv_goto (tgt := 43) hx hb dX7_raise_85 (by decide) ?_
          exact ih (k + 1) (by omega) H _ c0 vs0 ap0 bu0 (cnt vs0 48) n8 R8 ord8 ch8 ⟨py8, ln, pf8, tx, hO, hM, hNw, hOl, hOr, hI, hPo, hTx, hbl, hbh⟩ (Or.inr ⟨k, rfl, rfl, rfl, rfl, rfl, rfl, hW8, hR8⟩) (fun i hi => by by_cases e9 : i = k; (rw [e9]; exact ⟨n8, _, hR8, h6⟩); exact hoki i (by omega)) hS ls (lv_sub hl [0, 2, 3, 4] rfl)
        · have h6 : bu0 < sg (fun i => c0 (ord8 i)) n8 := Nat.lt_of_not_le fun q => h5 (nI_le q (by omega))
          have hno : NOm c0 vs0 ap0 bu0 (k * s9) := ⟨n8, _, hR8, h6⟩
          have hk1 : 1 ≤ k := by
            apply Nat.pos_of_ne_zero
            intro q
            subst q
            rw [Nat.zero_mul] at hR8
            have h7 := mres_cons hR8
            have h8 : sg (fun i => c0 (ord8 i)) n8 ≤ bu0 := h7
            omega
          obtain ⟨j, rfl⟩ : ∃ j, k = j + 1 := ⟨k - 1, by omega⟩
          have hjs : j * s9 ≤ 100 * 100000 := Nat.mul_le_mul (by omega) hs2
          have hl : lv_has ls 5 [(4, .int (nI (j + 1))), (0, .ref b), (1, .int (nI s9)), (2, .int (nI m9))] := lv_sub hl [1, 2, 3, 4] rfl
          refine lv_aload_n hx hb dX7_raise_66 rfl (lv_at hl 1 rfl) ?_
          refine lv_iload hx hb dX7_raise_67 (lv_at hl 0 rfl) ?_
          refine lv_iconst (v := 1) hx hb dX7_raise_69 (by decide) ?_
          refine xr_ti (x' := nI 1) rfl ?_
          refine lv_isub hx hb dX7_raise_70 ?_
          refine xr_ti (x' := nI j) (by rw [pk_sub (by omega), Nat.add_sub_cancel]) ?_
          refine lv_iload_n hx hb dX7_raise_71 rfl (lv_at hl 2 rfl) ?_
          refine lv_imul hx hb dX7_raise_72 ?_
          refine xr_ti (x' := nI (j * s9)) (pk_mul _ _) ?_
          refine xr_Vi (rest := []) ⟨hx, hb, hml, hown, hts⟩ (KK_ok g) hK (c_X7_phase l g H b 0 (nI bu0) (nI (cnt vs0 48)) (nI n8) py8 ln bu0 hO R8 hM c0 vs0 ap0 hNw ⟨hbl, hbh⟩ c0 vs0 ap0 hOl ord8 hOr ch8 hI ⟨_, hPo⟩ (j * s9) (by omega)) (cwV 1 hts gX7_raise_X7_phase rfl rfl rfl (by decide +kernel) ⟨Nat.le_of_ble_eq_true rfl, Nat.le_of_ble_eq_true rfl⟩) (xr_rec hK hO rfl) rfl hl.1 rfl (Nat.le_of_ble_eq_true rfl) dX7_raise_73 ⟨Nat.le_of_ble_eq_true rfl, Nat.le_of_ble_eq_true rfl⟩ hS (fun q h => by have h : q = b ∨ q = b + 1 ∨ b + 5 ≤ q ∧ q ≤ b + 10 := h; show b ≤ q ∧ q < b + 12; omega) (fun r2 H locs hq hz hkp hS => ?_)
          replace hkp := fun (q : Nat) h1 (h2 : ¬ (q = b ∨ q = b + 1 ∨ b + 5 ≤ q ∧ q ≤ b + 10)) => hkp q h1 h2
          replace hNw := hNw.kept (fun q hq1 hq2 hq3 => hkp q hq1 (by omega))
          replace hTx := hTx.kept (hkp _ hTx.lt (by omega))
          obtain ⟨n9, R9, ord9, ch9, py9, pf9, hr2, hO, hM, hOl, hOr, hI, hPo, hW9, hR9⟩ := hq
          refine lv_istore_n (lv' := [(3, .int r2), (4, .int (nI (j + 1))), (0, .ref b), (1, .int (nI s9)), (2, .int (nI m9))]) hx hb dX7_raise_76 rfl hl (by decide) rfl (fun ls hl => ?_)
          refine lv_iload hx hb dX7_raise_77 (lv_at hl 1 rfl) ?_
          refine lv_iconst (v := 1) hx hb dX7_raise_79 (by decide) ?_
          refine xr_ti (x' := nI 1) rfl ?_
          refine lv_isub hx hb dX7_raise_80 ?_
          refine xr_ti (x' := nI j) (by rw [pk_sub (by omega), Nat.add_sub_cancel]) ?_
          exact xr_iret hx hb hr hlocks hS (Or.inr ⟨hok, n9, R9, ord9, ch9, s9, m9, j, hst, hmo, hs1, hs2, hm9, by omega, rfl, ⟨py9, ln, pf9, tx, hO, hM, hNw, hOl, hOr, hI, hPo, hTx, hbl, hbh⟩, hW9, hR9, fun i hi => hoki i (by omega), Or.inr hno⟩) dX7_raise_81
  refine lv_aload_n hx hb dX7_raise_0 rfl (lv_at hl 0 rfl) ?_
  refine lv_iload_n hx hb dX7_raise_1 rfl (lv_at hl 1 rfl) ?_
  refine lv_iconst (v := 1) hx hb dX7_raise_2 (by decide) ?_
  refine lv_ldc (v := (100000)) hx hb hown (hts (.constant RX7 139 (100000)) (by decide +kernel)) dX7_raise_3 ?_
  refine xr_Si (rest := [.ref b]) ⟨hx, hb, hml, hown, hts⟩ (KK_ok g) hK (c_X7_within l g s.heap st 1 100000) (cwS 3 hts gX7_raise_X7_within rfl rfl rfl (by decide +kernel) ⟨Nat.le_of_ble_eq_true rfl, Nat.le_of_ble_eq_true rfl⟩) rfl hl.1 rfl (Nat.le_of_ble_eq_true rfl) dX7_raise_5 ⟨Nat.le_of_ble_eq_true rfl, Nat.le_of_ble_eq_true rfl⟩ hS (fun q h => h.elim) (fun r H locs hq hz hkp hS925 => ?_)
  obtain ⟨rfl, rfl⟩ := hq
  have hS := hS925
  refine xr_ti (x' := b2i (rg st 100000)) (congrArg b2i (wi_rg rfl)) ?_
  refine lv_if_eq (tgt := 21) hx hb dX7_raise_8 (by decide) (fun h0 => ?_) (fun h0 => ?_)
  · have h9 : rg st 100000 = false := b2i_0.mp h0
    refine lv_iconst (v := 1) hx hb dX7_raise_21 (by decide) ?_
    refine lv_goto (tgt := 26) hx hb dX7_raise_22 (by decide) ?_
    refine xr_put (ci := 7) (v := .int 1) (ty := .int) (C := RX7) (T := TX7) (N := 18) hx hb hts (by decide +kernel) tyX7 tyX7_ok nmX7 hown hK.1 hO hS (show b ≤ b ∧ b < b + 12 by omega) rfl 0 (by decide) (hts (.fieldLink RX7 51 "SharesDeskModel" "thrown" "I") (by decide +kernel)) rfl (by decide +kernel) rfl rfl (Nat.le_of_ble_eq_true rfl) dX7_raise_26 (fun H locs hz hkp hO hS => ?_)
    replace hM := hM.kept (hkp _ (by omega))
    replace hNw := hNw.kept (fun q hq1 hq2 hq3 => hkp q (by omega))
    replace hOl := hOl.kept (fun q hq1 hq2 hq3 => hkp q (by omega))
    replace hOr := hOr.kept (hkp _ (by omega))
    replace hI := hI.kept (hkp _ (by omega))
    replace hPo := hPo.kept (hkp _ (by omega))
    replace hTx := hTx.kept (hkp _ (by omega))
    refine lv_aload_n hx hb dX7_raise_29 rfl (lv_at hl 0 rfl) ?_
    refine va_get (D := g.1) (ci := 7) (v := .int 1) (C := RX7) (T := TX7) (N := 18) hx hb hts (by decide +kernel) hown hK.1 (xr_one hO) 0 rfl rfl 0 (by decide) (hts (.fieldLink RX7 51 "SharesDeskModel" "thrown" "I") (by decide +kernel)) (fun _ h9 => h9) rfl dX7_raise_30 ?_
    refine lv_if_eq (tgt := 38) hx hb dX7_raise_33 (by decide) (fun h7 => ?_) (fun h7 => ?_)
    · exact absurd h7 (by decide)
    · clear h7
      refine lv_iconst (v := 0) hx hb dX7_raise_36 (by decide) ?_
      exact xr_iret hx hb hr hlocks hS (Or.inl ⟨by rw [h9]; rfl, rfl, ⟨py, ln, pf, tx, hO, hM, hNw, hOl, hOr, hI, hPo, hTx, hbl, hbh⟩⟩) dX7_raise_37
  · have h9 : rg st 100000 = true := b2i_n0.mp h0
    refine lv_iload_n hx hb dX7_raise_11 rfl (lv_at hl 2 rfl) ?_
    refine lv_iconst (v := 0) hx hb dX7_raise_12 (by decide) ?_
    refine lv_bipush (v := 100) hx hb dX7_raise_13 (by decide) ?_
    refine xr_Si (rest := [.ref b]) ⟨hx, hb, hml, hown, hts⟩ (KK_ok g) hK (c_X7_within l g s.heap mo 0 100) (cwS 3 hts gX7_raise_X7_within rfl rfl rfl (by decide +kernel) ⟨Nat.le_of_ble_eq_true rfl, Nat.le_of_ble_eq_true rfl⟩) rfl hl.1 rfl (Nat.le_of_ble_eq_true rfl) dX7_raise_15 ⟨Nat.le_of_ble_eq_true rfl, Nat.le_of_ble_eq_true rfl⟩ hS (fun q h => h.elim) (fun r H locs hq hz hkp hS926 => ?_)
    obtain ⟨rfl, rfl⟩ := hq
    have hS := hS926
    refine xr_ti (x' := b2i (inR mo 101)) (congrArg b2i (wi_in rfl)) ?_
    refine lv_if_ne (tgt := 25) hx hb dX7_raise_18 (by decide) (fun h1 => ?_) (fun h1 => ?_)
    · have h8 : inR mo 101 = true := b2i_n0.mp h1
      refine lv_iconst (v := 0) hx hb dX7_raise_25 (by decide) ?_
      refine xr_put (ci := 7) (v := .int 0) (ty := .int) (C := RX7) (T := TX7) (N := 18) hx hb hts (by decide +kernel) tyX7 tyX7_ok nmX7 hown hK.1 hO hS (show b ≤ b ∧ b < b + 12 by omega) rfl 0 (by decide) (hts (.fieldLink RX7 51 "SharesDeskModel" "thrown" "I") (by decide +kernel)) rfl (by decide +kernel) rfl rfl (Nat.le_of_ble_eq_true rfl) dX7_raise_26 (fun H locs hz hkp hO hS => ?_)
      replace hM := hM.kept (hkp _ (by omega))
      replace hNw := hNw.kept (fun q hq1 hq2 hq3 => hkp q (by omega))
      replace hOl := hOl.kept (fun q hq1 hq2 hq3 => hkp q (by omega))
      replace hOr := hOr.kept (hkp _ (by omega))
      replace hI := hI.kept (hkp _ (by omega))
      replace hPo := hPo.kept (hkp _ (by omega))
      replace hTx := hTx.kept (hkp _ (by omega))
      refine lv_aload_n hx hb dX7_raise_29 rfl (lv_at hl 0 rfl) ?_
      refine va_get (D := g.1) (ci := 7) (v := .int 0) (C := RX7) (T := TX7) (N := 18) hx hb hts (by decide +kernel) hown hK.1 (xr_one hO) 0 rfl rfl 0 (by decide) (hts (.fieldLink RX7 51 "SharesDeskModel" "thrown" "I") (by decide +kernel)) (fun _ h9 => h9) rfl dX7_raise_30 ?_
      refine lv_if_eq (tgt := 38) hx hb dX7_raise_33 (by decide) (fun h7 => ?_) (fun h7 => ?_)
      · clear h7
        obtain ⟨s9, hs1, hs2, hs3, rfl⟩ := rg_of h9
        obtain ⟨m9, hm9, rfl⟩ := inR_of h8 (by decide)
        refine lv_iconst (v := 0) hx hb dX7_raise_38 (by decide) ?_
        refine lv_istore_n (lv' := [(3, .int 0), (0, .ref b), (1, .int (nI s9)), (2, .int (nI m9))]) hx hb dX7_raise_39 rfl hl (by decide) rfl (fun ls hl => ?_)
        refine lv_iconst (v := 0) hx hb dX7_raise_40 (by decide) ?_
        refine xr_ti (x' := nI 0) rfl ?_
        refine lv_istore (lv' := [(4, .int (nI 0)), (3, .int 0), (0, .ref b), (1, .int (nI s9)), (2, .int (nI m9))]) hx hb dX7_raise_41 hl (by decide) rfl (fun ls hl => ?_)
        exact loop s9 m9 rfl rfl (by rw [h9, h8]; rfl) hs1 hs2 (by omega) (m9 + 1) 0 (by omega) H _ c vs ap bu cn n Rw ord ch ⟨py, ln, pf, tx, hO, hM, hNw, hOl, hOr, hI, hPo, hTx, hbl, hbh⟩ (Or.inl rfl) (fun i hi => absurd hi (Nat.not_lt_zero _)) hS ls (lv_sub hl [0, 2, 3, 4] rfl)
      · exact absurd rfl h7
    · have h8 : inR mo 101 = false := b2i_0.mp h1
      refine lv_iconst (v := 1) hx hb dX7_raise_21 (by decide) ?_
      refine lv_goto (tgt := 26) hx hb dX7_raise_22 (by decide) ?_
      refine xr_put (ci := 7) (v := .int 1) (ty := .int) (C := RX7) (T := TX7) (N := 18) hx hb hts (by decide +kernel) tyX7 tyX7_ok nmX7 hown hK.1 hO hS (show b ≤ b ∧ b < b + 12 by omega) rfl 0 (by decide) (hts (.fieldLink RX7 51 "SharesDeskModel" "thrown" "I") (by decide +kernel)) rfl (by decide +kernel) rfl rfl (Nat.le_of_ble_eq_true rfl) dX7_raise_26 (fun H locs hz hkp hO hS => ?_)
      replace hM := hM.kept (hkp _ (by omega))
      replace hNw := hNw.kept (fun q hq1 hq2 hq3 => hkp q (by omega))
      replace hOl := hOl.kept (fun q hq1 hq2 hq3 => hkp q (by omega))
      replace hOr := hOr.kept (hkp _ (by omega))
      replace hI := hI.kept (hkp _ (by omega))
      replace hPo := hPo.kept (hkp _ (by omega))
      replace hTx := hTx.kept (hkp _ (by omega))
      refine lv_aload_n hx hb dX7_raise_29 rfl (lv_at hl 0 rfl) ?_
      refine va_get (D := g.1) (ci := 7) (v := .int 1) (C := RX7) (T := TX7) (N := 18) hx hb hts (by decide +kernel) hown hK.1 (xr_one hO) 0 rfl rfl 0 (by decide) (hts (.fieldLink RX7 51 "SharesDeskModel" "thrown" "I") (by decide +kernel)) (fun _ h9 => h9) rfl dX7_raise_30 ?_
      refine lv_if_eq (tgt := 38) hx hb dX7_raise_33 (by decide) (fun h7 => ?_) (fun h7 => ?_)
      · exact absurd h7 (by decide)
      · clear h7
        refine lv_iconst (v := 0) hx hb dX7_raise_36 (by decide) ?_
        exact xr_iret hx hb hr hlocks hS (Or.inl ⟨by rw [h8, Bool.and_false], rfl, ⟨py, ln, pf, tx, hO, hM, hNw, hOl, hOr, hI, hPo, hTx, hbl, hbh⟩⟩) dX7_raise_37
