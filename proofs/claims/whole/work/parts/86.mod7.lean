set_option maxHeartbeats 1000000 in
set_option maxRecDepth 100000 in
theorem c_X7_phase (l : Launch) (g : WG) (H0 : Heap) (b : Nat) (th ob cn rn py ln : Int32) (bu : Nat) (hO : obj g H0 b 7 (moF b th (nI bu) ob cn rn py ln)) (Rw : Nat → Nat) (hM : RwsAt g H0 b Rw) (c : Nat → Nat) (vs : Nat) (ap : Nat → Nat) (hNw : NewAt g H0 b c vs ap) (hbu : 1 ≤ bu ∧ bu ≤ 10000000) (c1 : Nat → Nat) (vs1 : Nat) (ap1 : Nat → Nat) (hOl : OldAt g H0 b c1 vs1 ap1) (ord0 : Nat → Nat) (hOr : xr_ia H0 (b + 8) (gI g) 16 (fun z9 => nI (ord0 z9))) (ch0 : Nat → Bool) (hI : xr_ia H0 (b + 9) (gZ g) 16 (fun z9 => b2i (ch0 z9))) (hPo : ∃ pf0 : Nat → Bool, xr_ia H0 (b + 10) (gZ g) 48 (fun z9 => b2i (pf0 z9))) (rz : Nat) (hrz : rz ≤ 10000000) : Ctr l (KK g) yX7_phase wsX7_phase { frames := 4, cells := 0, slots := 0, locals := 96 } [.ref b, .int (nI rz)] H0 eI (fun r H => ∃ (n : Nat) (R1 : Nat → Nat) (ord : Nat → Nat) (ch : Nat → Bool) (py2 : Int32) (pf : Nat → Bool), r = nI (sg (fun i => c (ord i)) n) ∧ obj g H b 7 (moF b th (nI bu) (nI bu) (nI (cnt vs 48)) (nI n) py2 ln) ∧ RwsAt g H b R1 ∧ OldAt g H b c vs ap ∧ xr_ia H (b + 8) (gI g) 16 (fun z9 => nI (ord z9)) ∧ xr_ia H (b + 9) (gZ g) 16 (fun z9 => b2i (ch z9)) ∧ xr_ia H (b + 10) (gZ g) 48 (fun z9 => b2i (pf z9)) ∧ MWk c vs ap bu rz n R1 ord ch ∧ MRes c vs ap bu rz n (mkM R1 ord ch)) (fun q => q = b ∨ q = b + 1 ∨ b + 5 ≤ q ∧ q ≤ b + 10) := by
  refine xr_enter (cc := cX7_phase) (maxL := 3) (ret := (some .int)) (by decide) rfl (Nat.le_of_ble_eq_true rfl) ?_
  intro pgm env s mid below meth cde hx hb hr hml hts hown hlocks hnm hH hK ls hl
  subst hH
  have hl : lv_has ls 3 [(0, .ref b), (1, .int (nI rz))] := hl
  have hS : va_S (fun q => q = b ∨ q = b + 1 ∨ b + 5 ≤ q ∧ q ≤ b + 10) s.heap s.heap [] := va_S.rf
  obtain ⟨hf, hRb⟩ := id hM
  obtain ⟨hNc, hNv, hNa, hcb, hab⟩ := id hNw
  obtain ⟨pf0, hPo⟩ := hPo
  have hc48 := cnt_le vs 48
  have hm1 : rz * cnt vs 48 ≤ 10000000 * 48 := Nat.mul_le_mul hrz hc48
  have hs0 := hS
  have wh : ∀ (k n : Nat), n + k = 16 → ∀ (H : Heap) (locs : List Loc) (R1 : Nat → Nat) (ord : Nat → Nat) (ch : Nat → Bool) (py2 : Int32) (pf : Nat → Bool) (S : Nat → Nat × Nat), obj g H b 7 (moF b th (nI bu) (nI bu) (nI (cnt vs 48)) (nI n) py2 ln) → RwsAt g H b R1 → OldAt g H b c vs ap → xr_ia H (b + 8) (gI g) 16 (fun z9 => nI (ord z9)) → xr_ia H (b + 9) (gZ g) 16 (fun z9 => b2i (ch z9)) → xr_ia H (b + 10) (gZ g) 48 (fun z9 => b2i (pf z9)) → MWk c vs ap bu rz n R1 ord ch → (∀ q, q < 16 → (affB c vs ap (R1 848) R1 ch) q = true → IsSh (sqp vs ap q) R1 (R1 848 * c q) (S q).1 (S q).2) → va_S (fun q => q = b ∨ q = b + 1 ∨ b + 5 ≤ q ∧ q ≤ b + 10) s.heap H locs → ∀ ls : Array Slot, lv_has ls 3 [(2, .int (nxB (mxGo S (affB c vs ap (R1 848) R1 ch) c 16))), (0, .ref b), (1, .int (nI rz))] → W pgm l env { frames := 4, cells := 0, slots := 0, locals := 96 } s mid ([.ref b, .int (nI rz)] : List Value).toArray below meth cde H locs 0 0 (MQ below (xr_Post eI (fun r H => ∃ (n : Nat) (R1 : Nat → Nat) (ord : Nat → Nat) (ch : Nat → Bool) (py2 : Int32) (pf : Nat → Bool), r = nI (sg (fun i => c (ord i)) n) ∧ obj g H b 7 (moF b th (nI bu) (nI bu) (nI (cnt vs 48)) (nI n) py2 ln) ∧ RwsAt g H b R1 ∧ OldAt g H b c vs ap ∧ xr_ia H (b + 8) (gI g) 16 (fun z9 => nI (ord z9)) ∧ xr_ia H (b + 9) (gZ g) 16 (fun z9 => b2i (ch z9)) ∧ xr_ia H (b + 10) (gZ g) 48 (fun z9 => b2i (pf z9)) ∧ MWk c vs ap bu rz n R1 ord ch ∧ MRes c vs ap bu rz n (mkM R1 ord ch)) (fun q => q = b ∨ q = b + 1 ∨ b + 5 ≤ q ∧ q ≤ b + 10)) ([.ref b, .int (nI rz)] : List Value).toArray s ({ frames := 4, cells := 0, slots := 0, locals := 96 } : Room).cells ({ frames := 4, cells := 0, slots := 0, locals := 96 } : Room).slots (fun q => q = b ∨ q = b + 1 ∨ b + 5 ≤ q ∧ q ≤ b + 10)) (F0 mid 186 ls []) := by
    intro k
    induction k with
    | zero =>
      intro n h1 H locs R1 ord ch py2 pf S hO hM1 hOl hOr hI hPo hW hSk hS ls hl
      cases hz9 : mxGo S (affB c vs ap (R1 848) R1 ch) c 16 with
      | some w =>
        obtain ⟨m1, m2, m3⟩ := mxGo_some 16 w hz9
        exact absurd (hW.lt m1 (affB_ch m2).2.1) (by omega)
      | none =>
        rw [hz9] at hl
        have hl : lv_has ls 3 [(2, .int (-1)), (0, .ref b), (1, .int (nI rz))] := hl
        refine lv_iload_n hx hb dX7_phase_186 rfl (lv_at hl 0 rfl) ?_
        refine lv_if_lt (tgt := 203) hx hb dX7_phase_187 (by decide) (fun h5 => ?_) (fun h5 => ?_)
        · clear h5
          refine lv_aload_n hx hb dX7_phase_203 rfl (lv_at hl 1 rfl) ?_
          refine xr_Vi (rest := []) ⟨hx, hb, hml, hown, hts⟩ (KK_ok g) hK (c_X7_cost l g H b th (nI bu) (nI bu) (nI (cnt vs 48)) (py2) ln n hO c vs ap hOl ord hOr (by omega) hW.2.2.2.2.2.2.1) (cwV 0 hts gX7_phase_X7_cost rfl rfl rfl (by decide +kernel) ⟨Nat.le_of_ble_eq_true rfl, Nat.le_of_ble_eq_true rfl⟩) (xr_rec hK hO rfl) rfl hl.1 rfl (Nat.le_of_ble_eq_true rfl) dX7_phase_204 ⟨Nat.le_of_ble_eq_true rfl, Nat.le_of_ble_eq_true rfl⟩ hS (fun q h => h.elim) (fun r H locs hq hz hkp hS9 => ?_)
          obtain ⟨rfl, rfl⟩ := hq
          have hS := hS9
          exact xr_iret hx hb hr hlocks hS ⟨n, R1, ord, ch, py2, pf, rfl, hO, hM1, hOl, hOr, hI, hPo, hW, hW.res hz9⟩ dX7_phase_207
        · exact absurd (by decide) h5
    | succ k ih =>
      intro n h1 H locs R1 ord ch py2 pf S hO hM1 hOl hOr hI hPo hW hSk hS ls hl
      cases hz9 : mxGo S (affB c vs ap (R1 848) R1 ch) c 16 with
      | none =>
        rw [hz9] at hl
        have hl : lv_has ls 3 [(2, .int (-1)), (0, .ref b), (1, .int (nI rz))] := hl
        refine lv_iload_n hx hb dX7_phase_186 rfl (lv_at hl 0 rfl) ?_
        refine lv_if_lt (tgt := 203) hx hb dX7_phase_187 (by decide) (fun h5 => ?_) (fun h5 => ?_)
        · clear h5
          refine lv_aload_n hx hb dX7_phase_203 rfl (lv_at hl 1 rfl) ?_
          refine xr_Vi (rest := []) ⟨hx, hb, hml, hown, hts⟩ (KK_ok g) hK (c_X7_cost l g H b th (nI bu) (nI bu) (nI (cnt vs 48)) (py2) ln n hO c vs ap hOl ord hOr (by omega) hW.2.2.2.2.2.2.1) (cwV 0 hts gX7_phase_X7_cost rfl rfl rfl (by decide +kernel) ⟨Nat.le_of_ble_eq_true rfl, Nat.le_of_ble_eq_true rfl⟩) (xr_rec hK hO rfl) rfl hl.1 rfl (Nat.le_of_ble_eq_true rfl) dX7_phase_204 ⟨Nat.le_of_ble_eq_true rfl, Nat.le_of_ble_eq_true rfl⟩ hS (fun q h => h.elim) (fun r H locs hq hz hkp hS9 => ?_)
          obtain ⟨rfl, rfl⟩ := hq
          have hS := hS9
          exact xr_iret hx hb hr hlocks hS ⟨n, R1, ord, ch, py2, pf, rfl, hO, hM1, hOl, hOr, hI, hPo, hW, hW.res hz9⟩ dX7_phase_207
        · exact absurd (by decide) h5
      | some w =>
        rw [hz9] at hl
        obtain ⟨m1, m2, m3⟩ := mxGo_some 16 w hz9
        obtain ⟨a1, a2, a3⟩ := affB_ch m2
        have hn16 := hW.lt m1 a2
        have hl : lv_has ls 3 [(2, .int (nI w.1)), (0, .ref b), (1, .int (nI rz))] := hl
        refine lv_iload_n hx hb dX7_phase_186 rfl (lv_at hl 0 rfl) ?_
        refine lv_if_lt (tgt := 203) hx hb dX7_phase_187 (by decide) (fun h5 => ?_) (fun h5 => ?_)
        · exact absurd h5 (nI_pos (by omega))
        · clear h5
          refine lv_aload_n hx hb dX7_phase_190 rfl (lv_at hl 1 rfl) ?_
          refine lv_iload_n hx hb dX7_phase_191 rfl (lv_at hl 0 rfl) ?_
          refine xr_Vv (rest := []) ⟨hx, hb, hml, hown, hts⟩ (KK_ok g) hK (c_X7_pay l g H b th (nI bu) (nI bu) (nI (cnt vs 48)) py2 ln n hO R1 hM1 c vs ap hOl hW.bd ch hI ⟨_, hPo⟩ ord hOr hn16 w.1 m1 a1 hW.2.2.1 a3) (cwV 1 hts gX7_phase_X7_pay rfl rfl rfl (by decide +kernel) ⟨Nat.le_of_ble_eq_true rfl, Nat.le_of_ble_eq_true rfl⟩) (xr_rec hK hO rfl) rfl hl.1 rfl (Nat.le_of_ble_eq_true rfl) dX7_phase_192 ⟨Nat.le_of_ble_eq_true rfl, Nat.le_of_ble_eq_true rfl⟩ hS (fun q h => by have h : q = b ∨ q = b + 1 ∨ b + 8 ≤ q ∧ q ≤ b + 10 := h; show q = b ∨ q = b + 1 ∨ b + 5 ≤ q ∧ q ≤ b + 10; omega) (fun _ H locs hq hz hkp hS => ?_)
          replace hkp := fun (q : Nat) h1 (h2 : ¬ (q = b ∨ q = b + 1 ∨ b + 8 ≤ q ∧ q ≤ b + 10)) => hkp q h1 h2
          replace hOl := hOl.kept (fun q hq1 hq2 hq3 => hkp q hq1 (by omega))
          obtain ⟨R2, r, kk, pf2, p1, hO, hM2, hPo, hOr, hI, p2, p3, p4, p5, p6, p7⟩ := hq
          have hW2 := hW.next hSk hz9 p1 p2 p3 p4 p5 p6 p7
          refine lv_aload_n hx hb dX7_phase_195 rfl (lv_at hl 1 rfl) ?_
          refine xr_Vi (rest := []) ⟨hx, hb, hml, hown, hts⟩ (KK_ok g) hK (c_X7_next l g H b th (nI bu) (nI bu) (nI (cnt vs 48)) (nI (n + 1)) (nI kk) ln hO R2 hM2 c vs ap hOl hW2.bd _ hI ⟨_, hPo⟩ hW2.2.2.1) (cwV 0 hts gX7_phase_X7_next rfl rfl rfl (by decide +kernel) ⟨Nat.le_of_ble_eq_true rfl, Nat.le_of_ble_eq_true rfl⟩) (xr_rec hK hO rfl) rfl hl.1 rfl (Nat.le_of_ble_eq_true rfl) dX7_phase_196 ⟨Nat.le_of_ble_eq_true rfl, Nat.le_of_ble_eq_true rfl⟩ hS (fun q h => by have h : q = b ∨ q = b + 1 ∨ q = b + 10 := h; show q = b ∨ q = b + 1 ∨ b + 5 ≤ q ∧ q ≤ b + 10; omega) (fun rr H locs hq hz hkp hS => ?_)
          replace hkp := fun (q : Nat) h1 (h2 : ¬ (q = b ∨ q = b + 1 ∨ q = b + 10)) => hkp q h1 h2
          replace hOl := hOl.kept (fun q hq1 hq2 hq3 => hkp q hq1 (by omega))
          replace hI := hI.kept (hkp _ hI.lt (by omega))
          replace hOr := hOr.kept (hkp _ hOr.lt (by omega))
          obtain ⟨S3, R3, py3, pf3, hrr, hS3, hO, hM3, hPo, e3⟩ := hq
          obtain ⟨n1, n2⟩ := nx_ext e3 hS3
          rw [n1] at hrr
          subst hrr
          refine lv_istore_n (lv' := [(2, .int (nxB (mxGo S3 (affB c vs ap (R3 848) R3 (va_up ch w.1 true)) c 16))), (0, .ref b), (1, .int (nI rz))]) hx hb dX7_phase_199 rfl hl (by decide) rfl (fun ls hl => ?_)
          refine lv_goto (tgt := 186) hx hb dX7_phase_200 (by decide) ?_
          exact ih (n + 1) (by omega) H _ R3 _ _ py3 pf3 S3 hO hM3 hOl hOr hI hPo (hW2.ext e3) n2 hS ls (lv_sub hl [0, 1, 2] rfl)
  have l3 : ∀ (k v : Nat), v + k = 48 → ∀ (H : Heap) (locs : List Loc) (R1 : Nat → Nat) (ch : Nat → Bool), obj g H b 7 (moF b th (nI bu) (nI bu) (nI (cnt vs 48)) (nI 0) py ln) → RwsAt g H b R1 → OldAt g H b c vs ap → xr_ia H (b + 8) (gI g) 16 (fun z9 => nI (ord0 z9)) → xr_ia H (b + 9) (gZ g) 16 (fun z9 => b2i (ch z9)) → xr_ia H (b + 10) (gZ g) 48 (fun z9 => b2i (pf0 z9)) → (∀ q, q < 16 → ch q = false) → R1 848 = (if cnt vs 48 = 0 then 1 else cnt vs 48) → (∀ w9, w9 < v → R1 w9 = if vs.testBit w9 = true then bu + cnt vs 48 * rz else 0) → va_S (fun q => q = b ∨ q = b + 1 ∨ b + 5 ≤ q ∧ q ≤ b + 10) s.heap H locs → ∀ ls : Array Slot, lv_has ls 3 [(2, .int (nI v)), (0, .ref b), (1, .int (nI rz))] → W pgm l env { frames := 4, cells := 0, slots := 0, locals := 96 } s mid ([.ref b, .int (nI rz)] : List Value).toArray below meth cde H locs 0 0 (MQ below (xr_Post eI (fun r H => ∃ (n : Nat) (R1 : Nat → Nat) (ord : Nat → Nat) (ch : Nat → Bool) (py2 : Int32) (pf : Nat → Bool), r = nI (sg (fun i => c (ord i)) n) ∧ obj g H b 7 (moF b th (nI bu) (nI bu) (nI (cnt vs 48)) (nI n) py2 ln) ∧ RwsAt g H b R1 ∧ OldAt g H b c vs ap ∧ xr_ia H (b + 8) (gI g) 16 (fun z9 => nI (ord z9)) ∧ xr_ia H (b + 9) (gZ g) 16 (fun z9 => b2i (ch z9)) ∧ xr_ia H (b + 10) (gZ g) 48 (fun z9 => b2i (pf z9)) ∧ MWk c vs ap bu rz n R1 ord ch ∧ MRes c vs ap bu rz n (mkM R1 ord ch)) (fun q => q = b ∨ q = b + 1 ∨ b + 5 ≤ q ∧ q ≤ b + 10)) ([.ref b, .int (nI rz)] : List Value).toArray s ({ frames := 4, cells := 0, slots := 0, locals := 96 } : Room).cells ({ frames := 4, cells := 0, slots := 0, locals := 96 } : Room).slots (fun q => q = b ∨ q = b + 1 ∨ b + 5 ≤ q ∧ q ≤ b + 10)) (F0 mid 137 ls []) := by
    intro k
    induction k with
    | zero =>
      intro v h1 H locs R1 ch hO hM1 hOl hOr hI hPo hch e1 e2 hS ls hl
      have e : v = 48 := by omega
      subst e
      have hW := MWk.init (c := c) (ap := ap) (ord := ord0) (rz := rz) hbu.2 hrz e1 e2 hch
      refine lv_iload_n hx hb dX7_phase_137 rfl (lv_at hl 0 rfl) ?_
      refine lv_bipush (v := 48) hx hb dX7_phase_138 (by decide) ?_
      refine lv_icmp_ge (tgt := 181) hx hb dX7_phase_140 (by decide) (fun hc => ?_) (fun hc => ?_)
      · clear hc
        refine lv_aload_n hx hb dX7_phase_181 rfl (lv_at hl 1 rfl) ?_
        refine xr_Vi (rest := []) ⟨hx, hb, hml, hown, hts⟩ (KK_ok g) hK (c_X7_next l g H b th (nI bu) (nI bu) (nI (cnt vs 48)) (nI 0) (py) ln hO R1 hM1 c vs ap hOl hW.bd _ hI ⟨_, hPo⟩ hW.2.2.1) (cwV 0 hts gX7_phase_X7_next rfl rfl rfl (by decide +kernel) ⟨Nat.le_of_ble_eq_true rfl, Nat.le_of_ble_eq_true rfl⟩) (xr_rec hK hO rfl) rfl hl.1 rfl (Nat.le_of_ble_eq_true rfl) dX7_phase_182 ⟨Nat.le_of_ble_eq_true rfl, Nat.le_of_ble_eq_true rfl⟩ hS (fun q h => by have h : q = b ∨ q = b + 1 ∨ q = b + 10 := h; show q = b ∨ q = b + 1 ∨ b + 5 ≤ q ∧ q ≤ b + 10; omega) (fun rr H locs hq hz hkp hS => ?_)
        replace hkp := fun (q : Nat) h1 (h2 : ¬ (q = b ∨ q = b + 1 ∨ q = b + 10)) => hkp q h1 h2
        replace hOl := hOl.kept (fun q hq1 hq2 hq3 => hkp q hq1 (by omega))
        replace hI := hI.kept (hkp _ hI.lt (by omega))
        replace hOr := hOr.kept (hkp _ hOr.lt (by omega))
        obtain ⟨S3, R3, py3, pf3, hrr, hS3, hO, hM3, hPo, e3⟩ := hq
        obtain ⟨n1, n2⟩ := nx_ext e3 hS3
        rw [n1] at hrr
        subst hrr
        refine lv_istore_n (lv' := [(2, .int (nxB (mxGo S3 (affB c vs ap (R3 848) R3 ch) c 16))), (0, .ref b), (1, .int (nI rz))]) hx hb dX7_phase_185 rfl hl (by decide) rfl (fun ls hl => ?_)
        exact wh 16 0 (by omega) H _ R3 _ _ py3 pf3 S3 hO hM3 hOl hOr hI hPo (hW.ext e3) n2 hS ls (lv_sub hl [0, 1, 2] rfl)
      · exact absurd (by decide) hc
    | succ k ih =>
      intro v h1 H locs R1 ch hO hM1 hOl hOr hI hPo hch e1 e2 hS ls hl
      have hv48 : v < 48 := by omega
      obtain ⟨-, hV, -⟩ := id hOl
      refine lv_iload_n hx hb dX7_phase_137 rfl (lv_at hl 0 rfl) ?_
      refine lv_bipush (v := 48) hx hb dX7_phase_138 (by decide) ?_
      refine lv_icmp_ge (tgt := 181) hx hb dX7_phase_140 (by decide) (fun hc => ?_) (fun hc => ?_)
      · exact absurd ((nI_leI (a := 48) (b := v) (by decide) (by omega)).mp hc) (by omega)
      · clear hc
        refine lv_aload_n hx hb dX7_phase_143 rfl (lv_at hl 1 rfl) ?_
        refine lv_iload_n hx hb dX7_phase_144 rfl (lv_at hl 0 rfl) ?_
        refine lv_aload_n hx hb dX7_phase_145 rfl (lv_at hl 1 rfl) ?_
        refine va_get (D := g.1) (ci := 7) (v := .ref (b + 6)) (C := RX7) (T := TX7) (N := 18) hx hb hts (by decide +kernel) hown hK.1 (xr_one hO) 0 rfl rfl 7 (by decide) (hts (.fieldLink RX7 30 "SharesDeskModel" "oldVoters" "[Z") (by decide +kernel)) (fun _ h9 => h9) rfl dX7_phase_146 ?_
        refine lv_iload_n hx hb dX7_phase_149 rfl (lv_at hl 0 rfl) ?_
        refine xr_zrd hx hb hK hV hv48 (by decide) dX7_phase_150 ?_
        refine lv_if_eq (tgt := 171) hx hb dX7_phase_151 (by decide) (fun h2 => ?_) (fun h2 => ?_)
        · have hb0 : vs.testBit v = false := b2i_0.mp h2
          refine lv_lconst (v := 0) hx hb dX7_phase_171 (by decide) ?_
          refine xr_tl (x' := lN 0) rfl ?_
          refine xr_Vv (rest := []) ⟨hx, hb, hml, hown, hts⟩ (KK_ok g) hK (c_X7_set l g H b th (nI bu) (nI bu) (nI (cnt vs 48)) (nI 0) (py) ln hO R1 hM1 v (0) (by omega) (by omega)) (cwV 2 hts gX7_phase_X7_set rfl rfl rfl (by decide +kernel) ⟨Nat.le_of_ble_eq_true rfl, Nat.le_of_ble_eq_true rfl⟩) (xr_rec hK hO rfl) rfl hl.1 rfl (Nat.le_of_ble_eq_true rfl) dX7_phase_172 ⟨Nat.le_of_ble_eq_true rfl, Nat.le_of_ble_eq_true rfl⟩ hS (fun q h => by have h : q = b + 1 := h; show q = b ∨ q = b + 1 ∨ b + 5 ≤ q ∧ q ≤ b + 10; omega) (fun _ H locs hq hz hkp hS => ?_)
          replace hkp := fun (q : Nat) h1 (h2 : ¬ (q = b + 1)) => hkp q h1 h2
          replace hO := hO.kept (hkp _ hO.lt (by omega))
          replace hOl := hOl.kept (fun q hq1 hq2 hq3 => hkp q hq1 (by omega))
          replace hPo := hPo.kept (hkp _ hPo.lt (by omega))
          replace hI := hI.kept (hkp _ hI.lt (by omega))
          replace hOr := hOr.kept (hkp _ hOr.lt (by omega))
          obtain ⟨R2, hR2⟩ : ∃ r9 : Nat → Nat, r9 = va_up R1 v (0) := ⟨_, rfl⟩
          have hMR2 : RwsAt g H b R2 := by rw [hR2]; exact hq
          clear hq
          refine lv_iinc (v := nI (v + 1)) (lv' := [(2, .int (nI (v + 1))), (0, .ref b), (1, .int (nI rz))]) hx hb dX7_phase_175 hl (k := 0) rfl (nI_1 v) (by decide) rfl (fun ls hl => ?_)
          refine lv_goto (tgt := 137) hx hb dX7_phase_178 (by decide) ?_
          exact ih (v + 1) (by omega) H _ R2 ch hO hMR2 hOl hOr hI hPo hch (by rw [hR2, va_up_ne _ _ (by omega), e1]) (fun w9 hw => by by_cases e9 : w9 = v; (rw [e9, hR2, va_up_self, if_neg (by rw [hb0]; decide)]); (rw [hR2, va_up_ne _ _ e9, e2 w9 (by omega)])) hS ls (lv_sub hl [0, 1, 2] rfl)
        · have hb1 : vs.testBit v = true := b2i_n0.mp h2
          refine lv_aload_n hx hb dX7_phase_154 rfl (lv_at hl 1 rfl) ?_
          refine va_get (D := g.1) (ci := 7) (v := .int (nI bu)) (C := RX7) (T := TX7) (N := 18) hx hb hts (by decide +kernel) hown hK.1 (xr_one hO) 0 rfl rfl 5 (by decide) (hts (.fieldLink RX7 23 "SharesDeskModel" "budget" "I") (by decide +kernel)) (fun _ h9 => h9) rfl dX7_phase_155 ?_
          refine lv_i2l (v := lN bu) hx hb dX7_phase_158 (nI_l (by omega)) ?_
          refine lv_iload_n hx hb dX7_phase_159 rfl (lv_at hl 2 rfl) ?_
          refine lv_i2l (v := lN rz) hx hb dX7_phase_160 (nI_l (by omega)) ?_
          refine lv_aload_n hx hb dX7_phase_161 rfl (lv_at hl 1 rfl) ?_
          refine va_get (D := g.1) (ci := 7) (v := .int (nI (cnt vs 48))) (C := RX7) (T := TX7) (N := 18) hx hb hts (by decide +kernel) hown hK.1 (xr_one hO) 0 rfl rfl 10 (by decide) (hts (.fieldLink RX7 123 "SharesDeskModel" "count" "I") (by decide +kernel)) (fun _ h9 => h9) rfl dX7_phase_162 ?_
          refine lv_i2l (v := lN (cnt vs 48)) hx hb dX7_phase_165 (nI_l (by omega)) ?_
          refine lv_lmul hx hb dX7_phase_166 ?_
          refine xr_tl (x' := lN (rz * cnt vs 48)) (lN_mul _ _) ?_
          refine lv_ladd hx hb dX7_phase_167 ?_
          refine xr_tl (x' := lN (bu + rz * cnt vs 48)) (lN_add _ _) ?_
          refine lv_goto (tgt := 172) hx hb dX7_phase_168 (by decide) ?_
          refine xr_Vv (rest := []) ⟨hx, hb, hml, hown, hts⟩ (KK_ok g) hK (c_X7_set l g H b th (nI bu) (nI bu) (nI (cnt vs 48)) (nI 0) (py) ln hO R1 hM1 v (bu + rz * cnt vs 48) (by omega) (by omega)) (cwV 2 hts gX7_phase_X7_set rfl rfl rfl (by decide +kernel) ⟨Nat.le_of_ble_eq_true rfl, Nat.le_of_ble_eq_true rfl⟩) (xr_rec hK hO rfl) rfl hl.1 rfl (Nat.le_of_ble_eq_true rfl) dX7_phase_172 ⟨Nat.le_of_ble_eq_true rfl, Nat.le_of_ble_eq_true rfl⟩ hS (fun q h => by have h : q = b + 1 := h; show q = b ∨ q = b + 1 ∨ b + 5 ≤ q ∧ q ≤ b + 10; omega) (fun _ H locs hq hz hkp hS => ?_)
          replace hkp := fun (q : Nat) h1 (h2 : ¬ (q = b + 1)) => hkp q h1 h2
          replace hO := hO.kept (hkp _ hO.lt (by omega))
          replace hOl := hOl.kept (fun q hq1 hq2 hq3 => hkp q hq1 (by omega))
          replace hPo := hPo.kept (hkp _ hPo.lt (by omega))
          replace hI := hI.kept (hkp _ hI.lt (by omega))
          replace hOr := hOr.kept (hkp _ hOr.lt (by omega))
          obtain ⟨R2, hR2⟩ : ∃ r9 : Nat → Nat, r9 = va_up R1 v (bu + rz * cnt vs 48) := ⟨_, rfl⟩
          have hMR2 : RwsAt g H b R2 := by rw [hR2]; exact hq
          clear hq
          refine lv_iinc (v := nI (v + 1)) (lv' := [(2, .int (nI (v + 1))), (0, .ref b), (1, .int (nI rz))]) hx hb dX7_phase_175 hl (k := 0) rfl (nI_1 v) (by decide) rfl (fun ls hl => ?_)
          refine lv_goto (tgt := 137) hx hb dX7_phase_178 (by decide) ?_
          exact ih (v + 1) (by omega) H _ R2 ch hO hMR2 hOl hOr hI hPo hch (by rw [hR2, va_up_ne _ _ (by omega), e1]) (fun w9 hw => by by_cases e9 : w9 = v; (rw [e9, hR2, va_up_self, if_pos hb1, Nat.mul_comm rz]); (rw [hR2, va_up_ne _ _ e9, e2 w9 (by omega)])) hS ls (lv_sub hl [0, 1, 2] rfl)
  have sd : ∀ (H : Heap) (locs : List Loc) (ch : Nat → Bool), obj g H b 7 (moF b th (nI bu) (nI bu) (nI (cnt vs 48)) (nI 0) py ln) → RwsAt g H b Rw → OldAt g H b c vs ap → xr_ia H (b + 8) (gI g) 16 (fun z9 => nI (ord0 z9)) → xr_ia H (b + 9) (gZ g) 16 (fun z9 => b2i (ch z9)) → xr_ia H (b + 10) (gZ g) 48 (fun z9 => b2i (pf0 z9)) → (∀ q, q < 16 → ch q = false) → va_S (fun q => q = b ∨ q = b + 1 ∨ b + 5 ≤ q ∧ q ≤ b + 10) s.heap H locs → ∀ ls : Array Slot, lv_has ls 3 [(0, .ref b), (1, .int (nI rz))] → W pgm l env { frames := 4, cells := 0, slots := 0, locals := 96 } s mid ([.ref b, .int (nI rz)] : List Value).toArray below meth cde H locs 0 0 (MQ below (xr_Post eI (fun r H => ∃ (n : Nat) (R1 : Nat → Nat) (ord : Nat → Nat) (ch : Nat → Bool) (py2 : Int32) (pf : Nat → Bool), r = nI (sg (fun i => c (ord i)) n) ∧ obj g H b 7 (moF b th (nI bu) (nI bu) (nI (cnt vs 48)) (nI n) py2 ln) ∧ RwsAt g H b R1 ∧ OldAt g H b c vs ap ∧ xr_ia H (b + 8) (gI g) 16 (fun z9 => nI (ord z9)) ∧ xr_ia H (b + 9) (gZ g) 16 (fun z9 => b2i (ch z9)) ∧ xr_ia H (b + 10) (gZ g) 48 (fun z9 => b2i (pf z9)) ∧ MWk c vs ap bu rz n R1 ord ch ∧ MRes c vs ap bu rz n (mkM R1 ord ch)) (fun q => q = b ∨ q = b + 1 ∨ b + 5 ≤ q ∧ q ≤ b + 10)) ([.ref b, .int (nI rz)] : List Value).toArray s ({ frames := 4, cells := 0, slots := 0, locals := 96 } : Room).cells ({ frames := 4, cells := 0, slots := 0, locals := 96 } : Room).slots (fun q => q = b ∨ q = b + 1 ∨ b + 5 ≤ q ∧ q ≤ b + 10)) (F0 mid 112 ls []) := by
    intro H locs ch hO hM1 hOl hOr hI hPo hch hS ls hl
    refine lv_aload_n hx hb dX7_phase_112 rfl (lv_at hl 0 rfl) ?_
    refine lv_sipush (v := 848) hx hb dX7_phase_113 (by decide) ?_
    refine xr_ti (x' := nI 848) rfl ?_
    refine lv_aload_n hx hb dX7_phase_116 rfl (lv_at hl 0 rfl) ?_
    refine va_get (D := g.1) (ci := 7) (v := .int (nI (cnt vs 48))) (C := RX7) (T := TX7) (N := 18) hx hb hts (by decide +kernel) hown hK.1 (xr_one hO) 0 rfl rfl 10 (by decide) (hts (.fieldLink RX7 123 "SharesDeskModel" "count" "I") (by decide +kernel)) (fun _ h9 => h9) rfl dX7_phase_117 ?_
    refine lv_if_ne (tgt := 127) hx hb dX7_phase_120 (by decide) (fun h2 => ?_) (fun h2 => ?_)
    · have hcz : ¬ cnt vs 48 = 0 := fun q => h2 (by rw [q]; rfl)
      refine lv_aload_n hx hb dX7_phase_127 rfl (lv_at hl 0 rfl) ?_
      refine va_get (D := g.1) (ci := 7) (v := .int (nI (cnt vs 48))) (C := RX7) (T := TX7) (N := 18) hx hb hts (by decide +kernel) hown hK.1 (xr_one hO) 0 rfl rfl 10 (by decide) (hts (.fieldLink RX7 123 "SharesDeskModel" "count" "I") (by decide +kernel)) (fun _ h9 => h9) rfl dX7_phase_128 ?_
      refine lv_i2l (v := lN (cnt vs 48)) hx hb dX7_phase_131 (nI_l (by omega)) ?_
      refine xr_Vv (rest := []) ⟨hx, hb, hml, hown, hts⟩ (KK_ok g) hK (c_X7_set l g H b th (nI bu) (nI bu) (nI (cnt vs 48)) (nI 0) (py) ln hO Rw hM1 848 (cnt vs 48) (by decide) (by omega)) (cwV 2 hts gX7_phase_X7_set rfl rfl rfl (by decide +kernel) ⟨Nat.le_of_ble_eq_true rfl, Nat.le_of_ble_eq_true rfl⟩) (xr_rec hK hO rfl) rfl hl.1 rfl (Nat.le_of_ble_eq_true rfl) dX7_phase_132 ⟨Nat.le_of_ble_eq_true rfl, Nat.le_of_ble_eq_true rfl⟩ hS (fun q h => by have h : q = b + 1 := h; show q = b ∨ q = b + 1 ∨ b + 5 ≤ q ∧ q ≤ b + 10; omega) (fun _ H locs hq hz hkp hS => ?_)
      replace hkp := fun (q : Nat) h1 (h2 : ¬ (q = b + 1)) => hkp q h1 h2
      replace hO := hO.kept (hkp _ hO.lt (by omega))
      replace hOl := hOl.kept (fun q hq1 hq2 hq3 => hkp q hq1 (by omega))
      replace hPo := hPo.kept (hkp _ hPo.lt (by omega))
      replace hI := hI.kept (hkp _ hI.lt (by omega))
      replace hOr := hOr.kept (hkp _ hOr.lt (by omega))
      obtain ⟨R2, hR2⟩ : ∃ r9 : Nat → Nat, r9 = va_up Rw 848 (cnt vs 48) := ⟨_, rfl⟩
      have hMR2 : RwsAt g H b R2 := by rw [hR2]; exact hq
      clear hq
      refine lv_iconst (v := 0) hx hb dX7_phase_135 (by decide) ?_
      refine xr_ti (x' := nI 0) rfl ?_
      refine lv_istore_n (lv' := [(2, .int (nI 0)), (0, .ref b), (1, .int (nI rz))]) hx hb dX7_phase_136 rfl hl (by decide) rfl (fun ls hl => ?_)
      exact l3 48 0 (by omega) H _ R2 ch hO hMR2 hOl hOr hI hPo hch (by rw [hR2, va_up_self, if_neg hcz]) (fun w9 hw => absurd hw (Nat.not_lt_zero _)) hS ls (lv_sub hl [0, 1, 2] rfl)
    · have hcz : cnt vs 48 = 0 := (nI_inj (b := 0) (by omega) (by decide)).mp h2
      refine lv_lconst (v := 1) hx hb dX7_phase_123 (by decide) ?_
      refine xr_tl (x' := lN 1) rfl ?_
      refine lv_goto (tgt := 132) hx hb dX7_phase_124 (by decide) ?_
      refine xr_Vv (rest := []) ⟨hx, hb, hml, hown, hts⟩ (KK_ok g) hK (c_X7_set l g H b th (nI bu) (nI bu) (nI (cnt vs 48)) (nI 0) (py) ln hO Rw hM1 848 (1) (by decide) (by omega)) (cwV 2 hts gX7_phase_X7_set rfl rfl rfl (by decide +kernel) ⟨Nat.le_of_ble_eq_true rfl, Nat.le_of_ble_eq_true rfl⟩) (xr_rec hK hO rfl) rfl hl.1 rfl (Nat.le_of_ble_eq_true rfl) dX7_phase_132 ⟨Nat.le_of_ble_eq_true rfl, Nat.le_of_ble_eq_true rfl⟩ hS (fun q h => by have h : q = b + 1 := h; show q = b ∨ q = b + 1 ∨ b + 5 ≤ q ∧ q ≤ b + 10; omega) (fun _ H locs hq hz hkp hS => ?_)
      replace hkp := fun (q : Nat) h1 (h2 : ¬ (q = b + 1)) => hkp q h1 h2
      replace hO := hO.kept (hkp _ hO.lt (by omega))
      replace hOl := hOl.kept (fun q hq1 hq2 hq3 => hkp q hq1 (by omega))
      replace hPo := hPo.kept (hkp _ hPo.lt (by omega))
      replace hI := hI.kept (hkp _ hI.lt (by omega))
      replace hOr := hOr.kept (hkp _ hOr.lt (by omega))
      obtain ⟨R2, hR2⟩ : ∃ r9 : Nat → Nat, r9 = va_up Rw 848 (1) := ⟨_, rfl⟩
      have hMR2 : RwsAt g H b R2 := by rw [hR2]; exact hq
      clear hq
      refine lv_iconst (v := 0) hx hb dX7_phase_135 (by decide) ?_
      refine xr_ti (x' := nI 0) rfl ?_
      refine lv_istore_n (lv' := [(2, .int (nI 0)), (0, .ref b), (1, .int (nI rz))]) hx hb dX7_phase_136 rfl hl (by decide) rfl (fun ls hl => ?_)
      exact l3 48 0 (by omega) H _ R2 ch hO hMR2 hOl hOr hI hPo hch (by rw [hR2, va_up_self, if_pos hcz]) (fun w9 hw => absurd hw (Nat.not_lt_zero _)) hS ls (lv_sub hl [0, 1, 2] rfl)
  have l2 : ∀ (k v : Nat), v + k = 48 → ∀ (H : Heap) (locs : List Loc) (ch : Nat → Bool) (fV : Nat → Bool) (fW : Nat → Nat), obj g H b 7 (moF b th (nI bu) (nI bu) (nI (cnt vs v)) (nI 0) py ln) → RwsAt g H b Rw → NewAt g H b c vs ap → xr_ia H (b + 5) (gI g) 16 (fun z9 => nI (c z9)) → xr_ia H (b + 6) (gZ g) 48 (fun z9 => b2i (fV z9)) → xr_ia H (b + 7) (gI g) 48 (fun z9 => nI (fW z9)) → xr_ia H (b + 8) (gI g) 16 (fun z9 => nI (ord0 z9)) → xr_ia H (b + 9) (gZ g) 16 (fun z9 => b2i (ch z9)) → xr_ia H (b + 10) (gZ g) 48 (fun z9 => b2i (pf0 z9)) → (∀ q, q < 16 → ch q = false) → (∀ j, j < v → fV j = vs.testBit j) → (∀ j, j < v → fW j = ap j) → va_S (fun q => q = b ∨ q = b + 1 ∨ b + 5 ≤ q ∧ q ≤ b + 10) s.heap H locs → ∀ ls : Array Slot, lv_has ls 3 [(2, .int (nI v)), (0, .ref b), (1, .int (nI rz))] → W pgm l env { frames := 4, cells := 0, slots := 0, locals := 96 } s mid ([.ref b, .int (nI rz)] : List Value).toArray below meth cde H locs 0 0 (MQ below (xr_Post eI (fun r H => ∃ (n : Nat) (R1 : Nat → Nat) (ord : Nat → Nat) (ch : Nat → Bool) (py2 : Int32) (pf : Nat → Bool), r = nI (sg (fun i => c (ord i)) n) ∧ obj g H b 7 (moF b th (nI bu) (nI bu) (nI (cnt vs 48)) (nI n) py2 ln) ∧ RwsAt g H b R1 ∧ OldAt g H b c vs ap ∧ xr_ia H (b + 8) (gI g) 16 (fun z9 => nI (ord z9)) ∧ xr_ia H (b + 9) (gZ g) 16 (fun z9 => b2i (ch z9)) ∧ xr_ia H (b + 10) (gZ g) 48 (fun z9 => b2i (pf z9)) ∧ MWk c vs ap bu rz n R1 ord ch ∧ MRes c vs ap bu rz n (mkM R1 ord ch)) (fun q => q = b ∨ q = b + 1 ∨ b + 5 ≤ q ∧ q ≤ b + 10)) ([.ref b, .int (nI rz)] : List Value).toArray s ({ frames := 4, cells := 0, slots := 0, locals := 96 } : Room).cells ({ frames := 4, cells := 0, slots := 0, locals := 96 } : Room).slots (fun q => q = b ∨ q = b + 1 ∨ b + 5 ≤ q ∧ q ≤ b + 10)) (F0 mid 53 ls []) := by
    intro k
    induction k with
    | zero =>
      intro v h1 H locs ch fV fW hO hM1 hNw hC hV hW hOr hI hPo hch e1 e2 hS ls hl
      have e : v = 48 := by omega
      subst e
      refine lv_iload_n hx hb dX7_phase_53 rfl (lv_at hl 0 rfl) ?_
      refine lv_bipush (v := 48) hx hb dX7_phase_54 (by decide) ?_
      refine lv_icmp_ge (tgt := 112) hx hb dX7_phase_56 (by decide) (fun hc => ?_) (fun hc => ?_)
      · clear hc
        exact sd H _ ch hO hM1 ⟨hC, hV.to (fun j hj => by rw [e1 j hj]), hW.to (fun j hj => by rw [e2 j hj]), hcb, hab⟩ hOr hI hPo hch hS ls (lv_sub hl [1, 2] rfl)
      · exact absurd (by decide) hc
    | succ k ih =>
      intro v h1 H locs ch fV fW hO hM1 hNw hC hV hW hOr hI hPo hch e1 e2 hS ls hl
      have hv48 : v < 48 := by omega
      obtain ⟨hNc, hNv, hNa, -, -⟩ := id hNw
      refine lv_iload_n hx hb dX7_phase_53 rfl (lv_at hl 0 rfl) ?_
      refine lv_bipush (v := 48) hx hb dX7_phase_54 (by decide) ?_
      refine lv_icmp_ge (tgt := 112) hx hb dX7_phase_56 (by decide) (fun hc => ?_) (fun hc => ?_)
      · exact absurd ((nI_leI (a := 48) (b := v) (by decide) (by omega)).mp hc) (by omega)
      · clear hc
        refine lv_aload_n hx hb dX7_phase_59 rfl (lv_at hl 1 rfl) ?_
        refine va_get (D := g.1) (ci := 7) (v := .ref (b + 6)) (C := RX7) (T := TX7) (N := 18) hx hb hts (by decide +kernel) hown hK.1 (xr_one hO) 0 rfl rfl 7 (by decide) (hts (.fieldLink RX7 30 "SharesDeskModel" "oldVoters" "[Z") (by decide +kernel)) (fun _ h9 => h9) rfl dX7_phase_60 ?_
        refine lv_iload_n hx hb dX7_phase_63 rfl (lv_at hl 0 rfl) ?_
        refine lv_aload_n hx hb dX7_phase_64 rfl (lv_at hl 1 rfl) ?_
        refine va_get (D := g.1) (ci := 7) (v := .ref (b + 3)) (C := RX7) (T := TX7) (N := 18) hx hb hts (by decide +kernel) hown hK.1 (xr_one hO) 0 rfl rfl 3 (by decide) (hts (.fieldLink RX7 16 "SharesDeskModel" "voters" "[Z") (by decide +kernel)) (fun _ h9 => h9) rfl dX7_phase_65 ?_
        refine lv_iload_n hx hb dX7_phase_68 rfl (lv_at hl 0 rfl) ?_
        refine xr_zrd hx hb hK hNv hv48 (by decide) dX7_phase_69 ?_
        refine xr_zwr hx hb hK hS (show b + 6 = b ∨ b + 6 = b + 1 ∨ b + 5 ≤ b + 6 ∧ b + 6 ≤ b + 10 by omega) hV hv48 (by decide) dX7_phase_70 (fun H locs hz hkp hV hS => ?_)
        replace hO := hO.kept (hkp _ (by omega))
        replace hNw := hNw.kept (fun q hq1 hq2 hq3 => hkp q (by omega))
        replace hC := hC.kept (hkp _ (by omega))
        replace hW := hW.kept (hkp _ (by omega))
        replace hOr := hOr.kept (hkp _ (by omega))
        replace hI := hI.kept (hkp _ (by omega))
        replace hPo := hPo.kept (hkp _ (by omega))
        replace hM1 := hM1.kept (hkp _ (by omega))
        obtain ⟨hNc, hNv, hNa, -, -⟩ := id hNw
        refine lv_aload_n hx hb dX7_phase_71 rfl (lv_at hl 1 rfl) ?_
        refine va_get (D := g.1) (ci := 7) (v := .ref (b + 7)) (C := RX7) (T := TX7) (N := 18) hx hb hts (by decide +kernel) hown hK.1 (xr_one hO) 0 rfl rfl 8 (by decide) (hts (.fieldLink RX7 33 "SharesDeskModel" "oldWishes" "[I") (by decide +kernel)) (fun _ h9 => h9) rfl dX7_phase_72 ?_
        refine lv_iload_n hx hb dX7_phase_75 rfl (lv_at hl 0 rfl) ?_
        refine lv_aload_n hx hb dX7_phase_76 rfl (lv_at hl 1 rfl) ?_
        refine va_get (D := g.1) (ci := 7) (v := .ref (b + 4)) (C := RX7) (T := TX7) (N := 18) hx hb hts (by decide +kernel) hown hK.1 (xr_one hO) 0 rfl rfl 4 (by decide) (hts (.fieldLink RX7 20 "SharesDeskModel" "wishes" "[I") (by decide +kernel)) (fun _ h9 => h9) rfl dX7_phase_77 ?_
        refine lv_iload_n hx hb dX7_phase_80 rfl (lv_at hl 0 rfl) ?_
        refine xr_rd hx hb hK hNa hv48 (by decide) dX7_phase_81 ?_
        refine xr_nwr hx hb hK hS (show b + 7 = b ∨ b + 7 = b + 1 ∨ b + 5 ≤ b + 7 ∧ b + 7 ≤ b + 10 by omega) hW hv48 (by decide) dX7_phase_82 (fun H locs hz hkp hW hS => ?_)
        replace hO := hO.kept (hkp _ (by omega))
        replace hNw := hNw.kept (fun q hq1 hq2 hq3 => hkp q (by omega))
        replace hC := hC.kept (hkp _ (by omega))
        replace hV := hV.kept (hkp _ (by omega))
        replace hOr := hOr.kept (hkp _ (by omega))
        replace hI := hI.kept (hkp _ (by omega))
        replace hPo := hPo.kept (hkp _ (by omega))
        replace hM1 := hM1.kept (hkp _ (by omega))
        obtain ⟨hNc, hNv, hNa, -, -⟩ := id hNw
        refine lv_aload_n hx hb dX7_phase_83 rfl (lv_at hl 1 rfl) ?_
        refine lv_dup hx hb dX7_phase_84 rfl ?_
        refine va_get (D := g.1) (ci := 7) (v := .int (nI (cnt vs v))) (C := RX7) (T := TX7) (N := 18) hx hb hts (by decide +kernel) hown hK.1 (xr_one hO) 0 rfl rfl 10 (by decide) (hts (.fieldLink RX7 123 "SharesDeskModel" "count" "I") (by decide +kernel)) (fun _ h9 => h9) rfl dX7_phase_85 ?_
        refine lv_aload_n hx hb dX7_phase_88 rfl (lv_at hl 1 rfl) ?_
        refine va_get (D := g.1) (ci := 7) (v := .ref (b + 3)) (C := RX7) (T := TX7) (N := 18) hx hb hts (by decide +kernel) hown hK.1 (xr_one hO) 0 rfl rfl 3 (by decide) (hts (.fieldLink RX7 16 "SharesDeskModel" "voters" "[Z") (by decide +kernel)) (fun _ h9 => h9) rfl dX7_phase_89 ?_
        refine lv_iload_n hx hb dX7_phase_92 rfl (lv_at hl 0 rfl) ?_
        refine xr_zrd hx hb hK hNv hv48 (by decide) dX7_phase_93 ?_
        refine lv_if_eq (tgt := 101) hx hb dX7_phase_94 (by decide) (fun h2 => ?_) (fun h2 => ?_)
        · have hb0 : vs.testBit v = false := b2i_0.mp h2
          refine lv_iconst (v := 0) hx hb dX7_phase_101 (by decide) ?_
          refine xr_ti (x' := nI 0) rfl ?_
          refine lv_iadd hx hb dX7_phase_102 ?_
          refine xr_ti (x' := nI (cnt vs (v + 1))) (by rw [nI_add, cnt_n hb0, Nat.add_zero]) ?_
          refine xr_put (ci := 7) (v := .int (nI (cnt vs (v + 1)))) (ty := .int) (C := RX7) (T := TX7) (N := 18) hx hb hts (by decide +kernel) tyX7 tyX7_ok nmX7 hown hK.1 hO hS (Or.inl rfl) rfl 10 (by decide) (hts (.fieldLink RX7 123 "SharesDeskModel" "count" "I") (by decide +kernel)) rfl (by decide +kernel) rfl rfl (Nat.le_of_ble_eq_true rfl) dX7_phase_103 (fun H locs hz hkp hO hS => ?_)
          replace hNw := hNw.kept (fun q hq1 hq2 hq3 => hkp q (by omega))
          replace hC := hC.kept (hkp _ (by omega))
          replace hV := hV.kept (hkp _ (by omega))
          replace hW := hW.kept (hkp _ (by omega))
          replace hOr := hOr.kept (hkp _ (by omega))
          replace hI := hI.kept (hkp _ (by omega))
          replace hPo := hPo.kept (hkp _ (by omega))
          replace hM1 := hM1.kept (hkp _ (by omega))
          refine lv_iinc (v := nI (v + 1)) (lv' := [(2, .int (nI (v + 1))), (0, .ref b), (1, .int (nI rz))]) hx hb dX7_phase_106 hl (k := 0) rfl (nI_1 v) (by decide) rfl (fun ls hl => ?_)
          refine lv_goto (tgt := 53) hx hb dX7_phase_109 (by decide) ?_
          exact ih (v + 1) (by omega) H _ ch _ _ hO hM1 hNw hC hV hW hOr hI hPo hch (up_upto e1) (up_upto e2) hS ls (lv_sub hl [0, 1, 2] rfl)
        · have hb1 : vs.testBit v = true := b2i_n0.mp h2
          refine lv_iconst (v := 1) hx hb dX7_phase_97 (by decide) ?_
          refine xr_ti (x' := nI 1) rfl ?_
          refine lv_goto (tgt := 102) hx hb dX7_phase_98 (by decide) ?_
          refine lv_iadd hx hb dX7_phase_102 ?_
          refine xr_ti (x' := nI (cnt vs (v + 1))) (by rw [nI_add, cnt_y hb1]) ?_
          refine xr_put (ci := 7) (v := .int (nI (cnt vs (v + 1)))) (ty := .int) (C := RX7) (T := TX7) (N := 18) hx hb hts (by decide +kernel) tyX7 tyX7_ok nmX7 hown hK.1 hO hS (Or.inl rfl) rfl 10 (by decide) (hts (.fieldLink RX7 123 "SharesDeskModel" "count" "I") (by decide +kernel)) rfl (by decide +kernel) rfl rfl (Nat.le_of_ble_eq_true rfl) dX7_phase_103 (fun H locs hz hkp hO hS => ?_)
          replace hNw := hNw.kept (fun q hq1 hq2 hq3 => hkp q (by omega))
          replace hC := hC.kept (hkp _ (by omega))
          replace hV := hV.kept (hkp _ (by omega))
          replace hW := hW.kept (hkp _ (by omega))
          replace hOr := hOr.kept (hkp _ (by omega))
          replace hI := hI.kept (hkp _ (by omega))
          replace hPo := hPo.kept (hkp _ (by omega))
          replace hM1 := hM1.kept (hkp _ (by omega))
          refine lv_iinc (v := nI (v + 1)) (lv' := [(2, .int (nI (v + 1))), (0, .ref b), (1, .int (nI rz))]) hx hb dX7_phase_106 hl (k := 0) rfl (nI_1 v) (by decide) rfl (fun ls hl => ?_)
          refine lv_goto (tgt := 53) hx hb dX7_phase_109 (by decide) ?_
          exact ih (v + 1) (by omega) H _ ch _ _ hO hM1 hNw hC hV hW hOr hI hPo hch (up_upto e1) (up_upto e2) hS ls (lv_sub hl [0, 1, 2] rfl)
  have l1 : ∀ (k p : Nat), p + k = 16 → ∀ (H : Heap) (locs : List Loc) (ch : Nat → Bool) (fC : Nat → Nat), obj g H b 7 (moF b th (nI bu) (nI bu) (nI 0) (nI 0) py ln) → RwsAt g H b Rw → NewAt g H b c vs ap → xr_ia H (b + 5) (gI g) 16 (fun z9 => nI (fC z9)) → xr_ia H (b + 6) (gZ g) 48 (fun z9 => b2i (vs1.testBit z9)) → xr_ia H (b + 7) (gI g) 48 (fun z9 => nI (ap1 z9)) → xr_ia H (b + 8) (gI g) 16 (fun z9 => nI (ord0 z9)) → xr_ia H (b + 9) (gZ g) 16 (fun z9 => b2i (ch z9)) → xr_ia H (b + 10) (gZ g) 48 (fun z9 => b2i (pf0 z9)) → (∀ q, q < p → ch q = false) → (∀ j, j < p → fC j = c j) → va_S (fun q => q = b ∨ q = b + 1 ∨ b + 5 ≤ q ∧ q ≤ b + 10) s.heap H locs → ∀ ls : Array Slot, lv_has ls 3 [(2, .int (nI p)), (0, .ref b), (1, .int (nI rz))] → W pgm l env { frames := 4, cells := 0, slots := 0, locals := 96 } s mid ([.ref b, .int (nI rz)] : List Value).toArray below meth cde H locs 0 0 (MQ below (xr_Post eI (fun r H => ∃ (n : Nat) (R1 : Nat → Nat) (ord : Nat → Nat) (ch : Nat → Bool) (py2 : Int32) (pf : Nat → Bool), r = nI (sg (fun i => c (ord i)) n) ∧ obj g H b 7 (moF b th (nI bu) (nI bu) (nI (cnt vs 48)) (nI n) py2 ln) ∧ RwsAt g H b R1 ∧ OldAt g H b c vs ap ∧ xr_ia H (b + 8) (gI g) 16 (fun z9 => nI (ord z9)) ∧ xr_ia H (b + 9) (gZ g) 16 (fun z9 => b2i (ch z9)) ∧ xr_ia H (b + 10) (gZ g) 48 (fun z9 => b2i (pf z9)) ∧ MWk c vs ap bu rz n R1 ord ch ∧ MRes c vs ap bu rz n (mkM R1 ord ch)) (fun q => q = b ∨ q = b + 1 ∨ b + 5 ≤ q ∧ q ≤ b + 10)) ([.ref b, .int (nI rz)] : List Value).toArray s ({ frames := 4, cells := 0, slots := 0, locals := 96 } : Room).cells ({ frames := 4, cells := 0, slots := 0, locals := 96 } : Room).slots (fun q => q = b ∨ q = b + 1 ∨ b + 5 ≤ q ∧ q ≤ b + 10)) (F0 mid 20 ls []) := by
    intro k
    induction k with
    | zero =>
      intro p h1 H locs ch fC hO hM1 hNw hC hV hW hOr hI hPo hch e1 hS ls hl
      have e : p = 16 := by omega
      subst e
      refine lv_iload_n hx hb dX7_phase_20 rfl (lv_at hl 0 rfl) ?_
      refine lv_bipush (v := 16) hx hb dX7_phase_21 (by decide) ?_
      refine lv_icmp_ge (tgt := 51) hx hb dX7_phase_23 (by decide) (fun hc => ?_) (fun hc => ?_)
      · clear hc
        refine lv_iconst (v := 0) hx hb dX7_phase_51 (by decide) ?_
        refine xr_ti (x' := nI 0) rfl ?_
        refine lv_istore_n (lv' := [(2, .int (nI 0)), (0, .ref b), (1, .int (nI rz))]) hx hb dX7_phase_52 rfl hl (by decide) rfl (fun ls hl => ?_)
        exact l2 48 0 (by omega) H _ ch _ _ hO hM1 hNw (hC.to (fun j hj => by rw [e1 j hj])) hV hW hOr hI hPo hch (fun j hj => absurd hj (Nat.not_lt_zero _)) (fun j hj => absurd hj (Nat.not_lt_zero _)) hS ls (lv_sub hl [0, 1, 2] rfl)
      · exact absurd (by decide) hc
    | succ k ih =>
      intro p h1 H locs ch fC hO hM1 hNw hC hV hW hOr hI hPo hch e1 hS ls hl
      have hp : p < 16 := by omega
      obtain ⟨hNc, hNv, hNa, -, -⟩ := id hNw
      refine lv_iload_n hx hb dX7_phase_20 rfl (lv_at hl 0 rfl) ?_
      refine lv_bipush (v := 16) hx hb dX7_phase_21 (by decide) ?_
      refine lv_icmp_ge (tgt := 51) hx hb dX7_phase_23 (by decide) (fun hc => ?_) (fun hc => ?_)
      · exact absurd ((nI_leI (a := 16) (b := p) (by decide) (by omega)).mp hc) (by omega)
      · clear hc
        refine lv_aload_n hx hb dX7_phase_26 rfl (lv_at hl 1 rfl) ?_
        refine va_get (D := g.1) (ci := 7) (v := .ref (b + 5)) (C := RX7) (T := TX7) (N := 18) hx hb hts (by decide +kernel) hown hK.1 (xr_one hO) 0 rfl rfl 6 (by decide) (hts (.fieldLink RX7 27 "SharesDeskModel" "oldCosts" "[I") (by decide +kernel)) (fun _ h9 => h9) rfl dX7_phase_27 ?_
        refine lv_iload_n hx hb dX7_phase_30 rfl (lv_at hl 0 rfl) ?_
        refine lv_aload_n hx hb dX7_phase_31 rfl (lv_at hl 1 rfl) ?_
        refine va_get (D := g.1) (ci := 7) (v := .ref (b + 2)) (C := RX7) (T := TX7) (N := 18) hx hb hts (by decide +kernel) hown hK.1 (xr_one hO) 0 rfl rfl 2 (by decide) (hts (.fieldLink RX7 13 "SharesDeskModel" "costs" "[I") (by decide +kernel)) (fun _ h9 => h9) rfl dX7_phase_32 ?_
        refine lv_iload_n hx hb dX7_phase_35 rfl (lv_at hl 0 rfl) ?_
        refine xr_rd hx hb hK hNc hp (by decide) dX7_phase_36 ?_
        refine xr_nwr hx hb hK hS (show b + 5 = b ∨ b + 5 = b + 1 ∨ b + 5 ≤ b + 5 ∧ b + 5 ≤ b + 10 by omega) hC hp (by decide) dX7_phase_37 (fun H locs hz hkp hC hS => ?_)
        replace hO := hO.kept (hkp _ (by omega))
        replace hNw := hNw.kept (fun q hq1 hq2 hq3 => hkp q (by omega))
        replace hV := hV.kept (hkp _ (by omega))
        replace hW := hW.kept (hkp _ (by omega))
        replace hOr := hOr.kept (hkp _ (by omega))
        replace hI := hI.kept (hkp _ (by omega))
        replace hPo := hPo.kept (hkp _ (by omega))
        replace hM1 := hM1.kept (hkp _ (by omega))
        refine lv_aload_n hx hb dX7_phase_38 rfl (lv_at hl 1 rfl) ?_
        refine va_get (D := g.1) (ci := 7) (v := .ref (b + 9)) (C := RX7) (T := TX7) (N := 18) hx hb hts (by decide +kernel) hown hK.1 (xr_one hO) 0 rfl rfl 13 (by decide) (hts (.fieldLink RX7 42 "SharesDeskModel" "isChosen" "[Z") (by decide +kernel)) (fun _ h9 => h9) rfl dX7_phase_39 ?_
        refine lv_iload_n hx hb dX7_phase_42 rfl (lv_at hl 0 rfl) ?_
        refine lv_iconst (v := 0) hx hb dX7_phase_43 (by decide) ?_
        refine xr_ti (x' := b2i false) rfl ?_
        refine xr_zwr hx hb hK hS (show b + 9 = b ∨ b + 9 = b + 1 ∨ b + 5 ≤ b + 9 ∧ b + 9 ≤ b + 10 by omega) hI hp (by decide) dX7_phase_44 (fun H locs hz hkp hI hS => ?_)
        replace hO := hO.kept (hkp _ (by omega))
        replace hNw := hNw.kept (fun q hq1 hq2 hq3 => hkp q (by omega))
        replace hC := hC.kept (hkp _ (by omega))
        replace hV := hV.kept (hkp _ (by omega))
        replace hW := hW.kept (hkp _ (by omega))
        replace hOr := hOr.kept (hkp _ (by omega))
        replace hPo := hPo.kept (hkp _ (by omega))
        replace hM1 := hM1.kept (hkp _ (by omega))
        refine lv_iinc (v := nI (p + 1)) (lv' := [(2, .int (nI (p + 1))), (0, .ref b), (1, .int (nI rz))]) hx hb dX7_phase_45 hl (k := 0) rfl (nI_1 p) (by decide) rfl (fun ls hl => ?_)
        refine lv_goto (tgt := 20) hx hb dX7_phase_48 (by decide) ?_
        exact ih (p + 1) (by omega) H _ _ _ hO hM1 hNw hC hV hW hOr hI hPo (up_upto (g := fun _ => false) hch) (up_upto e1) hS ls (lv_sub hl [0, 1, 2] rfl)
  obtain ⟨hC, hV, hW, -, -⟩ := id hOl
  refine lv_aload_n hx hb dX7_phase_0 rfl (lv_at hl 0 rfl) ?_
  refine lv_iconst (v := 0) hx hb dX7_phase_1 (by decide) ?_
  refine xr_ti (x' := nI 0) rfl ?_
  refine xr_put (ci := 7) (v := .int (nI 0)) (ty := .int) (C := RX7) (T := TX7) (N := 18) hx hb hts (by decide +kernel) tyX7 tyX7_ok nmX7 hown hK.1 hO hS (Or.inl rfl) rfl 10 (by decide) (hts (.fieldLink RX7 123 "SharesDeskModel" "count" "I") (by decide +kernel)) rfl (by decide +kernel) rfl rfl (Nat.le_of_ble_eq_true rfl) dX7_phase_2 (fun H locs hz hkp hO hS => ?_)
  replace hNw := hNw.kept (fun q hq1 hq2 hq3 => hkp q (by omega))
  replace hC := hC.kept (hkp _ (by omega))
  replace hV := hV.kept (hkp _ (by omega))
  replace hW := hW.kept (hkp _ (by omega))
  replace hOr := hOr.kept (hkp _ (by omega))
  replace hI := hI.kept (hkp _ (by omega))
  replace hPo := hPo.kept (hkp _ (by omega))
  replace hM := hM.kept (hkp _ (by omega))
  refine lv_aload_n hx hb dX7_phase_5 rfl (lv_at hl 0 rfl) ?_
  refine lv_iconst (v := 0) hx hb dX7_phase_6 (by decide) ?_
  refine xr_ti (x' := nI 0) rfl ?_
  refine xr_put (ci := 7) (v := .int (nI 0)) (ty := .int) (C := RX7) (T := TX7) (N := 18) hx hb hts (by decide +kernel) tyX7 tyX7_ok nmX7 hown hK.1 hO hS (Or.inl rfl) rfl 11 (by decide) (hts (.fieldLink RX7 120 "SharesDeskModel" "rounds" "I") (by decide +kernel)) rfl (by decide +kernel) rfl rfl (Nat.le_of_ble_eq_true rfl) dX7_phase_7 (fun H locs hz hkp hO hS => ?_)
  replace hNw := hNw.kept (fun q hq1 hq2 hq3 => hkp q (by omega))
  replace hC := hC.kept (hkp _ (by omega))
  replace hV := hV.kept (hkp _ (by omega))
  replace hW := hW.kept (hkp _ (by omega))
  replace hOr := hOr.kept (hkp _ (by omega))
  replace hI := hI.kept (hkp _ (by omega))
  replace hPo := hPo.kept (hkp _ (by omega))
  replace hM := hM.kept (hkp _ (by omega))
  refine lv_aload_n hx hb dX7_phase_10 rfl (lv_at hl 0 rfl) ?_
  refine lv_aload_n hx hb dX7_phase_11 rfl (lv_at hl 0 rfl) ?_
  refine va_get (D := g.1) (ci := 7) (v := .int (nI bu)) (C := RX7) (T := TX7) (N := 18) hx hb hts (by decide +kernel) hown hK.1 (xr_one hO) 0 rfl rfl 5 (by decide) (hts (.fieldLink RX7 23 "SharesDeskModel" "budget" "I") (by decide +kernel)) (fun _ h9 => h9) rfl dX7_phase_12 ?_
  refine xr_put (ci := 7) (v := .int (nI bu)) (ty := .int) (C := RX7) (T := TX7) (N := 18) hx hb hts (by decide +kernel) tyX7 tyX7_ok nmX7 hown hK.1 hO hS (Or.inl rfl) rfl 9 (by decide) (hts (.fieldLink RX7 36 "SharesDeskModel" "oldBudget" "I") (by decide +kernel)) rfl (by decide +kernel) rfl rfl (Nat.le_of_ble_eq_true rfl) dX7_phase_15 (fun H locs hz hkp hO hS => ?_)
  replace hNw := hNw.kept (fun q hq1 hq2 hq3 => hkp q (by omega))
  replace hC := hC.kept (hkp _ (by omega))
  replace hV := hV.kept (hkp _ (by omega))
  replace hW := hW.kept (hkp _ (by omega))
  replace hOr := hOr.kept (hkp _ (by omega))
  replace hI := hI.kept (hkp _ (by omega))
  replace hPo := hPo.kept (hkp _ (by omega))
  replace hM := hM.kept (hkp _ (by omega))
  refine lv_iconst (v := 0) hx hb dX7_phase_18 (by decide) ?_
  refine xr_ti (x' := nI 0) rfl ?_
  refine lv_istore_n (lv' := [(2, .int (nI 0)), (0, .ref b), (1, .int (nI rz))]) hx hb dX7_phase_19 rfl hl (by decide) rfl (fun ls hl => ?_)
  exact l1 16 0 (by omega) H _ ch0 c1 hO hM hNw hC hV hW hOr hI hPo (fun j hj => absurd hj (Nat.not_lt_zero _)) (fun j hj => absurd hj (Nat.not_lt_zero _)) hS ls (lv_sub hl [0, 1, 2] rfl)
