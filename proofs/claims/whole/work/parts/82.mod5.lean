set_option maxHeartbeats 1000000 in
set_option maxRecDepth 100000 in
theorem c_X7_next (l : Launch) (g : WG) (H0 : Heap) (b : Nat) (th bu ob cn rn py ln : Int32) (hO : obj g H0 b 7 (moF b th bu ob cn rn py ln)) (Rw : Nat → Nat) (hM : RwsAt g H0 b Rw) (c : Nat → Nat) (vs : Nat) (ap : Nat → Nat) (hOl : OldAt g H0 b c vs ap) (hBd : BdR Rw) (ch : Nat → Bool) (hI : xr_ia H0 (b + 9) (gZ g) 16 (fun z9 => b2i (ch z9))) (hPo : ∃ pf0 : Nat → Bool, xr_ia H0 (b + 10) (gZ g) 48 (fun z9 => b2i (pf0 z9))) (hD0 : 0 < Rw 848) : Ctr l (KK g) yX7_next wsX7_next { frames := 3, cells := 0, slots := 0, locals := 71 } [.ref b] H0 eI (fun r H => ∃ (S : Nat → Nat × Nat) (R1 : Nat → Nat) (py2 : Int32) (pf : Nat → Bool), r = nxB (mxGo S (affB c vs ap (Rw 848) Rw ch) c 16) ∧ (∀ q, q < 16 → (affB c vs ap (Rw 848) Rw ch) q = true → IsSh (sqp vs ap q) Rw (Rw 848 * c q) (S q).1 (S q).2) ∧ obj g H b 7 (moF b th bu ob cn rn py2 ln) ∧ RwsAt g H b R1 ∧ xr_ia H (b + 10) (gZ g) 48 (fun z9 => b2i (pf z9)) ∧ ∀ j, j < 849 → R1 j = Rw j) (fun q => q = b ∨ q = b + 1 ∨ q = b + 10) := by
  refine xr_enter (cc := cX7_next) (maxL := 6) (ret := (some .int)) (by decide) rfl (Nat.le_of_ble_eq_true rfl) ?_
  intro pgm env s mid below meth cde hx hb hr hml hts hown hlocks hnm hH hK ls hl
  subst hH
  have hl : lv_has ls 6 [(0, .ref b)] := hl
  have hS : va_S (fun q => q = b ∨ q = b + 1 ∨ q = b + 10) s.heap s.heap [] := va_S.rf
  obtain ⟨hf, hRb⟩ := id hM
  obtain ⟨hC, hV, hW, hcb, hab⟩ := id hOl
  obtain ⟨pf0, hPo⟩ := hPo
  have loop : ∀ (n p : Nat), p + n = 16 → ∀ (H : Heap) (locs : List Loc) (S : Nat → Nat × Nat) (R1 : Nat → Nat) (py2 : Int32) (pf : Nat → Bool), obj g H b 7 (moF b th bu ob cn rn py2 ln) → RwsAt g H b R1 → OldAt g H b c vs ap → xr_ia H (b + 9) (gZ g) 16 (fun z9 => b2i (ch z9)) → xr_ia H (b + 10) (gZ g) 48 (fun z9 => b2i (pf z9)) → (∀ q, q < p → (affB c vs ap (Rw 848) Rw ch) q = true → IsSh (sqp vs ap q) Rw (Rw 848 * c q) (S q).1 (S q).2) → (∀ j, j < 849 → R1 j = Rw j) → (∀ w, mxGo S (affB c vs ap (Rw 848) Rw ch) c p = some w → R1 858 = w.2.1) → va_S (fun q => q = b ∨ q = b + 1 ∨ q = b + 10) s.heap H locs → ∀ ls : Array Slot, lv_has ls 6 [(3, .int (nI p)), (1, .int (nxB (mxGo S (affB c vs ap (Rw 848) Rw ch) c p))), (2, .int (nxK (mxGo S (affB c vs ap (Rw 848) Rw ch) c p))), (0, .ref b)] → W pgm l env { frames := 3, cells := 0, slots := 0, locals := 71 } s mid ([.ref b] : List Value).toArray below meth cde H locs 0 0 (MQ below (xr_Post eI (fun r H => ∃ (S : Nat → Nat × Nat) (R1 : Nat → Nat) (py2 : Int32) (pf : Nat → Bool), r = nxB (mxGo S (affB c vs ap (Rw 848) Rw ch) c 16) ∧ (∀ q, q < 16 → (affB c vs ap (Rw 848) Rw ch) q = true → IsSh (sqp vs ap q) Rw (Rw 848 * c q) (S q).1 (S q).2) ∧ obj g H b 7 (moF b th bu ob cn rn py2 ln) ∧ RwsAt g H b R1 ∧ xr_ia H (b + 10) (gZ g) 48 (fun z9 => b2i (pf z9)) ∧ ∀ j, j < 849 → R1 j = Rw j) (fun q => q = b ∨ q = b + 1 ∨ q = b + 10)) ([.ref b] : List Value).toArray s ({ frames := 3, cells := 0, slots := 0, locals := 71 } : Room).cells ({ frames := 3, cells := 0, slots := 0, locals := 71 } : Room).slots (fun q => q = b ∨ q = b + 1 ∨ q = b + 10)) (F0 mid 6 ls []) := by
    intro n
    induction n with
    | zero =>
      intro p h1 H locs S R1 py2 pf hO hM1 hOl hI hPo hSk eo eb hS ls hl
      have e : p = 16 := by omega
      subst e
      refine lv_iload_n hx hb dX7_next_6 rfl (lv_at hl 0 rfl) ?_
      refine lv_bipush (v := 16) hx hb dX7_next_7 (by decide) ?_
      refine lv_icmp_ge (tgt := 143) hx hb dX7_next_9 (by decide) (fun hc => ?_) (fun hc => ?_)
      · clear hc
        refine lv_iload_n hx hb dX7_next_143 rfl (lv_at hl 1 rfl) ?_
        exact xr_iret hx hb hr hlocks hS ⟨S, R1, py2, pf, rfl, hSk, hO, hM1, hPo, eo⟩ dX7_next_144
      · exact absurd (by decide) hc
    | succ n ih =>
      intro p h1 H locs S R1 py2 pf hO hM1 hOl hI hPo hSk eo eb hS ls hl
      have hp : p < 16 := by omega
      have hcp := hcb p hp
      have hB1 := hBd.ext eo
      have e8 : R1 848 = Rw 848 := eo 848 (by decide)
      have hafe := affB_congr (c := c) (vs := vs) (ap := ap) (ch := ch) (q := p) e8 (fun v hv => eo v (by omega))
      refine lv_iload_n hx hb dX7_next_6 rfl (lv_at hl 0 rfl) ?_
      refine lv_bipush (v := 16) hx hb dX7_next_7 (by decide) ?_
      refine lv_icmp_ge (tgt := 143) hx hb dX7_next_9 (by decide) (fun hc => ?_) (fun hc => ?_)
      · exact absurd ((nI_leI (a := 16) (b := p) (by decide) (by omega)).mp hc) (by omega)
      · clear hc
        refine lv_aload_n hx hb dX7_next_12 rfl (lv_at hl 3 rfl) ?_
        refine lv_iload_n hx hb dX7_next_13 rfl (lv_at hl 0 rfl) ?_
        refine xr_Vi (rest := []) ⟨hx, hb, hml, hown, hts⟩ (KK_ok g) hK (c_X7_isAfforded l g H b th bu ob cn rn (py2) ln hO R1 hM1 c vs ap hOl hB1 ch hI p hp) (cwV 1 hts gX7_next_X7_isAfforded rfl rfl rfl (by decide +kernel) ⟨Nat.le_of_ble_eq_true rfl, Nat.le_of_ble_eq_true rfl⟩) (xr_rec hK hO rfl) rfl hl.1 rfl (Nat.le_of_ble_eq_true rfl) dX7_next_14 ⟨Nat.le_of_ble_eq_true rfl, Nat.le_of_ble_eq_true rfl⟩ hS (fun q h => by have h : q = b + 1 := h; show q = b ∨ q = b + 1 ∨ q = b + 10; omega) (fun r H locs hq hz hkp hS => ?_)
        replace hkp := fun (q : Nat) h1 (h2 : ¬ (q = b + 1)) => hkp q h1 h2
        replace hO := hO.kept (hkp _ hO.lt (by omega))
        replace hOl := hOl.kept (fun q hq1 hq2 hq3 => hkp q hq1 (by omega))
        replace hPo := hPo.kept (hkp _ hPo.lt (by omega))
        replace hI := hI.kept (hkp _ hI.lt (by omega))
        obtain ⟨rfl, R2, hM2, f2⟩ := hq
        rw [hafe]
        have eo2 : ∀ j, j < 849 → R2 j = Rw j := fun j hj => by rw [f2 j (by omega) (by omega), eo j hj]
        refine lv_if_ne (tgt := 23) hx hb dX7_next_17 (by decide) (fun h2 => ?_) (fun h2 => ?_)
        · have ea : (affB c vs ap (Rw 848) Rw ch) p = true := b2i_n0.mp h2
          obtain ⟨a1, a2, a3⟩ := affB_ch ea
          have hB2 := hBd.ext eo2
          have e82 : R2 848 = Rw 848 := eo2 848 (by decide)
          refine lv_aload_n hx hb dX7_next_23 rfl (lv_at hl 3 rfl) ?_
          refine lv_iload_n hx hb dX7_next_24 rfl (lv_at hl 0 rfl) ?_
          refine xr_Vv (rest := []) ⟨hx, hb, hml, hown, hts⟩ (KK_ok g) hK (c_X7_share l g H b th bu ob cn rn (py2) ln hO R2 hM2 c vs ap hOl hB2 ⟨_, hPo⟩ p hp a1 (by rw [e82]; exact hD0) (by rw [e82, sg_su (fun v hv => eo2 v (by omega))]; exact a3)) (cwV 1 hts gX7_next_X7_share rfl rfl rfl (by decide +kernel) ⟨Nat.le_of_ble_eq_true rfl, Nat.le_of_ble_eq_true rfl⟩) (xr_rec hK hO rfl) rfl hl.1 rfl (Nat.le_of_ble_eq_true rfl) dX7_next_25 ⟨Nat.le_of_ble_eq_true rfl, Nat.le_of_ble_eq_true rfl⟩ hS (fun q h => h) (fun _ H locs hq hz hkp hS => ?_)
          replace hkp := fun (q : Nat) h1 (h2 : ¬ (q = b ∨ q = b + 1 ∨ q = b + 10)) => hkp q h1 h2
          replace hOl := hOl.kept (fun q hq1 hq2 hq3 => hkp q hq1 (by omega))
          replace hI := hI.kept (hkp _ hI.lt (by omega))
          obtain ⟨R3, r, k, pf3, hO, hM3, hPo, hsh, f3, hk48, -, f4⟩ := hq
          rw [e82] at hsh
          have hsh := hsh.ext (fun v hv => eo2 v (by omega))
          have eo3 : ∀ j, j < 849 → R3 j = Rw j := fun j hj => by rw [f4 j (by omega) (by omega) (by omega), eo2 j hj]
          have eb3 : R3 858 = R1 858 := by rw [f4 858 (by decide) (by decide) (by decide), f2 858 (by decide) (by decide)]
          have hrb : r ≤ 2 ^ 125 * 1000000 := Nat.le_trans hsh.kle.2 (Nat.mul_le_mul hBd.2 hcp)
          have hS2 : ∀ q, q < p + 1 → (affB c vs ap (Rw 848) Rw ch) q = true → IsSh (sqp vs ap q) Rw (Rw 848 * c q) (va_up S p (r, k) q).1 (va_up S p (r, k) q).2 := fun q hq9 hq8 => by
            by_cases e9 : q = p
            · subst e9
              rw [va_up_self]
              exact hsh
            · rw [va_up_ne _ _ e9]
              exact hSk q (by omega) hq8
          have hmx : mxGo (va_up S p (r, k)) (affB c vs ap (Rw 848) Rw ch) c (p + 1) = mxSt (va_up S p (r, k)) c p (mxGo S (affB c vs ap (Rw 848) Rw ch) c p) := by
            rw [mxGo, if_neg (by rw [ea]; decide), mxGo_congr (S := va_up S p (r, k)) (S2 := S) p (fun q hq9 _ => va_up_ne _ _ (by omega))]
          clear hM1 hM2
          cases hz9 : mxGo S (affB c vs ap (Rw 848) Rw ch) c p with
          | none =>
            rw [hz9] at hl hmx
            have hl : lv_has ls 6 [(3, .int (nI p)), (1, .int (-1)), (2, .int 1), (0, .ref b)] := hl
            have g0 := eo3
            have g1 := f3
            have hmx : mxGo (va_up S p (r, k)) (affB c vs ap (Rw 848) Rw ch) c (p + 1) = some (p, va_up S p (r, k) p) := hmx
            refine lv_iload_n hx hb dX7_next_28 rfl (lv_at hl 1 rfl) ?_
            refine lv_if_ge (tgt := 36) hx hb dX7_next_29 (by decide) (fun h5 => ?_) (fun h5 => ?_)
            · exact absurd h5 (by decide)
            · clear h5
              refine lv_iconst (v := 1) hx hb dX7_next_32 (by decide) ?_
              refine lv_goto (tgt := 37) hx hb dX7_next_33 (by decide) ?_
              refine lv_istore (lv' := [(4, .int 1), (3, .int (nI p)), (1, .int (-1)), (2, .int 1), (0, .ref b)]) hx hb dX7_next_37 hl (by decide) rfl (fun ls hl => ?_)
              refine lv_iload_n hx hb dX7_next_39 rfl (lv_at hl 2 rfl) ?_
              refine lv_if_lt (tgt := 112) hx hb dX7_next_40 (by decide) (fun h5 => ?_) (fun h5 => ?_)
              · clear h5
                refine lv_iload hx hb dX7_next_112 (lv_at hl 0 rfl) ?_
                refine lv_if_ne (tgt := 120) hx hb dX7_next_114 (by decide) (fun h6 => ?_) (fun h6 => ?_)
                · clear h6
                  refine lv_iload_n hx hb dX7_next_120 rfl (lv_at hl 1 rfl) ?_
                  refine lv_istore_n (lv' := [(1, .int (nI p)), (4, .int 1), (3, .int (nI p)), (2, .int 1), (0, .ref b)]) hx hb dX7_next_121 rfl hl (by decide) rfl (fun ls hl => ?_)
                  refine lv_aload_n hx hb dX7_next_122 rfl (lv_at hl 4 rfl) ?_
                  refine va_get (D := g.1) (ci := 7) (v := .int (nI k)) (C := RX7) (T := TX7) (N := 18) hx hb hts (by decide +kernel) hown hK.1 (xr_one hO) 0 rfl rfl 15 (by decide) (hts (.fieldLink RX7 111 "SharesDeskModel" "payers" "I") (by decide +kernel)) (fun _ h9 => h9) rfl dX7_next_123 ?_
                  refine lv_istore_n (lv' := [(2, .int (nI k)), (1, .int (nI p)), (4, .int 1), (3, .int (nI p)), (0, .ref b)]) hx hb dX7_next_126 rfl hl (by decide) rfl (fun ls hl => ?_)
                  refine lv_aload_n hx hb dX7_next_127 rfl (lv_at hl 4 rfl) ?_
                  refine lv_sipush (v := 858) hx hb dX7_next_128 (by decide) ?_
                  refine xr_ti (x' := nI 858) rfl ?_
                  refine lv_sipush (v := 850) hx hb dX7_next_131 (by decide) ?_
                  refine xr_ti (x' := nI 850) rfl ?_
                  refine xr_Vv (rest := []) ⟨hx, hb, hml, hown, hts⟩ (KK_ok g) hK (c_X7_copy l g H b th bu ob cn rn (nI k) ln hO R3 hM3 858 850 (by decide) (by decide)) (cwV 2 hts gX7_next_X7_copy rfl rfl rfl (by decide +kernel) ⟨Nat.le_of_ble_eq_true rfl, Nat.le_of_ble_eq_true rfl⟩) (xr_rec hK hO rfl) rfl hl.1 rfl (Nat.le_of_ble_eq_true rfl) dX7_next_134 ⟨Nat.le_of_ble_eq_true rfl, Nat.le_of_ble_eq_true rfl⟩ hS (fun q h => by have h : q = b + 1 := h; show q = b ∨ q = b + 1 ∨ q = b + 10; omega) (fun _ H locs hq hz hkp hS => ?_)
                  replace hkp := fun (q : Nat) h1 (h2 : ¬ (q = b + 1)) => hkp q h1 h2
                  replace hOl := hOl.kept (fun q hq1 hq2 hq3 => hkp q hq1 (by omega))
                  replace hI := hI.kept (hkp _ hI.lt (by omega))
                  replace hO := hO.kept (hkp _ hO.lt (by omega))
                  replace hPo := hPo.kept (hkp _ hPo.lt (by omega))
                  obtain ⟨R9, hR9⟩ : ∃ r9 : Nat → Nat, r9 = va_up R3 858 (R3 850) := ⟨_, rfl⟩
                  have hMR9 : RwsAt g H b R9 := by rw [hR9]; exact hq
                  clear hq
                  refine lv_iinc (v := nI (p + 1)) (lv' := [(3, .int (nI (p + 1))), (2, .int (nI k)), (1, .int (nI p)), (4, .int 1), (0, .ref b)]) hx hb dX7_next_137 hl (k := 3) rfl (nI_1 p) (by decide) rfl (fun ls hl => ?_)
                  refine lv_goto (tgt := 6) hx hb dX7_next_140 (by decide) ?_
                  exact ih (p + 1) (by omega) H _ (va_up S p (r, k)) R9 (nI k) pf3 hO hMR9 hOl hI hPo hS2 (fun j hj => by rw [hR9, va_up_ne _ _ (by omega), g0 j hj]) (fun w hw => by rw [hmx] at hw; cases hw; rw [hR9, va_up_self, g1, va_up_self]) hS ls (by rw [hmx]; have h9 := lv_sub hl [0, 2, 1, 4] rfl; exact (by rw [show nxB (some (p, va_up S p (r, k) p)) = nI p from rfl, show nxK (some (p, va_up S p (r, k) p)) = nI k by rw [va_up_self]; rfl]; exact h9))
                · exact absurd h6 (by decide)
              · exact absurd (by decide) h5
          | some w =>
            rw [hz9] at hl hmx
            obtain ⟨w1, w2, w3⟩ := mxGo_some p w hz9
            have hsw := hSk w.1 w1 w2
            rw [← w3] at hsw
            have hwb : w.2.1 ≤ 2 ^ 125 * 1000000 := Nat.le_trans hsw.kle.2 (Nat.mul_le_mul hBd.2 (hcb w.1 (by omega)))
            have hw48 := hsw.kle.1
            have ebw : R3 858 = w.2.1 := by rw [eb3, eb w hz9]
            have hb1 : r * w.2.2 ≤ 2 ^ 125 * 1000000 * 48 := Nat.mul_le_mul hrb hw48
            have hb2 : w.2.1 * k ≤ 2 ^ 125 * 1000000 * 48 := Nat.mul_le_mul hwb hk48
            have hl : lv_has ls 6 [(3, .int (nI p)), (1, .int (nI w.1)), (2, .int (nI w.2.2)), (0, .ref b)] := hl
            refine lv_iload_n hx hb dX7_next_28 rfl (lv_at hl 1 rfl) ?_
            refine lv_if_ge (tgt := 36) hx hb dX7_next_29 (by decide) (fun h5 => ?_) (fun h5 => ?_)
            · clear h5
              refine lv_iconst (v := 0) hx hb dX7_next_36 (by decide) ?_
              refine lv_istore (lv' := [(4, .int 0), (3, .int (nI p)), (1, .int (nI w.1)), (2, .int (nI w.2.2)), (0, .ref b)]) hx hb dX7_next_37 hl (by decide) rfl (fun ls hl => ?_)
              refine lv_iload_n hx hb dX7_next_39 rfl (lv_at hl 2 rfl) ?_
              refine lv_if_lt (tgt := 112) hx hb dX7_next_40 (by decide) (fun h6 => ?_) (fun h6 => ?_)
              · exact absurd h6 (nI_pos (by omega))
              · clear h6
                refine lv_aload_n hx hb dX7_next_43 rfl (lv_at hl 4 rfl) ?_
                refine lv_sipush (v := 854) hx hb dX7_next_44 (by decide) ?_
                refine xr_ti (x' := nI 854) rfl ?_
                refine lv_sipush (v := 850) hx hb dX7_next_47 (by decide) ?_
                refine xr_ti (x' := nI 850) rfl ?_
                refine lv_iload_n hx hb dX7_next_50 rfl (lv_at hl 3 rfl) ?_
                refine xr_Vv (rest := []) ⟨hx, hb, hml, hown, hts⟩ (KK_ok g) hK (c_X7_times l g H b th bu ob cn rn (nI k) ln hO R3 hM3 854 850 w.2.2 (by decide) (by decide) (by omega) (by rw [f3]; exact Nat.lt_of_le_of_lt hb1 (by decide))) (cwV 3 hts gX7_next_X7_times rfl rfl rfl (by decide +kernel) ⟨Nat.le_of_ble_eq_true rfl, Nat.le_of_ble_eq_true rfl⟩) (xr_rec hK hO rfl) rfl hl.1 rfl (Nat.le_of_ble_eq_true rfl) dX7_next_51 ⟨Nat.le_of_ble_eq_true rfl, Nat.le_of_ble_eq_true rfl⟩ hS (fun q h => by have h : q = b + 1 := h; show q = b ∨ q = b + 1 ∨ q = b + 10; omega) (fun _ H locs hq hz hkp hS => ?_)
                replace hkp := fun (q : Nat) h1 (h2 : ¬ (q = b + 1)) => hkp q h1 h2
                replace hOl := hOl.kept (fun q hq1 hq2 hq3 => hkp q hq1 (by omega))
                replace hI := hI.kept (hkp _ hI.lt (by omega))
                replace hO := hO.kept (hkp _ hO.lt (by omega))
                replace hPo := hPo.kept (hkp _ hPo.lt (by omega))
                obtain ⟨R4, hR4⟩ : ∃ r9 : Nat → Nat, r9 = va_up R3 854 (R3 850 * w.2.2) := ⟨_, rfl⟩
                have hMR4 : RwsAt g H b R4 := by rw [hR4]; exact hq
                clear hq
                refine lv_aload_n hx hb dX7_next_54 rfl (lv_at hl 4 rfl) ?_
                refine lv_sipush (v := 855) hx hb dX7_next_55 (by decide) ?_
                refine xr_ti (x' := nI 855) rfl ?_
                refine lv_sipush (v := 858) hx hb dX7_next_58 (by decide) ?_
                refine xr_ti (x' := nI 858) rfl ?_
                refine lv_aload_n hx hb dX7_next_61 rfl (lv_at hl 4 rfl) ?_
                refine va_get (D := g.1) (ci := 7) (v := .int (nI k)) (C := RX7) (T := TX7) (N := 18) hx hb hts (by decide +kernel) hown hK.1 (xr_one hO) 0 rfl rfl 15 (by decide) (hts (.fieldLink RX7 111 "SharesDeskModel" "payers" "I") (by decide +kernel)) (fun _ h9 => h9) rfl dX7_next_62 ?_
                have k1 : R4 858 = w.2.1 := by rw [hR4, va_up_ne _ _ (by decide), ebw]
                refine xr_Vv (rest := []) ⟨hx, hb, hml, hown, hts⟩ (KK_ok g) hK (c_X7_times l g H b th bu ob cn rn (nI k) ln hO R4 hMR4 855 858 k (by decide) (by decide) (by omega) (by rw [k1]; exact Nat.lt_of_le_of_lt hb2 (by decide))) (cwV 3 hts gX7_next_X7_times rfl rfl rfl (by decide +kernel) ⟨Nat.le_of_ble_eq_true rfl, Nat.le_of_ble_eq_true rfl⟩) (xr_rec hK hO rfl) rfl hl.1 rfl (Nat.le_of_ble_eq_true rfl) dX7_next_65 ⟨Nat.le_of_ble_eq_true rfl, Nat.le_of_ble_eq_true rfl⟩ hS (fun q h => by have h : q = b + 1 := h; show q = b ∨ q = b + 1 ∨ q = b + 10; omega) (fun _ H locs hq hz hkp hS => ?_)
                replace hkp := fun (q : Nat) h1 (h2 : ¬ (q = b + 1)) => hkp q h1 h2
                replace hOl := hOl.kept (fun q hq1 hq2 hq3 => hkp q hq1 (by omega))
                replace hI := hI.kept (hkp _ hI.lt (by omega))
                replace hO := hO.kept (hkp _ hO.lt (by omega))
                replace hPo := hPo.kept (hkp _ hPo.lt (by omega))
                obtain ⟨R5, hR5⟩ : ∃ r9 : Nat → Nat, r9 = va_up R4 855 (R4 858 * k) := ⟨_, rfl⟩
                have hMR5 : RwsAt g H b R5 := by rw [hR5]; exact hq
                clear hq
                have k2 : R5 854 = r * w.2.2 := by rw [hR5, va_up_ne _ _ (by decide), hR4, va_up_self, f3]
                have k3 : R5 855 = w.2.1 * k := by rw [hR5, va_up_self, k1]
                have g0 : ∀ j, j < 849 → R5 j = Rw j := fun j hj => by rw [hR5, va_up_ne _ _ (by omega), hR4, va_up_ne _ _ (by omega), eo3 j hj]
                have g1 : R5 850 = r := by rw [hR5, va_up_ne _ _ (by decide), hR4, va_up_ne _ _ (by decide), f3]
                have g2 : R5 858 = w.2.1 := by rw [hR5, va_up_ne _ _ (by decide), k1]
                refine lv_aload_n hx hb dX7_next_68 rfl (lv_at hl 4 rfl) ?_
                refine lv_sipush (v := 854) hx hb dX7_next_69 (by decide) ?_
                refine xr_ti (x' := nI 854) rfl ?_
                refine lv_sipush (v := 855) hx hb dX7_next_72 (by decide) ?_
                refine xr_ti (x' := nI 855) rfl ?_
                refine xr_Vi (rest := []) ⟨hx, hb, hml, hown, hts⟩ (KK_ok g) hK (c_X7_compare l g H b th bu ob cn rn (nI k) ln hO R5 hMR5 854 855 (by decide) (by decide)) (cwV 2 hts gX7_next_X7_compare rfl rfl rfl (by decide +kernel) ⟨Nat.le_of_ble_eq_true rfl, Nat.le_of_ble_eq_true rfl⟩) (xr_rec hK hO rfl) rfl hl.1 rfl (Nat.le_of_ble_eq_true rfl) dX7_next_75 ⟨Nat.le_of_ble_eq_true rfl, Nat.le_of_ble_eq_true rfl⟩ hS (fun q h => h.elim) (fun r H locs hq hz hkp hS9 => ?_)
                obtain ⟨rfl, rfl⟩ := hq
                have hS := hS9
                rw [k2, k3]
                refine lv_istore (lv' := [(5, .int (cmpI (r * w.2.2) (w.2.1 * k))), (4, .int 0), (3, .int (nI p)), (1, .int (nI w.1)), (2, .int (nI w.2.2)), (0, .ref b)]) hx hb dX7_next_78 hl (by decide) rfl (fun ls hl => ?_)
                refine lv_iload hx hb dX7_next_80 (lv_at hl 0 rfl) ?_
                refine lv_if_lt (tgt := 105) hx hb dX7_next_82 (by decide) (fun h7 => ?_) (fun h7 => ?_)
                · have e9 := cmpI_lt0 h7
                  have hbt : bet c p w.1 r k w.2.1 w.2.2 = true := bet_l e9
                  have hmx : mxGo (va_up S p (r, k)) (affB c vs ap (Rw 848) Rw ch) c (p + 1) = some (p, va_up S p (r, k) p) := by rw [hmx]; show (if bet c p w.1 (va_up S p (r, k) p).1 (va_up S p (r, k) p).2 w.2.1 w.2.2 = true then _ else _) = _; rw [va_up_self, if_pos hbt]
                  refine lv_iconst (v := 1) hx hb dX7_next_105 (by decide) ?_
                  refine lv_goto (tgt := 110) hx hb dX7_next_106 (by decide) ?_
                  refine lv_istore (lv' := [(4, .int 1), (5, .int (cmpI (r * w.2.2) (w.2.1 * k))), (3, .int (nI p)), (1, .int (nI w.1)), (2, .int (nI w.2.2)), (0, .ref b)]) hx hb dX7_next_110 hl (by decide) rfl (fun ls hl => ?_)
                  refine lv_iload hx hb dX7_next_112 (lv_at hl 0 rfl) ?_
                  refine lv_if_ne (tgt := 120) hx hb dX7_next_114 (by decide) (fun h9 => ?_) (fun h9 => ?_)
                  · clear h9
                    refine lv_iload_n hx hb dX7_next_120 rfl (lv_at hl 2 rfl) ?_
                    refine lv_istore_n (lv' := [(1, .int (nI p)), (4, .int 1), (5, .int (cmpI (r * w.2.2) (w.2.1 * k))), (3, .int (nI p)), (2, .int (nI w.2.2)), (0, .ref b)]) hx hb dX7_next_121 rfl hl (by decide) rfl (fun ls hl => ?_)
                    refine lv_aload_n hx hb dX7_next_122 rfl (lv_at hl 5 rfl) ?_
                    refine va_get (D := g.1) (ci := 7) (v := .int (nI k)) (C := RX7) (T := TX7) (N := 18) hx hb hts (by decide +kernel) hown hK.1 (xr_one hO) 0 rfl rfl 15 (by decide) (hts (.fieldLink RX7 111 "SharesDeskModel" "payers" "I") (by decide +kernel)) (fun _ h9 => h9) rfl dX7_next_123 ?_
                    refine lv_istore_n (lv' := [(2, .int (nI k)), (1, .int (nI p)), (4, .int 1), (5, .int (cmpI (r * w.2.2) (w.2.1 * k))), (3, .int (nI p)), (0, .ref b)]) hx hb dX7_next_126 rfl hl (by decide) rfl (fun ls hl => ?_)
                    refine lv_aload_n hx hb dX7_next_127 rfl (lv_at hl 5 rfl) ?_
                    refine lv_sipush (v := 858) hx hb dX7_next_128 (by decide) ?_
                    refine xr_ti (x' := nI 858) rfl ?_
                    refine lv_sipush (v := 850) hx hb dX7_next_131 (by decide) ?_
                    refine xr_ti (x' := nI 850) rfl ?_
                    refine xr_Vv (rest := []) ⟨hx, hb, hml, hown, hts⟩ (KK_ok g) hK (c_X7_copy l g H b th bu ob cn rn (nI k) ln hO R5 hMR5 858 850 (by decide) (by decide)) (cwV 2 hts gX7_next_X7_copy rfl rfl rfl (by decide +kernel) ⟨Nat.le_of_ble_eq_true rfl, Nat.le_of_ble_eq_true rfl⟩) (xr_rec hK hO rfl) rfl hl.1 rfl (Nat.le_of_ble_eq_true rfl) dX7_next_134 ⟨Nat.le_of_ble_eq_true rfl, Nat.le_of_ble_eq_true rfl⟩ hS (fun q h => by have h : q = b + 1 := h; show q = b ∨ q = b + 1 ∨ q = b + 10; omega) (fun _ H locs hq hz hkp hS => ?_)
                    replace hkp := fun (q : Nat) h1 (h2 : ¬ (q = b + 1)) => hkp q h1 h2
                    replace hOl := hOl.kept (fun q hq1 hq2 hq3 => hkp q hq1 (by omega))
                    replace hI := hI.kept (hkp _ hI.lt (by omega))
                    replace hO := hO.kept (hkp _ hO.lt (by omega))
                    replace hPo := hPo.kept (hkp _ hPo.lt (by omega))
                    obtain ⟨R9, hR9⟩ : ∃ r9 : Nat → Nat, r9 = va_up R5 858 (R5 850) := ⟨_, rfl⟩
                    have hMR9 : RwsAt g H b R9 := by rw [hR9]; exact hq
                    clear hq
                    refine lv_iinc (v := nI (p + 1)) (lv' := [(3, .int (nI (p + 1))), (2, .int (nI k)), (1, .int (nI p)), (4, .int 1), (5, .int (cmpI (r * w.2.2) (w.2.1 * k))), (0, .ref b)]) hx hb dX7_next_137 hl (k := 4) rfl (nI_1 p) (by decide) rfl (fun ls hl => ?_)
                    refine lv_goto (tgt := 6) hx hb dX7_next_140 (by decide) ?_
                    exact ih (p + 1) (by omega) H _ (va_up S p (r, k)) R9 (nI k) pf3 hO hMR9 hOl hI hPo hS2 (fun j hj => by rw [hR9, va_up_ne _ _ (by omega), g0 j hj]) (fun w hw => by rw [hmx] at hw; cases hw; rw [hR9, va_up_self, g1, va_up_self]) hS ls (by rw [hmx]; have h9 := lv_sub hl [0, 2, 1, 5] rfl; exact (by rw [show nxB (some (p, va_up S p (r, k) p)) = nI p from rfl, show nxK (some (p, va_up S p (r, k) p)) = nI k by rw [va_up_self]; rfl]; exact h9))
                  · exact absurd h9 (by decide)
                · have e9 := cmpI_nl h7
                  refine lv_iload hx hb dX7_next_85 (lv_at hl 0 rfl) ?_
                  refine lv_if_ne (tgt := 109) hx hb dX7_next_87 (by decide) (fun h8 => ?_) (fun h8 => ?_)
                  · have e10 : ¬ r * w.2.2 = w.2.1 * k := fun z => h8 (cmpI_0.mpr z)
                    have hbt : ¬ bet c p w.1 r k w.2.1 w.2.2 = true := bet_n e9 (fun z => absurd z e10)
                    have hmx : mxGo (va_up S p (r, k)) (affB c vs ap (Rw 848) Rw ch) c (p + 1) = some w := by rw [hmx]; show (if bet c p w.1 (va_up S p (r, k) p).1 (va_up S p (r, k) p).2 w.2.1 w.2.2 = true then _ else _) = _; rw [va_up_self, if_neg hbt]
                    refine lv_iconst (v := 0) hx hb dX7_next_109 (by decide) ?_
                    refine lv_istore (lv' := [(4, .int 0), (5, .int (cmpI (r * w.2.2) (w.2.1 * k))), (3, .int (nI p)), (1, .int (nI w.1)), (2, .int (nI w.2.2)), (0, .ref b)]) hx hb dX7_next_110 hl (by decide) rfl (fun ls hl => ?_)
                    refine lv_iload hx hb dX7_next_112 (lv_at hl 0 rfl) ?_
                    refine lv_if_ne (tgt := 120) hx hb dX7_next_114 (by decide) (fun h9 => ?_) (fun h9 => ?_)
                    · exact absurd rfl h9
                    · clear h9
                      refine lv_goto (tgt := 137) hx hb dX7_next_117 (by decide) ?_
                      refine lv_iinc (v := nI (p + 1)) (lv' := [(3, .int (nI (p + 1))), (4, .int 0), (5, .int (cmpI (r * w.2.2) (w.2.1 * k))), (1, .int (nI w.1)), (2, .int (nI w.2.2)), (0, .ref b)]) hx hb dX7_next_137 hl (k := 2) rfl (nI_1 p) (by decide) rfl (fun ls hl => ?_)
                      refine lv_goto (tgt := 6) hx hb dX7_next_140 (by decide) ?_
                      exact ih (p + 1) (by omega) H _ (va_up S p (r, k)) R5 (nI k) pf3 hO hMR5 hOl hI hPo hS2 g0 (fun w9 hw9 => by rw [hmx] at hw9; cases hw9; exact g2) hS ls (by rw [hmx]; exact lv_sub hl [0, 3, 4, 5] rfl)
                  · have e10 : r * w.2.2 = w.2.1 * k := cmpI_0.mp h8
                    obtain ⟨hC, hV, hW, -, -⟩ := id hOl
                    have hcw := hcb w.1 (by omega)
                    refine lv_aload_n hx hb dX7_next_90 rfl (lv_at hl 5 rfl) ?_
                    refine va_get (D := g.1) (ci := 7) (v := .ref (b + 5)) (C := RX7) (T := TX7) (N := 18) hx hb hts (by decide +kernel) hown hK.1 (xr_one hO) 0 rfl rfl 6 (by decide) (hts (.fieldLink RX7 27 "SharesDeskModel" "oldCosts" "[I") (by decide +kernel)) (fun _ h9 => h9) rfl dX7_next_91 ?_
                    refine lv_iload_n hx hb dX7_next_94 rfl (lv_at hl 2 rfl) ?_
                    refine xr_rd hx hb hK hC hp (by decide) dX7_next_95 ?_
                    refine lv_aload_n hx hb dX7_next_96 rfl (lv_at hl 5 rfl) ?_
                    refine va_get (D := g.1) (ci := 7) (v := .ref (b + 5)) (C := RX7) (T := TX7) (N := 18) hx hb hts (by decide +kernel) hown hK.1 (xr_one hO) 0 rfl rfl 6 (by decide) (hts (.fieldLink RX7 27 "SharesDeskModel" "oldCosts" "[I") (by decide +kernel)) (fun _ h9 => h9) rfl dX7_next_97 ?_
                    refine lv_iload_n hx hb dX7_next_100 rfl (lv_at hl 3 rfl) ?_
                    refine xr_rd hx hb hK hC (show w.1 < 16 by omega) (by decide) dX7_next_101 ?_
                    refine lv_icmp_ge (tgt := 109) hx hb dX7_next_102 (by decide) (fun h10 => ?_) (fun h10 => ?_)
                    · have e11 : ¬ c p < c w.1 := Nat.not_lt.mpr ((nI_leI (by omega) (by omega)).mp h10)
                      have hbt : ¬ bet c p w.1 r k w.2.1 w.2.2 = true := bet_n e9 (fun _ => e11)
                      have hmx : mxGo (va_up S p (r, k)) (affB c vs ap (Rw 848) Rw ch) c (p + 1) = some w := by rw [hmx]; show (if bet c p w.1 (va_up S p (r, k) p).1 (va_up S p (r, k) p).2 w.2.1 w.2.2 = true then _ else _) = _; rw [va_up_self, if_neg hbt]
                      refine lv_iconst (v := 0) hx hb dX7_next_109 (by decide) ?_
                      refine lv_istore (lv' := [(4, .int 0), (5, .int (cmpI (r * w.2.2) (w.2.1 * k))), (3, .int (nI p)), (1, .int (nI w.1)), (2, .int (nI w.2.2)), (0, .ref b)]) hx hb dX7_next_110 hl (by decide) rfl (fun ls hl => ?_)
                      refine lv_iload hx hb dX7_next_112 (lv_at hl 0 rfl) ?_
                      refine lv_if_ne (tgt := 120) hx hb dX7_next_114 (by decide) (fun h9 => ?_) (fun h9 => ?_)
                      · exact absurd rfl h9
                      · clear h9
                        refine lv_goto (tgt := 137) hx hb dX7_next_117 (by decide) ?_
                        refine lv_iinc (v := nI (p + 1)) (lv' := [(3, .int (nI (p + 1))), (4, .int 0), (5, .int (cmpI (r * w.2.2) (w.2.1 * k))), (1, .int (nI w.1)), (2, .int (nI w.2.2)), (0, .ref b)]) hx hb dX7_next_137 hl (k := 2) rfl (nI_1 p) (by decide) rfl (fun ls hl => ?_)
                        refine lv_goto (tgt := 6) hx hb dX7_next_140 (by decide) ?_
                        exact ih (p + 1) (by omega) H _ (va_up S p (r, k)) R5 (nI k) pf3 hO hMR5 hOl hI hPo hS2 g0 (fun w9 hw9 => by rw [hmx] at hw9; cases hw9; exact g2) hS ls (by rw [hmx]; exact lv_sub hl [0, 3, 4, 5] rfl)
                    · have e11 : c p < c w.1 := Nat.lt_of_not_le fun z => h10 (nI_le z (by omega))
                      have hbt : bet c p w.1 r k w.2.1 w.2.2 = true := bet_e e10 e11
                      have hmx : mxGo (va_up S p (r, k)) (affB c vs ap (Rw 848) Rw ch) c (p + 1) = some (p, va_up S p (r, k) p) := by rw [hmx]; show (if bet c p w.1 (va_up S p (r, k) p).1 (va_up S p (r, k) p).2 w.2.1 w.2.2 = true then _ else _) = _; rw [va_up_self, if_pos hbt]
                      refine lv_iconst (v := 1) hx hb dX7_next_105 (by decide) ?_
                      refine lv_goto (tgt := 110) hx hb dX7_next_106 (by decide) ?_
                      refine lv_istore (lv' := [(4, .int 1), (5, .int (cmpI (r * w.2.2) (w.2.1 * k))), (3, .int (nI p)), (1, .int (nI w.1)), (2, .int (nI w.2.2)), (0, .ref b)]) hx hb dX7_next_110 hl (by decide) rfl (fun ls hl => ?_)
                      refine lv_iload hx hb dX7_next_112 (lv_at hl 0 rfl) ?_
                      refine lv_if_ne (tgt := 120) hx hb dX7_next_114 (by decide) (fun h9 => ?_) (fun h9 => ?_)
                      · clear h9
                        refine lv_iload_n hx hb dX7_next_120 rfl (lv_at hl 2 rfl) ?_
                        refine lv_istore_n (lv' := [(1, .int (nI p)), (4, .int 1), (5, .int (cmpI (r * w.2.2) (w.2.1 * k))), (3, .int (nI p)), (2, .int (nI w.2.2)), (0, .ref b)]) hx hb dX7_next_121 rfl hl (by decide) rfl (fun ls hl => ?_)
                        refine lv_aload_n hx hb dX7_next_122 rfl (lv_at hl 5 rfl) ?_
                        refine va_get (D := g.1) (ci := 7) (v := .int (nI k)) (C := RX7) (T := TX7) (N := 18) hx hb hts (by decide +kernel) hown hK.1 (xr_one hO) 0 rfl rfl 15 (by decide) (hts (.fieldLink RX7 111 "SharesDeskModel" "payers" "I") (by decide +kernel)) (fun _ h9 => h9) rfl dX7_next_123 ?_
                        refine lv_istore_n (lv' := [(2, .int (nI k)), (1, .int (nI p)), (4, .int 1), (5, .int (cmpI (r * w.2.2) (w.2.1 * k))), (3, .int (nI p)), (0, .ref b)]) hx hb dX7_next_126 rfl hl (by decide) rfl (fun ls hl => ?_)
                        refine lv_aload_n hx hb dX7_next_127 rfl (lv_at hl 5 rfl) ?_
                        refine lv_sipush (v := 858) hx hb dX7_next_128 (by decide) ?_
                        refine xr_ti (x' := nI 858) rfl ?_
                        refine lv_sipush (v := 850) hx hb dX7_next_131 (by decide) ?_
                        refine xr_ti (x' := nI 850) rfl ?_
                        refine xr_Vv (rest := []) ⟨hx, hb, hml, hown, hts⟩ (KK_ok g) hK (c_X7_copy l g H b th bu ob cn rn (nI k) ln hO R5 hMR5 858 850 (by decide) (by decide)) (cwV 2 hts gX7_next_X7_copy rfl rfl rfl (by decide +kernel) ⟨Nat.le_of_ble_eq_true rfl, Nat.le_of_ble_eq_true rfl⟩) (xr_rec hK hO rfl) rfl hl.1 rfl (Nat.le_of_ble_eq_true rfl) dX7_next_134 ⟨Nat.le_of_ble_eq_true rfl, Nat.le_of_ble_eq_true rfl⟩ hS (fun q h => by have h : q = b + 1 := h; show q = b ∨ q = b + 1 ∨ q = b + 10; omega) (fun _ H locs hq hz hkp hS => ?_)
                        replace hkp := fun (q : Nat) h1 (h2 : ¬ (q = b + 1)) => hkp q h1 h2
                        replace hOl := hOl.kept (fun q hq1 hq2 hq3 => hkp q hq1 (by omega))
                        replace hI := hI.kept (hkp _ hI.lt (by omega))
                        replace hO := hO.kept (hkp _ hO.lt (by omega))
                        replace hPo := hPo.kept (hkp _ hPo.lt (by omega))
                        obtain ⟨R9, hR9⟩ : ∃ r9 : Nat → Nat, r9 = va_up R5 858 (R5 850) := ⟨_, rfl⟩
                        have hMR9 : RwsAt g H b R9 := by rw [hR9]; exact hq
                        clear hq
                        refine lv_iinc (v := nI (p + 1)) (lv' := [(3, .int (nI (p + 1))), (2, .int (nI k)), (1, .int (nI p)), (4, .int 1), (5, .int (cmpI (r * w.2.2) (w.2.1 * k))), (0, .ref b)]) hx hb dX7_next_137 hl (k := 4) rfl (nI_1 p) (by decide) rfl (fun ls hl => ?_)
                        refine lv_goto (tgt := 6) hx hb dX7_next_140 (by decide) ?_
                        exact ih (p + 1) (by omega) H _ (va_up S p (r, k)) R9 (nI k) pf3 hO hMR9 hOl hI hPo hS2 (fun j hj => by rw [hR9, va_up_ne _ _ (by omega), g0 j hj]) (fun w hw => by rw [hmx] at hw; cases hw; rw [hR9, va_up_self, g1, va_up_self]) hS ls (by rw [hmx]; have h9 := lv_sub hl [0, 2, 1, 5] rfl; exact (by rw [show nxB (some (p, va_up S p (r, k) p)) = nI p from rfl, show nxK (some (p, va_up S p (r, k) p)) = nI k by rw [va_up_self]; rfl]; exact h9))
                      · exact absurd h9 (by decide)
            · exact absurd (nI_pos' (by omega)) h5
        · have ea : (affB c vs ap (Rw 848) Rw ch) p = false := b2i_0.mp h2
          have hmx : mxGo S (affB c vs ap (Rw 848) Rw ch) c (p + 1) = mxGo S (affB c vs ap (Rw 848) Rw ch) c p := by rw [mxGo, if_pos ea]
          refine lv_goto (tgt := 137) hx hb dX7_next_20 (by decide) ?_
          refine lv_iinc (v := nI (p + 1)) (lv' := [(3, .int (nI (p + 1))), (1, .int (nxB (mxGo S (affB c vs ap (Rw 848) Rw ch) c p))), (2, .int (nxK (mxGo S (affB c vs ap (Rw 848) Rw ch) c p))), (0, .ref b)]) hx hb dX7_next_137 hl (k := 0) rfl (nI_1 p) (by decide) rfl (fun ls hl => ?_)
          refine lv_goto (tgt := 6) hx hb dX7_next_140 (by decide) ?_
          exact ih (p + 1) (by omega) H _ S R2 py2 pf hO hM2 hOl hI hPo (fun q hq9 hq8 => by by_cases e9 : q = p; (rw [e9, ea] at hq8; cases hq8); exact hSk q (by omega) hq8) eo2 (fun w hw => by rw [hmx] at hw; rw [f2 858 (by decide) (by decide), eb w hw]) hS ls (by rw [hmx]; exact lv_sub hl [0, 1, 2, 3] rfl)
  refine lv_iconst (v := (-1)) hx hb dX7_next_0 (by decide) ?_
  refine xr_ti (x' := nxB none) rfl ?_
  refine lv_istore_n (lv' := [(1, .int (nxB none)), (0, .ref b)]) hx hb dX7_next_1 rfl hl (by decide) rfl (fun ls hl => ?_)
  refine lv_iconst (v := 1) hx hb dX7_next_2 (by decide) ?_
  refine xr_ti (x' := nxK none) rfl ?_
  refine lv_istore_n (lv' := [(2, .int (nxK none)), (1, .int (nxB none)), (0, .ref b)]) hx hb dX7_next_3 rfl hl (by decide) rfl (fun ls hl => ?_)
  refine lv_iconst (v := 0) hx hb dX7_next_4 (by decide) ?_
  refine xr_ti (x' := nI 0) rfl ?_
  refine lv_istore_n (lv' := [(3, .int (nI 0)), (2, .int (nxK none)), (1, .int (nxB none)), (0, .ref b)]) hx hb dX7_next_5 rfl hl (by decide) rfl (fun ls hl => ?_)
  exact loop 16 0 (by omega) s.heap [] (fun _ => (0, 0)) Rw py pf0 hO hM hOl hI hPo (fun q hq9 => absurd hq9 (Nat.not_lt_zero q)) (fun _ _ => rfl) (fun w hw => by cases hw) hS ls (lv_sub hl [0, 2, 1, 3] rfl)
