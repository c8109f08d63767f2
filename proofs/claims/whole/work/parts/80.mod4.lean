set_option maxHeartbeats 1000000 in
set_option maxRecDepth 100000 in
theorem c_X7_share (l : Launch) (g : WG) (H0 : Heap) (b : Nat) (th bu ob cn rn py ln : Int32) (hO : obj g H0 b 7 (moF b th bu ob cn rn py ln)) (Rw : Nat → Nat) (hM : RwsAt g H0 b Rw) (c : Nat → Nat) (vs : Nat) (ap : Nat → Nat) (hOl : OldAt g H0 b c vs ap) (hBd : BdR Rw) (hPo : ∃ pf0 : Nat → Bool, xr_ia H0 (b + 10) (gZ g) 48 (fun z9 => b2i (pf0 z9))) (p : Nat) (hp : p < 16) (hcp0 : 0 < c p) (hD0 : 0 < Rw 848) (haf : Rw 848 * c p ≤ sg (suM (sqp vs ap p) Rw) 48) : Ctr l (KK g) yX7_share wsX7_share { frames := 1, cells := 0, slots := 0, locals := 28 } [.ref b, .int (nI p)] H0 eV (fun _ H => ∃ (R1 : Nat → Nat) (r k : Nat) (pf : Nat → Bool), obj g H b 7 (moF b th bu ob cn rn (nI k) ln) ∧ RwsAt g H b R1 ∧ xr_ia H (b + 10) (gZ g) 48 (fun z9 => b2i (pf z9)) ∧ IsSh (sqp vs ap p) Rw (Rw 848 * c p) r k ∧ R1 850 = r ∧ k ≤ 48 ∧ (∀ v, v < 48 → (sqp vs ap p) v = true → (pf v = true ↔ Rw v * k < r)) ∧ ∀ j, j ≠ 849 → j ≠ 850 → j ≠ 851 → R1 j = Rw j) (fun q => q = b ∨ q = b + 1 ∨ q = b + 10) := by
  refine xr_enter (cc := cX7_share) (maxL := 5) (ret := none) (by decide) rfl (Nat.le_of_ble_eq_true rfl) ?_
  intro pgm env s mid below meth cde hx hb hr hml hts hown hlocks hnm hH hK ls hl
  subst hH
  have hl : lv_has ls 5 [(0, .ref b), (1, .int (nI p))] := hl
  have hS : va_S (fun q => q = b ∨ q = b + 1 ∨ q = b + 10) s.heap s.heap [] := va_S.rf
  obtain ⟨hf, hRb⟩ := id hM
  obtain ⟨hC, hV, hW, hcb, hab⟩ := id hOl
  obtain ⟨pf0, hPo⟩ := hPo
  have hcp := hcb p hp
  have hN0 : 0 < Rw 848 * c p := Nat.mul_pos hD0 hcp0
  have hNb : Rw 848 * c p ≤ 2 ^ 125 * 1000000 := Nat.mul_le_mul hBd.2 hcp
  have outer : ∀ (n : Nat) (H : Heap) (locs : List Loc) (R1 : Nat → Nat) (r k : Nat) (pf : Nat → Bool), k < n → obj g H b 7 (moF b th bu ob cn rn (nI k) ln) → RwsAt g H b R1 → OldAt g H b c vs ap → xr_ia H (b + 10) (gZ g) 48 (fun z9 => b2i (pf z9)) → SInv (sqp vs ap p) Rw (Rw 848 * c p) r k pf → R1 850 = r → (∀ j, j ≠ 849 → j ≠ 850 → j ≠ 851 → R1 j = Rw j) → va_S (fun q => q = b ∨ q = b + 1 ∨ q = b + 10) s.heap H locs → ∀ ls : Array Slot, lv_has ls 5 [(2, .int 1), (0, .ref b), (1, .int (nI p))] → W pgm l env { frames := 1, cells := 0, slots := 0, locals := 28 } s mid ([.ref b, .int (nI p)] : List Value).toArray below meth cde H locs 0 0 (MQ below (xr_Post eV (fun _ H => ∃ (R1 : Nat → Nat) (r k : Nat) (pf : Nat → Bool), obj g H b 7 (moF b th bu ob cn rn (nI k) ln) ∧ RwsAt g H b R1 ∧ xr_ia H (b + 10) (gZ g) 48 (fun z9 => b2i (pf z9)) ∧ IsSh (sqp vs ap p) Rw (Rw 848 * c p) r k ∧ R1 850 = r ∧ k ≤ 48 ∧ (∀ v, v < 48 → (sqp vs ap p) v = true → (pf v = true ↔ Rw v * k < r)) ∧ ∀ j, j ≠ 849 → j ≠ 850 → j ≠ 851 → R1 j = Rw j) (fun q => q = b ∨ q = b + 1 ∨ q = b + 10)) ([.ref b, .int (nI p)] : List Value).toArray s ({ frames := 1, cells := 0, slots := 0, locals := 28 } : Room).cells ({ frames := 1, cells := 0, slots := 0, locals := 28 } : Room).slots (fun q => q = b ∨ q = b + 1 ∨ q = b + 10)) (F0 mid 67 ls []) := by
    intro n
    induction n with
    | zero => intro H locs R1 r k pf h; exact absurd h (Nat.not_lt_zero _)
    | succ n ih =>
      intro H locs R1 r0 k0 pf hkn hO hM1 hOl hPo hI0 er0 eo hS ls hl
      have hk48 := hI0.kle
      have inner : ∀ (n2 v : Nat), v + n2 = 48 → ∀ (H : Heap) (locs : List Loc) (R1 : Nat → Nat) (r k : Nat) (pf : Nat → Bool) (mo : Bool), obj g H b 7 (moF b th bu ob cn rn (nI k) ln) → RwsAt g H b R1 → OldAt g H b c vs ap → xr_ia H (b + 10) (gZ g) 48 (fun z9 => b2i (pf z9)) → SInv (sqp vs ap p) Rw (Rw 848 * c p) r k pf → R1 850 = r → R1 851 = r0 → (∀ j, j ≠ 849 → j ≠ 850 → j ≠ 851 → R1 j = Rw j) → r0 * k ≤ r * k0 → (mo = false → r = r0 ∧ k = k0) → (mo = true → k < k0) → (∀ w9, w9 < v → (sqp vs ap p) w9 = true → pf w9 = false → r0 ≤ Rw w9 * k0) → va_S (fun q => q = b ∨ q = b + 1 ∨ q = b + 10) s.heap H locs → ∀ ls : Array Slot, lv_has ls 5 [(4, .int (nI v)), (2, .int (b2i mo)), (3, .int (nI k0)), (0, .ref b), (1, .int (nI p))] → W pgm l env { frames := 1, cells := 0, slots := 0, locals := 28 } s mid ([.ref b, .int (nI p)] : List Value).toArray below meth cde H locs 0 0 (MQ below (xr_Post eV (fun _ H => ∃ (R1 : Nat → Nat) (r k : Nat) (pf : Nat → Bool), obj g H b 7 (moF b th bu ob cn rn (nI k) ln) ∧ RwsAt g H b R1 ∧ xr_ia H (b + 10) (gZ g) 48 (fun z9 => b2i (pf z9)) ∧ IsSh (sqp vs ap p) Rw (Rw 848 * c p) r k ∧ R1 850 = r ∧ k ≤ 48 ∧ (∀ v, v < 48 → (sqp vs ap p) v = true → (pf v = true ↔ Rw v * k < r)) ∧ ∀ j, j ≠ 849 → j ≠ 850 → j ≠ 851 → R1 j = Rw j) (fun q => q = b ∨ q = b + 1 ∨ q = b + 10)) ([.ref b, .int (nI p)] : List Value).toArray s ({ frames := 1, cells := 0, slots := 0, locals := 28 } : Room).cells ({ frames := 1, cells := 0, slots := 0, locals := 28 } : Room).slots (fun q => q = b ∨ q = b + 1 ∨ q = b + 10)) (F0 mid 91 ls []) := by
        intro n2
        induction n2 with
        | zero =>
          intro v h1 H locs R1 r k pf mo hO hM1 hOl hPo hI er eq1 eo hrk hmf hmt hdn hS ls hl
          have e : v = 48 := by omega
          subst e
          refine lv_iload hx hb dX7_share_91 (lv_at hl 0 rfl) ?_
          refine lv_bipush (v := 48) hx hb dX7_share_93 (by decide) ?_
          refine lv_icmp_ge (tgt := 185) hx hb dX7_share_95 (by decide) (fun hc => ?_) (fun hc => ?_)
          · clear hc
            refine lv_goto (tgt := 67) hx hb dX7_share_185 (by decide) ?_
            cases mo with
            | true => exact ih H locs R1 r k pf (by have := hmt rfl; omega) hO hM1 hOl hPo hI er eo hS ls (lv_sub hl [1, 3, 4] rfl)
            | false =>
              obtain ⟨e5, e6⟩ := hmf rfl
              refine lv_iload_n hx hb dX7_share_67 rfl (lv_at hl 1 rfl) ?_
              refine lv_if_eq (tgt := 188) hx hb dX7_share_68 (by decide) (fun h8 => ?_) (fun h8 => ?_)
              · obtain ⟨d1, d2⟩ := hI.done (fun w9 hw hu hq9 => by rw [e5, e6]; exact hdn w9 hw hu hq9)
                exact xr_vret hx hb hr hlocks hS ⟨R1, r, k, pf, hO, hM1, hPo, d1, er, hI.kle.1, d2, eo⟩ dX7_share_188
              · exact absurd rfl h8
          · exact absurd (by decide) hc
        | succ n2 ih2 =>
          intro v h1 H locs R1 r k pf mo hO hM1 hOl hPo hI er eq1 eo hrk hmf hmt hdn hS ls hl
          have hv48 : v < 48 := by omega
          have e8 : R1 v = Rw v := eo v (by omega) (by omega) (by omega)
          have e7 := hBd.1 v hv48
          have e6 : Rw v * k0 ≤ 2 ^ 125 * 48 := Nat.mul_le_mul e7 hk48.1
          have hkk := hI.kle
          refine lv_iload hx hb dX7_share_91 (lv_at hl 0 rfl) ?_
          refine lv_bipush (v := 48) hx hb dX7_share_93 (by decide) ?_
          refine lv_icmp_ge (tgt := 185) hx hb dX7_share_95 (by decide) (fun hc => ?_) (fun hc => ?_)
          · exact absurd ((nI_leI (a := 48) (b := v) (by decide) (by omega)).mp hc) (by omega)
          · clear hc
            refine lv_aload_n hx hb dX7_share_98 rfl (lv_at hl 3 rfl) ?_
            refine lv_iload hx hb dX7_share_99 (lv_at hl 0 rfl) ?_
            refine lv_iload_n hx hb dX7_share_101 rfl (lv_at hl 4 rfl) ?_
            refine xr_Vi (rest := []) ⟨hx, hb, hml, hown, hts⟩ (KK_ok g) hK (c_X7_supports l g H b th bu ob cn rn (nI k) ln hO c vs ap hOl v p hv48 hp) (cwV 2 hts gX7_share_X7_supports rfl rfl rfl (by decide +kernel) ⟨Nat.le_of_ble_eq_true rfl, Nat.le_of_ble_eq_true rfl⟩) (xr_rec hK hO rfl) rfl hl.1 rfl (Nat.le_of_ble_eq_true rfl) dX7_share_102 ⟨Nat.le_of_ble_eq_true rfl, Nat.le_of_ble_eq_true rfl⟩ hS (fun q h => h.elim) (fun r H locs hq hz hkp hS9 => ?_)
            obtain ⟨rfl, rfl⟩ := hq
            have hS := hS9
            refine lv_if_eq (tgt := 179) hx hb dX7_share_105 (by decide) (fun h2 => ?_) (fun h2 => ?_)
            · have hu0 := b2i_0.mp h2
              refine lv_iinc (v := nI (v + 1)) (lv' := [(4, .int (nI (v + 1))), (2, .int (b2i mo)), (3, .int (nI k0)), (0, .ref b), (1, .int (nI p))]) hx hb dX7_share_179 hl (k := 0) rfl (nI_1 v) (by decide) rfl (fun ls hl => ?_)
              refine lv_goto (tgt := 91) hx hb dX7_share_182 (by decide) ?_
              exact ih2 (v + 1) (by omega) H _ R1 r k pf mo hO hM1 hOl hPo hI (er) (eq1) (eo) hrk hmf hmt (fun w9 hw hu hq9 => by by_cases e9 : w9 = v; rw [e9, hu0] at hu; cases hu; exact hdn w9 (by omega) hu hq9) hS ls (lv_sub hl [0, 1, 2, 3, 4] rfl)
            · have hu1 := b2i_n0.mp h2
              refine lv_aload_n hx hb dX7_share_108 rfl (lv_at hl 3 rfl) ?_
              refine va_get (D := g.1) (ci := 7) (v := .ref (b + 10)) (C := RX7) (T := TX7) (N := 18) hx hb hts (by decide +kernel) hown hK.1 (xr_one hO) 0 rfl rfl 14 (by decide) (hts (.fieldLink RX7 45 "SharesDeskModel" "poor" "[Z") (by decide +kernel)) (fun _ h9 => h9) rfl dX7_share_109 ?_
              refine lv_iload hx hb dX7_share_112 (lv_at hl 0 rfl) ?_
              refine xr_zrd hx hb hK hPo hv48 (by decide) dX7_share_114 ?_
              refine lv_if_eq (tgt := 121) hx hb dX7_share_115 (by decide) (fun h3 => ?_) (fun h3 => ?_)
              · have hp0 := b2i_0.mp h3
                refine lv_aload_n hx hb dX7_share_121 rfl (lv_at hl 3 rfl) ?_
                refine lv_sipush (v := 849) hx hb dX7_share_122 (by decide) ?_
                refine xr_ti (x' := nI 849) rfl ?_
                refine lv_iload hx hb dX7_share_125 (lv_at hl 0 rfl) ?_
                refine lv_iload_n hx hb dX7_share_127 rfl (lv_at hl 2 rfl) ?_
                refine xr_Vv (rest := []) ⟨hx, hb, hml, hown, hts⟩ (KK_ok g) hK (c_X7_times l g H b th bu ob cn rn (nI k) ln hO R1 hM1 849 v k0 (by decide) (by omega) (by omega) (by rw [e8]; exact Nat.lt_of_le_of_lt e6 (by decide))) (cwV 3 hts gX7_share_X7_times rfl rfl rfl (by decide +kernel) ⟨Nat.le_of_ble_eq_true rfl, Nat.le_of_ble_eq_true rfl⟩) (xr_rec hK hO rfl) rfl hl.1 rfl (Nat.le_of_ble_eq_true rfl) dX7_share_128 ⟨Nat.le_of_ble_eq_true rfl, Nat.le_of_ble_eq_true rfl⟩ hS (fun q h => by have h : q = b + 1 := h; show q = b ∨ q = b + 1 ∨ q = b + 10; omega) (fun _ H locs hq hz hkp hS => ?_)
                replace hkp := fun (q : Nat) h1 (h2 : ¬ (q = b + 1)) => hkp q h1 h2
                replace hO := hO.kept (hkp _ hO.lt (by omega))
                replace hOl := hOl.kept (fun q hq1 hq2 hq3 => hkp q hq1 (by omega))
                replace hPo := hPo.kept (hkp _ hPo.lt (by omega))
                obtain ⟨R2, hR2⟩ : ∃ r9 : Nat → Nat, r9 = va_up R1 849 (R1 v * k0) := ⟨_, rfl⟩
                have hMR2 : RwsAt g H b R2 := by rw [hR2]; exact hq
                have f1 : R2 849 = Rw v * k0 := by rw [hR2, va_up_self, e8]
                have f2 : R2 850 = r := by rw [hR2, va_up_ne _ _ (by decide), er]
                have f3 : R2 851 = r0 := by rw [hR2, va_up_ne _ _ (by decide), eq1]
                have f4 : ∀ j, j ≠ 849 → j ≠ 850 → j ≠ 851 → R2 j = Rw j := fun j j1 j2 j3 => by rw [hR2, va_up_ne _ _ j1, eo j j1 j2 j3]
                clear hq
                refine lv_aload_n hx hb dX7_share_131 rfl (lv_at hl 3 rfl) ?_
                refine lv_sipush (v := 849) hx hb dX7_share_132 (by decide) ?_
                refine xr_ti (x' := nI 849) rfl ?_
                refine lv_sipush (v := 851) hx hb dX7_share_135 (by decide) ?_
                refine xr_ti (x' := nI 851) rfl ?_
                refine xr_Vi (rest := []) ⟨hx, hb, hml, hown, hts⟩ (KK_ok g) hK (c_X7_compare l g H b th bu ob cn rn (nI k) ln hO R2 hMR2 849 851 (by decide) (by decide)) (cwV 2 hts gX7_share_X7_compare rfl rfl rfl (by decide +kernel) ⟨Nat.le_of_ble_eq_true rfl, Nat.le_of_ble_eq_true rfl⟩) (xr_rec hK hO rfl) rfl hl.1 rfl (Nat.le_of_ble_eq_true rfl) dX7_share_138 ⟨Nat.le_of_ble_eq_true rfl, Nat.le_of_ble_eq_true rfl⟩ hS (fun q h => h.elim) (fun r H locs hq hz hkp hS9 => ?_)
                obtain ⟨rfl, rfl⟩ := hq
                have hS := hS9
                refine lv_if_lt (tgt := 147) hx hb dX7_share_141 (by decide) (fun h4 => ?_) (fun h4 => ?_)
                · have hlt : Rw v * k0 < r0 := by have := cmpI_lt0 h4; rw [f1, f3] at this; exact this
                  obtain ⟨m1, m2, m3, m4⟩ := hI.mark haf (by have := hI0.2.2.1; omega) hrk hv48 hu1 hp0 hlt
                  refine lv_aload_n hx hb dX7_share_147 rfl (lv_at hl 3 rfl) ?_
                  refine va_get (D := g.1) (ci := 7) (v := .ref (b + 10)) (C := RX7) (T := TX7) (N := 18) hx hb hts (by decide +kernel) hown hK.1 (xr_one hO) 0 rfl rfl 14 (by decide) (hts (.fieldLink RX7 45 "SharesDeskModel" "poor" "[Z") (by decide +kernel)) (fun _ h9 => h9) rfl dX7_share_148 ?_
                  refine lv_iload hx hb dX7_share_151 (lv_at hl 0 rfl) ?_
                  refine lv_iconst (v := 1) hx hb dX7_share_153 (by decide) ?_
                  refine xr_ti (x' := b2i true) rfl ?_
                  refine xr_zwr hx hb hK hS (show b + 10 = b ∨ b + 10 = b + 1 ∨ b + 10 = b + 10 from Or.inr (Or.inr rfl)) hPo hv48 (by decide) dX7_share_154 (fun H locs hz hkp hPo hS => ?_)
                  replace hO := hO.kept (hkp _ (by omega))
                  replace hOl := hOl.kept (fun q hq1 hq2 hq3 => hkp q (by omega))
                  replace hMR2 := hMR2.kept (hkp _ (by omega))
                  refine lv_aload_n hx hb dX7_share_155 rfl (lv_at hl 3 rfl) ?_
                  refine lv_sipush (v := 850) hx hb dX7_share_156 (by decide) ?_
                  refine xr_ti (x' := nI 850) rfl ?_
                  refine lv_sipush (v := 850) hx hb dX7_share_159 (by decide) ?_
                  refine xr_ti (x' := nI 850) rfl ?_
                  refine lv_iload hx hb dX7_share_162 (lv_at hl 0 rfl) ?_
                  refine xr_Vv (rest := []) ⟨hx, hb, hml, hown, hts⟩ (KK_ok g) hK (c_X7_lessen l g H b th bu ob cn rn (nI k) ln hO R2 hMR2 850 850 v (by decide) (by decide) (by omega) (by rw [f2, f4 v (by omega) (by omega) (by omega)]; exact m1)) (cwV 3 hts gX7_share_X7_lessen rfl rfl rfl (by decide +kernel) ⟨Nat.le_of_ble_eq_true rfl, Nat.le_of_ble_eq_true rfl⟩) (xr_rec hK hO rfl) rfl hl.1 rfl (Nat.le_of_ble_eq_true rfl) dX7_share_164 ⟨Nat.le_of_ble_eq_true rfl, Nat.le_of_ble_eq_true rfl⟩ hS (fun q h => by have h : q = b + 1 := h; show q = b ∨ q = b + 1 ∨ q = b + 10; omega) (fun _ H locs hq hz hkp hS => ?_)
                  replace hkp := fun (q : Nat) h1 (h2 : ¬ (q = b + 1)) => hkp q h1 h2
                  replace hO := hO.kept (hkp _ hO.lt (by omega))
                  replace hOl := hOl.kept (fun q hq1 hq2 hq3 => hkp q hq1 (by omega))
                  replace hPo := hPo.kept (hkp _ hPo.lt (by omega))
                  obtain ⟨R3, hR3⟩ : ∃ r9 : Nat → Nat, r9 = va_up R2 850 (R2 850 - R2 v) := ⟨_, rfl⟩
                  have hMR3 : RwsAt g H b R3 := by rw [hR3]; exact hq
                  clear hq
                  refine lv_aload_n hx hb dX7_share_167 rfl (lv_at hl 3 rfl) ?_
                  refine lv_dup hx hb dX7_share_168 rfl ?_
                  refine va_get (D := g.1) (ci := 7) (v := .int (nI k)) (C := RX7) (T := TX7) (N := 18) hx hb hts (by decide +kernel) hown hK.1 (xr_one hO) 0 rfl rfl 15 (by decide) (hts (.fieldLink RX7 111 "SharesDeskModel" "payers" "I") (by decide +kernel)) (fun _ h9 => h9) rfl dX7_share_169 ?_
                  refine lv_iconst (v := 1) hx hb dX7_share_172 (by decide) ?_
                  refine xr_ti (x' := nI 1) rfl ?_
                  refine lv_isub hx hb dX7_share_173 ?_
                  refine xr_ti (x' := nI (k - 1)) (pk_sub (by omega)) ?_
                  refine xr_put (ci := 7) (v := .int (nI (k - 1))) (ty := .int) (C := RX7) (T := TX7) (N := 18) hx hb hts (by decide +kernel) tyX7 tyX7_ok nmX7 hown hK.1 hO hS (Or.inl rfl) rfl 15 (by decide) (hts (.fieldLink RX7 111 "SharesDeskModel" "payers" "I") (by decide +kernel)) rfl (by decide +kernel) rfl rfl (Nat.le_of_ble_eq_true rfl) dX7_share_174 (fun H locs hz hkp hO hS => ?_)
                  replace hOl := hOl.kept (fun q hq1 hq2 hq3 => hkp q (by omega))
                  replace hPo := hPo.kept (hkp _ (by omega))
                  replace hMR3 := hMR3.kept (hkp _ (by omega))
                  refine lv_iconst (v := 1) hx hb dX7_share_177 (by decide) ?_
                  refine xr_ti (x' := b2i true) rfl ?_
                  refine lv_istore_n (lv' := [(2, .int (b2i true)), (4, .int (nI v)), (3, .int (nI k0)), (0, .ref b), (1, .int (nI p))]) hx hb dX7_share_178 rfl hl (by decide) rfl (fun ls hl => ?_)
                  refine lv_iinc (v := nI (v + 1)) (lv' := [(4, .int (nI (v + 1))), (2, .int (b2i true)), (3, .int (nI k0)), (0, .ref b), (1, .int (nI p))]) hx hb dX7_share_179 hl (k := 1) rfl (nI_1 v) (by decide) rfl (fun ls hl => ?_)
                  refine lv_goto (tgt := 91) hx hb dX7_share_182 (by decide) ?_
                  exact ih2 (v + 1) (by omega) H _ R3 (r - Rw v) (k - 1) (va_up pf v true) true hO hMR3 hOl hPo m3 (by rw [hR3, va_up_self, f2, f4 v (by omega) (by omega) (by omega)]) (by rw [hR3, va_up_ne _ _ (by decide), f3]) (fun j j1 j2 j3 => by rw [hR3, va_up_ne _ _ j2, f4 j j1 j2 j3]) m4 (fun q => by cases q) (fun _ => by cases mo with | true => (have := hmt rfl; omega) | false => (have := hmf rfl; omega)) (fun w9 hw hu hq9 => by by_cases e9 : w9 = v; (rw [e9, va_up_self] at hq9; cases hq9); (rw [va_up_ne _ _ e9] at hq9; exact hdn w9 (by omega) hu hq9)) hS ls (lv_sub hl [0, 1, 2, 3, 4] rfl)
                · have hge : r0 ≤ Rw v * k0 := by have := cmpI_nl h4; rw [f1, f3] at this; omega
                  refine lv_goto (tgt := 179) hx hb dX7_share_144 (by decide) ?_
                  refine lv_iinc (v := nI (v + 1)) (lv' := [(4, .int (nI (v + 1))), (2, .int (b2i mo)), (3, .int (nI k0)), (0, .ref b), (1, .int (nI p))]) hx hb dX7_share_179 hl (k := 0) rfl (nI_1 v) (by decide) rfl (fun ls hl => ?_)
                  refine lv_goto (tgt := 91) hx hb dX7_share_182 (by decide) ?_
                  exact ih2 (v + 1) (by omega) H _ R2 r k pf mo hO hMR2 hOl hPo hI (f2) (f3) (f4) hrk hmf hmt (fun w9 hw hu hq9 => by by_cases e9 : w9 = v; rw [e9]; exact hge; exact hdn w9 (by omega) hu hq9) hS ls (lv_sub hl [0, 1, 2, 3, 4] rfl)
              · have hp1 := b2i_n0.mp h3
                refine lv_goto (tgt := 179) hx hb dX7_share_118 (by decide) ?_
                refine lv_iinc (v := nI (v + 1)) (lv' := [(4, .int (nI (v + 1))), (2, .int (b2i mo)), (3, .int (nI k0)), (0, .ref b), (1, .int (nI p))]) hx hb dX7_share_179 hl (k := 0) rfl (nI_1 v) (by decide) rfl (fun ls hl => ?_)
                refine lv_goto (tgt := 91) hx hb dX7_share_182 (by decide) ?_
                exact ih2 (v + 1) (by omega) H _ R1 r k pf mo hO hM1 hOl hPo hI (er) (eq1) (eo) hrk hmf hmt (fun w9 hw hu hq9 => by by_cases e9 : w9 = v; rw [e9, hp1] at hq9; cases hq9; exact hdn w9 (by omega) hu hq9) hS ls (lv_sub hl [0, 1, 2, 3, 4] rfl)
      refine lv_iload_n hx hb dX7_share_67 rfl (lv_at hl 0 rfl) ?_
      refine lv_if_eq (tgt := 188) hx hb dX7_share_68 (by decide) (fun hc => ?_) (fun hc => ?_)
      · exact absurd hc (by decide)
      · clear hc
        refine lv_iconst (v := 0) hx hb dX7_share_71 (by decide) ?_
        refine xr_ti (x' := b2i false) rfl ?_
        refine lv_istore_n (lv' := [(2, .int (b2i false)), (0, .ref b), (1, .int (nI p))]) hx hb dX7_share_72 rfl hl (by decide) rfl (fun ls hl => ?_)
        refine lv_aload_n hx hb dX7_share_73 rfl (lv_at hl 1 rfl) ?_
        refine lv_sipush (v := 851) hx hb dX7_share_74 (by decide) ?_
        refine xr_ti (x' := nI 851) rfl ?_
        refine lv_sipush (v := 850) hx hb dX7_share_77 (by decide) ?_
        refine xr_ti (x' := nI 850) rfl ?_
        refine xr_Vv (rest := []) ⟨hx, hb, hml, hown, hts⟩ (KK_ok g) hK (c_X7_copy l g H b th bu ob cn rn (nI k0) ln hO R1 hM1 851 850 (by decide) (by decide)) (cwV 2 hts gX7_share_X7_copy rfl rfl rfl (by decide +kernel) ⟨Nat.le_of_ble_eq_true rfl, Nat.le_of_ble_eq_true rfl⟩) (xr_rec hK hO rfl) rfl hl.1 rfl (Nat.le_of_ble_eq_true rfl) dX7_share_80 ⟨Nat.le_of_ble_eq_true rfl, Nat.le_of_ble_eq_true rfl⟩ hS (fun q h => by have h : q = b + 1 := h; show q = b ∨ q = b + 1 ∨ q = b + 10; omega) (fun _ H locs hq hz hkp hS => ?_)
        replace hkp := fun (q : Nat) h1 (h2 : ¬ (q = b + 1)) => hkp q h1 h2
        replace hO := hO.kept (hkp _ hO.lt (by omega))
        replace hOl := hOl.kept (fun q hq1 hq2 hq3 => hkp q hq1 (by omega))
        replace hPo := hPo.kept (hkp _ hPo.lt (by omega))
        obtain ⟨R2, hR2⟩ : ∃ r9 : Nat → Nat, r9 = va_up R1 851 (R1 850) := ⟨_, rfl⟩
        have hMR2 : RwsAt g H b R2 := by rw [hR2]; exact hq
        refine lv_aload_n hx hb dX7_share_83 rfl (lv_at hl 1 rfl) ?_
        refine va_get (D := g.1) (ci := 7) (v := .int (nI k0)) (C := RX7) (T := TX7) (N := 18) hx hb hts (by decide +kernel) hown hK.1 (xr_one hO) 0 rfl rfl 15 (by decide) (hts (.fieldLink RX7 111 "SharesDeskModel" "payers" "I") (by decide +kernel)) (fun _ h9 => h9) rfl dX7_share_84 ?_
        refine lv_istore_n (lv' := [(3, .int (nI k0)), (2, .int (b2i false)), (0, .ref b), (1, .int (nI p))]) hx hb dX7_share_87 rfl hl (by decide) rfl (fun ls hl => ?_)
        refine lv_iconst (v := 0) hx hb dX7_share_88 (by decide) ?_
        refine xr_ti (x' := nI 0) rfl ?_
        refine lv_istore (lv' := [(4, .int (nI 0)), (3, .int (nI k0)), (2, .int (b2i false)), (0, .ref b), (1, .int (nI p))]) hx hb dX7_share_89 hl (by decide) rfl (fun ls hl => ?_)
        exact inner 48 0 (by omega) H _ R2 r0 k0 pf false hO hMR2 hOl hPo hI0 (by rw [hR2, va_up_ne _ _ (by decide), er0]) (by rw [hR2, va_up_self, er0]) (fun j j1 j2 j3 => by rw [hR2, va_up_ne _ _ j3, eo j j1 j2 j3]) (Nat.le_refl _) (fun _ => ⟨rfl, rfl⟩) (fun q => by cases q) (fun w9 hw => absurd hw (Nat.not_lt_zero _)) hS ls (lv_sub hl [0, 2, 1, 3, 4] rfl)
  have first : ∀ (n v : Nat), v + n = 48 → ∀ (H : Heap) (locs : List Loc) (R1 : Nat → Nat) (pf : Nat → Bool), obj g H b 7 (moF b th bu ob cn rn (nI (sg (fun v9 => if sqp vs ap p v9 = true then 1 else 0) v)) ln) → RwsAt g H b R1 → OldAt g H b c vs ap → xr_ia H (b + 10) (gZ g) 48 (fun z9 => b2i (pf z9)) → R1 850 = Rw 848 * c p → (∀ j, j ≠ 849 → j ≠ 850 → j ≠ 851 → R1 j = Rw j) → (∀ j, j < v → pf j = false) → va_S (fun q => q = b ∨ q = b + 1 ∨ q = b + 10) s.heap H locs → ∀ ls : Array Slot, lv_has ls 5 [(2, .int (nI v)), (0, .ref b), (1, .int (nI p))] → W pgm l env { frames := 1, cells := 0, slots := 0, locals := 28 } s mid ([.ref b, .int (nI p)] : List Value).toArray below meth cde H locs 0 0 (MQ below (xr_Post eV (fun _ H => ∃ (R1 : Nat → Nat) (r k : Nat) (pf : Nat → Bool), obj g H b 7 (moF b th bu ob cn rn (nI k) ln) ∧ RwsAt g H b R1 ∧ xr_ia H (b + 10) (gZ g) 48 (fun z9 => b2i (pf z9)) ∧ IsSh (sqp vs ap p) Rw (Rw 848 * c p) r k ∧ R1 850 = r ∧ k ≤ 48 ∧ (∀ v, v < 48 → (sqp vs ap p) v = true → (pf v = true ↔ Rw v * k < r)) ∧ ∀ j, j ≠ 849 → j ≠ 850 → j ≠ 851 → R1 j = Rw j) (fun q => q = b ∨ q = b + 1 ∨ q = b + 10)) ([.ref b, .int (nI p)] : List Value).toArray s ({ frames := 1, cells := 0, slots := 0, locals := 28 } : Room).cells ({ frames := 1, cells := 0, slots := 0, locals := 28 } : Room).slots (fun q => q = b ∨ q = b + 1 ∨ q = b + 10)) (F0 mid 23 ls []) := by
    intro n
    induction n with
    | zero =>
      intro v h1 H locs R1 pf hO hM1 hOl hPo er eo hpf hS ls hl
      have e : v = 48 := by omega
      subst e
      refine lv_iload_n hx hb dX7_share_23 rfl (lv_at hl 0 rfl) ?_
      refine lv_bipush (v := 48) hx hb dX7_share_24 (by decide) ?_
      refine lv_icmp_ge (tgt := 65) hx hb dX7_share_26 (by decide) (fun hc => ?_) (fun hc => ?_)
      · clear hc
        refine lv_iconst (v := 1) hx hb dX7_share_65 (by decide) ?_
        refine lv_istore_n (lv' := [(2, .int 1), (0, .ref b), (1, .int (nI p))]) hx hb dX7_share_66 rfl hl (by decide) rfl (fun ls hl => ?_)
        exact outer _ H locs R1 _ _ pf (Nat.lt_succ_self _) hO hM1 hOl hPo (SInv.init hN0 haf (fun j hj => hpf j hj)) er eo hS ls (lv_sub hl [0, 1, 2] rfl)
      · exact absurd (by decide) hc
    | succ n ih =>
      intro v h1 H locs R1 pf hO hM1 hOl hPo er eo hpf hS ls hl
      have hv48 : v < 48 := by omega
      refine lv_iload_n hx hb dX7_share_23 rfl (lv_at hl 0 rfl) ?_
      refine lv_bipush (v := 48) hx hb dX7_share_24 (by decide) ?_
      refine lv_icmp_ge (tgt := 65) hx hb dX7_share_26 (by decide) (fun hc => ?_) (fun hc => ?_)
      · exact absurd ((nI_leI (a := 48) (b := v) (by decide) (by omega)).mp hc) (by omega)
      · clear hc
        refine lv_aload_n hx hb dX7_share_29 rfl (lv_at hl 1 rfl) ?_
        refine va_get (D := g.1) (ci := 7) (v := .ref (b + 10)) (C := RX7) (T := TX7) (N := 18) hx hb hts (by decide +kernel) hown hK.1 (xr_one hO) 0 rfl rfl 14 (by decide) (hts (.fieldLink RX7 45 "SharesDeskModel" "poor" "[Z") (by decide +kernel)) (fun _ h9 => h9) rfl dX7_share_30 ?_
        refine lv_iload_n hx hb dX7_share_33 rfl (lv_at hl 0 rfl) ?_
        refine lv_iconst (v := 0) hx hb dX7_share_34 (by decide) ?_
        refine xr_ti (x' := b2i false) rfl ?_
        refine xr_zwr hx hb hK hS (Or.inr (Or.inr rfl)) hPo hv48 (by decide) dX7_share_35 (fun H locs hz hkp hPo hS => ?_)
        replace hO := hO.kept (hkp _ (by omega))
        replace hOl := hOl.kept (fun q hq1 hq2 hq3 => hkp q (by omega))
        replace hM1 := hM1.kept (hkp _ (by omega))
        have hpf : ∀ j, j < v + 1 → va_up pf v false j = false := fun j hj => by by_cases e9 : j = v; (rw [e9, va_up_self]); (rw [va_up_ne _ _ e9]; exact hpf j (by omega))
        refine lv_aload_n hx hb dX7_share_36 rfl (lv_at hl 1 rfl) ?_
        refine lv_dup hx hb dX7_share_37 rfl ?_
        refine va_get (D := g.1) (ci := 7) (v := .int (nI (sg (fun v9 => if sqp vs ap p v9 = true then 1 else 0) v))) (C := RX7) (T := TX7) (N := 18) hx hb hts (by decide +kernel) hown hK.1 (xr_one hO) 0 rfl rfl 15 (by decide) (hts (.fieldLink RX7 111 "SharesDeskModel" "payers" "I") (by decide +kernel)) (fun _ h9 => h9) rfl dX7_share_38 ?_
        refine lv_aload_n hx hb dX7_share_41 rfl (lv_at hl 1 rfl) ?_
        refine lv_iload_n hx hb dX7_share_42 rfl (lv_at hl 0 rfl) ?_
        refine lv_iload_n hx hb dX7_share_43 rfl (lv_at hl 2 rfl) ?_
        refine xr_Vi (rest := [.int (nI (sg (fun v9 => if sqp vs ap p v9 = true then 1 else 0) v)), .ref b]) ⟨hx, hb, hml, hown, hts⟩ (KK_ok g) hK (c_X7_supports l g H b th bu ob cn rn (nI (sg (fun v9 => if sqp vs ap p v9 = true then 1 else 0) v)) ln hO c vs ap hOl v p hv48 hp) (cwV 2 hts gX7_share_X7_supports rfl rfl rfl (by decide +kernel) ⟨Nat.le_of_ble_eq_true rfl, Nat.le_of_ble_eq_true rfl⟩) (xr_rec hK hO rfl) rfl hl.1 rfl (Nat.le_of_ble_eq_true rfl) dX7_share_44 ⟨Nat.le_of_ble_eq_true rfl, Nat.le_of_ble_eq_true rfl⟩ hS (fun q h => h.elim) (fun r H locs hq hz hkp hS9 => ?_)
        obtain ⟨rfl, rfl⟩ := hq
        have hS := hS9
        refine lv_if_eq (tgt := 54) hx hb dX7_share_47 (by decide) (fun h2 => ?_) (fun h2 => ?_)
        · have e := b2i_0.mp h2
          refine lv_iconst (v := 0) hx hb dX7_share_54 (by decide) ?_
          refine xr_ti (x' := nI 0) rfl ?_
          refine lv_iadd hx hb dX7_share_55 ?_
          refine xr_ti (x' := nI (sg (fun v9 => if sqp vs ap p v9 = true then 1 else 0) (v + 1))) (by rw [nI_add, sg, if_neg (by rw [e]; decide)]) ?_
          refine xr_put (ci := 7) (v := .int (nI (sg (fun v9 => if sqp vs ap p v9 = true then 1 else 0) (v + 1)))) (ty := .int) (C := RX7) (T := TX7) (N := 18) hx hb hts (by decide +kernel) tyX7 tyX7_ok nmX7 hown hK.1 hO hS (Or.inl rfl) rfl 15 (by decide) (hts (.fieldLink RX7 111 "SharesDeskModel" "payers" "I") (by decide +kernel)) rfl (by decide +kernel) rfl rfl (Nat.le_of_ble_eq_true rfl) dX7_share_56 (fun H locs hz hkp hO hS => ?_)
          replace hOl := hOl.kept (fun q hq1 hq2 hq3 => hkp q (by omega))
          replace hPo := hPo.kept (hkp _ (by omega))
          replace hM1 := hM1.kept (hkp _ (by omega))
          refine lv_iinc (v := nI (v + 1)) (lv' := [(2, .int (nI (v + 1))), (0, .ref b), (1, .int (nI p))]) hx hb dX7_share_59 hl (k := 0) rfl (nI_1 v) (by decide) rfl (fun ls hl => ?_)
          refine lv_goto (tgt := 23) hx hb dX7_share_62 (by decide) ?_
          exact ih (v + 1) (by omega) H _ R1 _ hO hM1 hOl hPo er eo hpf hS ls (lv_sub hl [0, 1, 2] rfl)
        · have e := b2i_n0.mp h2
          refine lv_iconst (v := 1) hx hb dX7_share_50 (by decide) ?_
          refine xr_ti (x' := nI 1) rfl ?_
          refine lv_goto (tgt := 55) hx hb dX7_share_51 (by decide) ?_
          refine lv_iadd hx hb dX7_share_55 ?_
          refine xr_ti (x' := nI (sg (fun v9 => if sqp vs ap p v9 = true then 1 else 0) (v + 1))) (by rw [nI_add, sg, if_pos e]) ?_
          refine xr_put (ci := 7) (v := .int (nI (sg (fun v9 => if sqp vs ap p v9 = true then 1 else 0) (v + 1)))) (ty := .int) (C := RX7) (T := TX7) (N := 18) hx hb hts (by decide +kernel) tyX7 tyX7_ok nmX7 hown hK.1 hO hS (Or.inl rfl) rfl 15 (by decide) (hts (.fieldLink RX7 111 "SharesDeskModel" "payers" "I") (by decide +kernel)) rfl (by decide +kernel) rfl rfl (Nat.le_of_ble_eq_true rfl) dX7_share_56 (fun H locs hz hkp hO hS => ?_)
          replace hOl := hOl.kept (fun q hq1 hq2 hq3 => hkp q (by omega))
          replace hPo := hPo.kept (hkp _ (by omega))
          replace hM1 := hM1.kept (hkp _ (by omega))
          refine lv_iinc (v := nI (v + 1)) (lv' := [(2, .int (nI (v + 1))), (0, .ref b), (1, .int (nI p))]) hx hb dX7_share_59 hl (k := 0) rfl (nI_1 v) (by decide) rfl (fun ls hl => ?_)
          refine lv_goto (tgt := 23) hx hb dX7_share_62 (by decide) ?_
          exact ih (v + 1) (by omega) H _ R1 _ hO hM1 hOl hPo er eo hpf hS ls (lv_sub hl [0, 1, 2] rfl)
  refine lv_aload_n hx hb dX7_share_0 rfl (lv_at hl 0 rfl) ?_
  refine lv_sipush (v := 850) hx hb dX7_share_1 (by decide) ?_
  refine xr_ti (x' := nI 850) rfl ?_
  refine lv_sipush (v := 848) hx hb dX7_share_4 (by decide) ?_
  refine xr_ti (x' := nI 848) rfl ?_
  refine lv_aload_n hx hb dX7_share_7 rfl (lv_at hl 0 rfl) ?_
  refine va_get (D := g.1) (ci := 7) (v := .ref (b + 5)) (C := RX7) (T := TX7) (N := 18) hx hb hts (by decide +kernel) hown hK.1 (xr_one hO) 0 rfl rfl 6 (by decide) (hts (.fieldLink RX7 27 "SharesDeskModel" "oldCosts" "[I") (by decide +kernel)) (fun _ h9 => h9) rfl dX7_share_8 ?_
  refine lv_iload_n hx hb dX7_share_11 rfl (lv_at hl 1 rfl) ?_
  refine xr_rd hx hb hK hC hp (by decide) dX7_share_12 ?_
  refine xr_Vv (rest := []) ⟨hx, hb, hml, hown, hts⟩ (KK_ok g) hK (c_X7_times l g s.heap b th bu ob cn rn py ln hO Rw hM 850 848 (c p) (by decide) (by decide) (by omega) (Nat.lt_of_le_of_lt hNb (by decide))) (cwV 3 hts gX7_share_X7_times rfl rfl rfl (by decide +kernel) ⟨Nat.le_of_ble_eq_true rfl, Nat.le_of_ble_eq_true rfl⟩) (xr_rec hK hO rfl) rfl hl.1 rfl (Nat.le_of_ble_eq_true rfl) dX7_share_13 ⟨Nat.le_of_ble_eq_true rfl, Nat.le_of_ble_eq_true rfl⟩ hS (fun q h => by have h : q = b + 1 := h; show q = b ∨ q = b + 1 ∨ q = b + 10; omega) (fun _ H locs hq hz hkp hS => ?_)
  replace hkp := fun (q : Nat) h1 (h2 : ¬ (q = b + 1)) => hkp q h1 h2
  replace hO := hO.kept (hkp _ hO.lt (by omega))
  replace hOl := hOl.kept (fun q hq1 hq2 hq3 => hkp q hq1 (by omega))
  replace hPo := hPo.kept (hkp _ hPo.lt (by omega))
  obtain ⟨R1, hR1⟩ : ∃ r9 : Nat → Nat, r9 = va_up Rw 850 (Rw 848 * c p) := ⟨_, rfl⟩
  have hMR1 : RwsAt g H b R1 := by rw [hR1]; exact hq
  clear hq
  refine lv_aload_n hx hb dX7_share_16 rfl (lv_at hl 0 rfl) ?_
  refine lv_iconst (v := 0) hx hb dX7_share_17 (by decide) ?_
  refine xr_ti (x' := nI (sg (fun v9 => if sqp vs ap p v9 = true then 1 else 0) 0)) rfl ?_
  refine xr_put (ci := 7) (v := .int (nI (sg (fun v9 => if sqp vs ap p v9 = true then 1 else 0) 0))) (ty := .int) (C := RX7) (T := TX7) (N := 18) hx hb hts (by decide +kernel) tyX7 tyX7_ok nmX7 hown hK.1 hO hS (Or.inl rfl) rfl 15 (by decide) (hts (.fieldLink RX7 111 "SharesDeskModel" "payers" "I") (by decide +kernel)) rfl (by decide +kernel) rfl rfl (Nat.le_of_ble_eq_true rfl) dX7_share_18 (fun H locs hz hkp hO hS => ?_)
  replace hOl := hOl.kept (fun q hq1 hq2 hq3 => hkp q (by omega))
  replace hPo := hPo.kept (hkp _ (by omega))
  replace hMR1 := hMR1.kept (hkp _ (by omega))
  refine lv_iconst (v := 0) hx hb dX7_share_21 (by decide) ?_
  refine xr_ti (x' := nI 0) rfl ?_
  refine lv_istore_n (lv' := [(2, .int (nI 0)), (0, .ref b), (1, .int (nI p))]) hx hb dX7_share_22 rfl hl (by decide) rfl (fun ls hl => ?_)
  exact first 48 0 (by omega) H _ R1 pf0 hO hMR1 hOl hPo (by rw [hR1, va_up_self]) (fun j j1 j2 j3 => by rw [hR1, va_up_ne _ _ j2]) (fun j hj => absurd hj (Nat.not_lt_zero _)) hS ls (lv_sub hl [0, 1, 2] rfl)
