set_option maxHeartbeats 400000 in
set_option maxRecDepth 100000 in
theorem c_X7_within (l : Launch) (g : WG) (H0 : Heap) (v lo hi : Int32) : Ctr l (KK g) yX7_within wsX7_within { frames := 0, cells := 0, slots := 0, locals := 0 } [.int v, .int lo, .int hi] H0 eI (fun r H => r = b2i (wi v lo hi) ∧ H = H0) (fun _ => False) := by
  refine xr_enter (cc := cX7_within) (maxL := 3) (ret := (some .boolean)) (by decide) rfl (Nat.le_of_ble_eq_true rfl) ?_
  intro pgm env s mid below meth cde hx hb hr hml hts hown hlocks hnm hH hK ls hl
  subst hH
  have hl : lv_has ls 3 [(0, .int v), (1, .int lo), (2, .int hi)] := hl
  have hS : va_S (fun _ => False) s.heap s.heap [] := va_S.rf
  refine lv_iload_n hx hb dX7_within_0 rfl (lv_at hl 0 rfl) ?_
  refine lv_iload_n hx hb dX7_within_1 rfl (lv_at hl 1 rfl) ?_
  refine lv_icmp_lt (tgt := 14) hx hb dX7_within_2 (by decide) (fun h1 => ?_) (fun h1 => ?_)
  · have e : wi v lo hi = false := by unfold wi; rw [decide_eq_false (fun q => i_nle h1 q)]; rfl
    refine lv_iconst (v := 0) hx hb dX7_within_14 (by decide) ?_
    exact xr_zret hx hb hr rfl hlocks hS ⟨by rw [e]; rfl, rfl⟩ dX7_within_15
  · have e1 : lo ≤ v := i_le h1
    refine lv_iload_n hx hb dX7_within_5 rfl (lv_at hl 0 rfl) ?_
    refine lv_iload_n hx hb dX7_within_6 rfl (lv_at hl 2 rfl) ?_
    refine lv_icmp_gt (tgt := 14) hx hb dX7_within_7 (by decide) (fun h2 => ?_) (fun h2 => ?_)
    · have e : wi v lo hi = false := by unfold wi; rw [decide_eq_false (p := v ≤ hi) (fun q => i_nle h2 q), Bool.and_false]
      refine lv_iconst (v := 0) hx hb dX7_within_14 (by decide) ?_
      exact xr_zret hx hb hr rfl hlocks hS ⟨by rw [e]; rfl, rfl⟩ dX7_within_15
    · have e : wi v lo hi = true := by unfold wi; rw [decide_eq_true e1, decide_eq_true (i_le h2)]; rfl
      refine lv_iconst (v := 1) hx hb dX7_within_10 (by decide) ?_
      refine lv_goto (tgt := 15) hx hb dX7_within_11 (by decide) ?_
      exact xr_zret hx hb hr rfl hlocks hS ⟨by rw [e]; rfl, rfl⟩ dX7_within_15
set_option maxHeartbeats 400000 in
set_option maxRecDepth 100000 in
theorem c_X7_isPart (l : Launch) (g : WG) (H0 : Heap) (p wo : Int32) : Ctr l (KK g) yX7_isPart wsX7_isPart { frames := 1, cells := 0, slots := 0, locals := 22 } [.int p, .int wo] H0 eI (fun r H => r = b2i (wi p 0 1 && decide (0 ≤ wo)) ∧ H = H0) (fun _ => False) := by
  refine xr_enter (cc := cX7_isPart) (maxL := 2) (ret := (some .boolean)) (by decide) rfl (Nat.le_of_ble_eq_true rfl) ?_
  intro pgm env s mid below meth cde hx hb hr hml hts hown hlocks hnm hH hK ls hl
  subst hH
  have hl : lv_has ls 2 [(0, .int p), (1, .int wo)] := hl
  have hS : va_S (fun _ => False) s.heap s.heap [] := va_S.rf
  refine lv_iload_n hx hb dX7_isPart_0 rfl (lv_at hl 0 rfl) ?_
  refine lv_iconst (v := 0) hx hb dX7_isPart_1 (by decide) ?_
  refine lv_iconst (v := 1) hx hb dX7_isPart_2 (by decide) ?_
  refine xr_Si (rest := []) ⟨hx, hb, hml, hown, hts⟩ (KK_ok g) hK (c_X7_within l g s.heap p 0 1) (cwS 3 hts gX7_isPart_X7_within rfl rfl rfl (by decide +kernel) ⟨Nat.le_of_ble_eq_true rfl, Nat.le_of_ble_eq_true rfl⟩) rfl hl.1 rfl (Nat.le_of_ble_eq_true rfl) dX7_isPart_3 ⟨Nat.le_of_ble_eq_true rfl, Nat.le_of_ble_eq_true rfl⟩ hS (fun q h => h.elim) (fun r H locs hq hz hkp hS9 => ?_)
  obtain ⟨rfl, rfl⟩ := hq
  have hS := hS9
  refine lv_if_eq (tgt := 17) hx hb dX7_isPart_6 (by decide) (fun h1 => ?_) (fun h1 => ?_)
  · have e := b2i_0.mp h1
    refine lv_iconst (v := 0) hx hb dX7_isPart_17 (by decide) ?_
    exact xr_zret hx hb hr rfl hlocks hS ⟨by rw [e]; rfl, rfl⟩ dX7_isPart_18
  · have e := b2i_n0.mp h1
    refine lv_iload_n hx hb dX7_isPart_9 rfl (lv_at hl 1 rfl) ?_
    refine lv_if_lt (tgt := 17) hx hb dX7_isPart_10 (by decide) (fun h2 => ?_) (fun h2 => ?_)
    · have e2 : ¬ 0 ≤ wo := fun q => i_nle h2 q
      refine lv_iconst (v := 0) hx hb dX7_isPart_17 (by decide) ?_
      exact xr_zret hx hb hr rfl hlocks hS ⟨by rw [e, decide_eq_false e2]; rfl, rfl⟩ dX7_isPart_18
    · have e2 : 0 ≤ wo := i_le h2
      refine lv_iconst (v := 1) hx hb dX7_isPart_13 (by decide) ?_
      refine lv_goto (tgt := 18) hx hb dX7_isPart_14 (by decide) ?_
      exact xr_zret hx hb hr rfl hlocks hS ⟨by rw [e, decide_eq_true e2]; rfl, rfl⟩ dX7_isPart_18
set_option maxHeartbeats 1000000 in
set_option maxRecDepth 100000 in
theorem c_X7_quotient (l : Launch) (g : WG) (H0 : Heap) (b : Nat) (th bu ob cn rn py ln : Int32) (hO : obj g H0 b 7 (moF b th bu ob cn rn py ln)) (Rw : Nat → Nat) (hM : RwsAt g H0 b Rw) (a c : Nat) (ha : a < 860) (hc9 : c < 860) (ha1 : a ≠ 856) (ha2 : a ≠ 857) (hc1 : c ≠ 856) (hc2 : c ≠ 857) (h0 : 0 < Rw c) (h191 : Rw c ≤ 2 ^ 191) : Ctr l (KK g) yX7_quotient wsX7_quotient { frames := 2, cells := 0, slots := 0, locals := 44 } [.ref b, .int (nI a), .int (nI c)] H0 eV (fun _ H => ∃ R1 : Nat → Nat, RwsAt g H b R1 ∧ R1 856 = Rw a / Rw c ∧ R1 857 = Rw a % Rw c ∧ ∀ j, j ≠ 856 → j ≠ 857 → R1 j = Rw j) (fun q => q = b + 1) := by
  refine xr_enter (cc := cX7_quotient) (maxL := 7) (ret := none) (by decide) rfl (Nat.le_of_ble_eq_true rfl) ?_
  intro pgm env s mid below meth cde hx hb hr hml hts hown hlocks hnm hH hK ls hl
  subst hH
  have hl : lv_has ls 7 [(0, .ref b), (1, .int (nI a)), (2, .int (nI c))] := hl
  have hS : va_S (fun q => q = b + 1) s.heap s.heap [] := va_S.rf
  obtain ⟨hf, hRb⟩ := id hM
  have hbp := blen_pos (hRb c hc9) h0
  have hbl := blen_le 192 (Rw a)
  have hbl2 := blen_le 192 (Rw c)
  have main : ∀ (k : Nat), k ≤ 192 → ∀ (H : Heap) (locs : List Loc) (R1 : Nat → Nat), obj g H b 7 (moF b th bu ob cn rn py ln) → RwsAt g H b R1 → R1 856 = Rw a / 2 ^ k / Rw c → R1 857 = Rw a / 2 ^ k % Rw c → (∀ j, j ≠ 856 → j ≠ 857 → R1 j = Rw j) → va_S (fun q => q = b + 1) s.heap H locs → ∀ ls : Array Slot, lv_has ls 7 [(4, .int (nI k - 1)), (0, .ref b), (1, .int (nI a)), (2, .int (nI c))] → W pgm l env { frames := 2, cells := 0, slots := 0, locals := 44 } s mid ([.ref b, .int (nI a), .int (nI c)] : List Value).toArray below meth cde H locs 0 0 (MQ below (xr_Post eV (fun _ H => ∃ R1 : Nat → Nat, RwsAt g H b R1 ∧ R1 856 = Rw a / Rw c ∧ R1 857 = Rw a % Rw c ∧ ∀ j, j ≠ 856 → j ≠ 857 → R1 j = Rw j) (fun q => q = b + 1)) ([.ref b, .int (nI a), .int (nI c)] : List Value).toArray s ({ frames := 2, cells := 0, slots := 0, locals := 44 } : Room).cells ({ frames := 2, cells := 0, slots := 0, locals := 44 } : Room).slots (fun q => q = b + 1)) (F0 mid 154 ls []) := by
    intro k
    induction k with
    | zero =>
      intro hk H locs R1 hO hM1 e1 e2 e3 hS ls hl
      refine lv_iload hx hb dX7_quotient_154 (lv_at hl 0 rfl) ?_
      refine lv_if_lt (tgt := 230) hx hb dX7_quotient_156 (by decide) (fun hc => ?_) (fun hc => ?_)
      · clear hc
        exact xr_vret hx hb hr hlocks hS ⟨R1, hM1, by rw [e1, Nat.pow_zero, Nat.div_one], by rw [e2, Nat.pow_zero, Nat.div_one], e3⟩ dX7_quotient_230
      · exact absurd (by decide) hc
    | succ k ih =>
      intro hk H locs R1 hO hM1 e1 e2 e3 hS ls hl
      rw [nI_pred] at hl
      have hqs := q_step (a := Rw a) (b := Rw c) (i := k) h0
      have hb2 : Rw a / 2 ^ k % 2 < 2 := Nat.mod_lt _ (by decide)
      have hr : R1 857 < Rw c := by rw [e2]; exact Nat.mod_lt _ h0
      have hq8 : R1 856 ≤ Rw a / 2 ^ (k + 1) := by rw [e1]; exact Nat.div_le_self _ _
      have hq7 : Rw a / 2 ^ (k + 1) * 2 ≤ Rw a / 2 ^ k := by rw [Nat.pow_succ, ← Nat.div_div_eq_div_mul]; omega
      have hq6 : Rw a / 2 ^ k ≤ Rw a := Nat.div_le_self _ _
      have hra := hRb a ha
      refine lv_iload hx hb dX7_quotient_154 (lv_at hl 0 rfl) ?_
      refine lv_if_lt (tgt := 230) hx hb dX7_quotient_156 (by decide) (fun hc => ?_) (fun hc => ?_)
      · exact absurd hc (nI_pos (by omega))
      · clear hc
        refine lv_aload_n hx hb dX7_quotient_159 rfl (lv_at hl 1 rfl) ?_
        refine lv_sipush (v := 857) hx hb dX7_quotient_160 (by decide) ?_
        refine xr_ti (x' := nI 857) rfl ?_
        refine lv_aload_n hx hb dX7_quotient_163 rfl (lv_at hl 1 rfl) ?_
        refine lv_iload_n hx hb dX7_quotient_164 rfl (lv_at hl 2 rfl) ?_
        refine lv_iload hx hb dX7_quotient_165 (lv_at hl 0 rfl) ?_
        refine xr_Vi (rest := [.int (nI 857), .ref b]) ⟨hx, hb, hml, hown, hts⟩ (KK_ok g) hK (c_X7_bitOf l g H b th bu ob cn rn py ln hO R1 hM1 a k ha (by omega)) (cwV 2 hts gX7_quotient_X7_bitOf rfl rfl rfl (by decide +kernel) ⟨Nat.le_of_ble_eq_true rfl, Nat.le_of_ble_eq_true rfl⟩) (xr_rec hK hO rfl) rfl hl.1 rfl (Nat.le_of_ble_eq_true rfl) dX7_quotient_167 ⟨Nat.le_of_ble_eq_true rfl, Nat.le_of_ble_eq_true rfl⟩ hS (fun q h => h.elim) (fun r H locs hq hz hkp hS9 => ?_)
        obtain ⟨rfl, rfl⟩ := hq
        have hS := hS9
        refine xr_ti (x' := nI (Rw a / 2 ^ k % 2)) (by rw [e3 a ha1 ha2]) ?_
        refine xr_Vv (rest := []) ⟨hx, hb, hml, hown, hts⟩ (KK_ok g) hK (c_X7_twice l g H b th bu ob cn rn py ln hO R1 hM1 857 (Rw a / 2 ^ k % 2) (by decide) (by omega) (by omega)) (cwV 2 hts gX7_quotient_X7_twice rfl rfl rfl (by decide +kernel) ⟨Nat.le_of_ble_eq_true rfl, Nat.le_of_ble_eq_true rfl⟩) (xr_rec hK hO rfl) rfl hl.1 rfl (Nat.le_of_ble_eq_true rfl) dX7_quotient_170 ⟨Nat.le_of_ble_eq_true rfl, Nat.le_of_ble_eq_true rfl⟩ hS (fun q h => h) (fun _ H locs hq hz hkp hS => ?_)
        replace hkp := fun (q : Nat) h1 (h2 : ¬ (q = b + 1)) => hkp q h1 h2
        replace hO := hO.kept (hkp _ hO.lt (by omega))
        obtain ⟨R2, hR2⟩ : ∃ r9 : Nat → Nat, r9 = va_up R1 857 (2 * R1 857 + Rw a / 2 ^ k % 2) := ⟨_, rfl⟩
        have hMR2 : RwsAt g H b R2 := by rw [hR2]; exact hq
        have f1 : R2 856 = R1 856 := by rw [hR2, va_up_ne _ _ (by decide)]
        have f2 : R2 857 = 2 * (Rw a / 2 ^ (k + 1) % Rw c) + Rw a / 2 ^ k % 2 := by rw [hR2, va_up_self, e2]
        have f3 : ∀ j, j ≠ 856 → j ≠ 857 → R2 j = Rw j := fun j j1 j2 => by rw [hR2, va_up_ne _ _ j2, e3 j j1 j2]
        have f4 : R2 c = Rw c := f3 c hc1 hc2
        clear hq
        refine lv_aload_n hx hb dX7_quotient_173 rfl (lv_at hl 1 rfl) ?_
        refine lv_sipush (v := 857) hx hb dX7_quotient_174 (by decide) ?_
        refine xr_ti (x' := nI 857) rfl ?_
        refine lv_iload_n hx hb dX7_quotient_177 rfl (lv_at hl 3 rfl) ?_
        refine xr_Vi (rest := []) ⟨hx, hb, hml, hown, hts⟩ (KK_ok g) hK (c_X7_compare l g H b th bu ob cn rn py ln hO R2 hMR2 857 c (by decide) hc9) (cwV 2 hts gX7_quotient_X7_compare rfl rfl rfl (by decide +kernel) ⟨Nat.le_of_ble_eq_true rfl, Nat.le_of_ble_eq_true rfl⟩) (xr_rec hK hO rfl) rfl hl.1 rfl (Nat.le_of_ble_eq_true rfl) dX7_quotient_178 ⟨Nat.le_of_ble_eq_true rfl, Nat.le_of_ble_eq_true rfl⟩ hS (fun q h => h.elim) (fun r H locs hq hz hkp hS9 => ?_)
        obtain ⟨rfl, rfl⟩ := hq
        have hS := hS9
        refine lv_if_lt (tgt := 188) hx hb dX7_quotient_181 (by decide) (fun hcm => ?_) (fun hcm => ?_)
        · have g1 : ¬ Rw c ≤ 2 * (Rw a / 2 ^ (k + 1) % Rw c) + Rw a / 2 ^ k % 2 := by have := cmpI_lt0 hcm; rw [f2, f4] at this; omega
          refine lv_iconst (v := 0) hx hb dX7_quotient_188 (by decide) ?_
          refine lv_istore (lv' := [(5, .int 0), (4, .int (nI k)), (0, .ref b), (1, .int (nI a)), (2, .int (nI c))]) hx hb dX7_quotient_189 hl (by decide) rfl (fun ls hl => ?_)
          refine lv_iload hx hb dX7_quotient_191 (lv_at hl 0 rfl) ?_
          refine lv_if_eq (tgt := 207) hx hb dX7_quotient_193 (by decide) (fun h9 => ?_) (fun h9 => ?_)
          · clear h9
            refine lv_aload_n hx hb dX7_quotient_207 rfl (lv_at hl 2 rfl) ?_
            refine lv_sipush (v := 856) hx hb dX7_quotient_208 (by decide) ?_
            refine xr_ti (x' := nI 856) rfl ?_
            refine lv_iload hx hb dX7_quotient_211 (lv_at hl 0 rfl) ?_
            refine lv_if_eq (tgt := 220) hx hb dX7_quotient_213 (by decide) (fun h9 => ?_) (fun h9 => ?_)
            · clear h9
              refine lv_iconst (v := 0) hx hb dX7_quotient_220 (by decide) ?_
              refine xr_ti (x' := nI 0) rfl ?_
              refine xr_Vv (rest := []) ⟨hx, hb, hml, hown, hts⟩ (KK_ok g) hK (c_X7_twice l g H b th bu ob cn rn py ln hO R2 hMR2 856 0 (by decide) (by decide) (by rw [f1, e1]; rw [e1] at hq8; omega)) (cwV 2 hts gX7_quotient_X7_twice rfl rfl rfl (by decide +kernel) ⟨Nat.le_of_ble_eq_true rfl, Nat.le_of_ble_eq_true rfl⟩) (xr_rec hK hO rfl) rfl hl.1 rfl (Nat.le_of_ble_eq_true rfl) dX7_quotient_221 ⟨Nat.le_of_ble_eq_true rfl, Nat.le_of_ble_eq_true rfl⟩ hS (fun q h => h) (fun _ H locs hq hz hkp hS => ?_)
              replace hkp := fun (q : Nat) h1 (h2 : ¬ (q = b + 1)) => hkp q h1 h2
              replace hO := hO.kept (hkp _ hO.lt (by omega))
              obtain ⟨R9, hR9⟩ : ∃ r9 : Nat → Nat, r9 = va_up R2 856 (2 * R2 856 + 0) := ⟨_, rfl⟩
              have hMR9 : RwsAt g H b R9 := by rw [hR9]; exact hq
              refine lv_iinc (v := nI k - 1) (lv' := [(4, .int (nI k - 1)), (5, .int 0), (0, .ref b), (1, .int (nI a)), (2, .int (nI c))]) hx hb dX7_quotient_224 hl (k := 1) rfl (by rw [Int32.sub_eq_add_neg]; rfl) (by decide) rfl (fun ls hl => ?_)
              refine lv_goto (tgt := 154) hx hb dX7_quotient_227 (by decide) ?_
              exact ih (by omega) H locs R9 hO hMR9 (by rw [hR9, va_up_self, f1, e1, hqs.2, if_neg g1]) (by rw [hR9, va_up_ne _ _ (by decide), f2, hqs.1, if_neg g1]) (fun j j1 j2 => by rw [hR9, va_up_ne _ _ j1, f3 j j1 j2]) hS ls (lv_sub hl [0, 2, 3, 4] rfl)
            · exact absurd rfl h9
          · exact absurd rfl h9
        · have g1 : Rw c ≤ 2 * (Rw a / 2 ^ (k + 1) % Rw c) + Rw a / 2 ^ k % 2 := by have := cmpI_nl hcm; rw [f2, f4] at this; omega
          refine lv_iconst (v := 1) hx hb dX7_quotient_184 (by decide) ?_
          refine lv_goto (tgt := 189) hx hb dX7_quotient_185 (by decide) ?_
          refine lv_istore (lv' := [(5, .int 1), (4, .int (nI k)), (0, .ref b), (1, .int (nI a)), (2, .int (nI c))]) hx hb dX7_quotient_189 hl (by decide) rfl (fun ls hl => ?_)
          refine lv_iload hx hb dX7_quotient_191 (lv_at hl 0 rfl) ?_
          refine lv_if_eq (tgt := 207) hx hb dX7_quotient_193 (by decide) (fun h9 => ?_) (fun h9 => ?_)
          · exact absurd h9 (by decide)
          · clear h9
            refine lv_aload_n hx hb dX7_quotient_196 rfl (lv_at hl 2 rfl) ?_
            refine lv_sipush (v := 857) hx hb dX7_quotient_197 (by decide) ?_
            refine xr_ti (x' := nI 857) rfl ?_
            refine lv_sipush (v := 857) hx hb dX7_quotient_200 (by decide) ?_
            refine xr_ti (x' := nI 857) rfl ?_
            refine lv_iload_n hx hb dX7_quotient_203 rfl (lv_at hl 4 rfl) ?_
            refine xr_Vv (rest := []) ⟨hx, hb, hml, hown, hts⟩ (KK_ok g) hK (c_X7_lessen l g H b th bu ob cn rn py ln hO R2 hMR2 857 857 c (by decide) (by decide) hc9 (by rw [f2, f4]; exact g1)) (cwV 3 hts gX7_quotient_X7_lessen rfl rfl rfl (by decide +kernel) ⟨Nat.le_of_ble_eq_true rfl, Nat.le_of_ble_eq_true rfl⟩) (xr_rec hK hO rfl) rfl hl.1 rfl (Nat.le_of_ble_eq_true rfl) dX7_quotient_204 ⟨Nat.le_of_ble_eq_true rfl, Nat.le_of_ble_eq_true rfl⟩ hS (fun q h => h) (fun _ H locs hq hz hkp hS => ?_)
            replace hkp := fun (q : Nat) h1 (h2 : ¬ (q = b + 1)) => hkp q h1 h2
            replace hO := hO.kept (hkp _ hO.lt (by omega))
            obtain ⟨R3, hR3⟩ : ∃ r9 : Nat → Nat, r9 = va_up R2 857 (R2 857 - R2 c) := ⟨_, rfl⟩
            have hMR3 : RwsAt g H b R3 := by rw [hR3]; exact hq
            have k1 : R3 856 = R1 856 := by rw [hR3, va_up_ne _ _ (by decide), f1]
            have k2 : R3 857 = 2 * (Rw a / 2 ^ (k + 1) % Rw c) + Rw a / 2 ^ k % 2 - Rw c := by rw [hR3, va_up_self, f2, f4]
            have k3 : ∀ j, j ≠ 856 → j ≠ 857 → R3 j = Rw j := fun j j1 j2 => by rw [hR3, va_up_ne _ _ j2, f3 j j1 j2]
            clear hq
            refine lv_aload_n hx hb dX7_quotient_207 rfl (lv_at hl 2 rfl) ?_
            refine lv_sipush (v := 856) hx hb dX7_quotient_208 (by decide) ?_
            refine xr_ti (x' := nI 856) rfl ?_
            refine lv_iload hx hb dX7_quotient_211 (lv_at hl 0 rfl) ?_
            refine lv_if_eq (tgt := 220) hx hb dX7_quotient_213 (by decide) (fun h9 => ?_) (fun h9 => ?_)
            · exact absurd h9 (by decide)
            · clear h9
              refine lv_iconst (v := 1) hx hb dX7_quotient_216 (by decide) ?_
              refine xr_ti (x' := nI 1) rfl ?_
              refine lv_goto (tgt := 221) hx hb dX7_quotient_217 (by decide) ?_
              refine xr_Vv (rest := []) ⟨hx, hb, hml, hown, hts⟩ (KK_ok g) hK (c_X7_twice l g H b th bu ob cn rn py ln hO R3 hMR3 856 1 (by decide) (by decide) (by rw [k1, e1]; rw [e1] at hq8; omega)) (cwV 2 hts gX7_quotient_X7_twice rfl rfl rfl (by decide +kernel) ⟨Nat.le_of_ble_eq_true rfl, Nat.le_of_ble_eq_true rfl⟩) (xr_rec hK hO rfl) rfl hl.1 rfl (Nat.le_of_ble_eq_true rfl) dX7_quotient_221 ⟨Nat.le_of_ble_eq_true rfl, Nat.le_of_ble_eq_true rfl⟩ hS (fun q h => h) (fun _ H locs hq hz hkp hS => ?_)
              replace hkp := fun (q : Nat) h1 (h2 : ¬ (q = b + 1)) => hkp q h1 h2
              replace hO := hO.kept (hkp _ hO.lt (by omega))
              obtain ⟨R9, hR9⟩ : ∃ r9 : Nat → Nat, r9 = va_up R3 856 (2 * R3 856 + 1) := ⟨_, rfl⟩
              have hMR9 : RwsAt g H b R9 := by rw [hR9]; exact hq
              refine lv_iinc (v := nI k - 1) (lv' := [(4, .int (nI k - 1)), (5, .int 1), (0, .ref b), (1, .int (nI a)), (2, .int (nI c))]) hx hb dX7_quotient_224 hl (k := 1) rfl (by rw [Int32.sub_eq_add_neg]; rfl) (by decide) rfl (fun ls hl => ?_)
              refine lv_goto (tgt := 154) hx hb dX7_quotient_227 (by decide) ?_
              exact ih (by omega) H locs R9 hO hMR9 (by rw [hR9, va_up_self, k1, e1, hqs.2, if_pos g1]) (by rw [hR9, va_up_ne _ _ (by decide), k2, hqs.1, if_pos g1]) (fun j j1 j2 => by rw [hR9, va_up_ne _ _ j1, k3 j j1 j2]) hS ls (lv_sub hl [0, 2, 3, 4] rfl)
  have fill : ∀ (S : Nat), S ≤ 192 → Rw a / 2 ^ S < Rw c → ∀ (R1 : Nat → Nat), (∀ r, r < 860 → R1 r < 2 ^ 192) → R1 856 = 0 → (∀ j, j ≠ 856 → R1 j = Rw j) → ∀ (n k : Nat), k + n = 12 → ∀ (H : Heap) (locs : List Loc), obj g H b 7 (moF b th bu ob cn rn py ln) → xr_ia H (b + 1) (gI g) 10320 (rwA (va_up R1 857 (mixR k (Rw a / 2 ^ S) (R1 857)))) → va_S (fun q => q = b + 1) s.heap H locs → ∀ ls : Array Slot, lv_has ls 7 [(4, .int (nI k)), (3, .int (nI S)), (0, .ref b), (1, .int (nI a)), (2, .int (nI c))] → W pgm l env { frames := 2, cells := 0, slots := 0, locals := 44 } s mid ([.ref b, .int (nI a), .int (nI c)] : List Value).toArray below meth cde H locs 0 0 (MQ below (xr_Post eV (fun _ H => ∃ R1 : Nat → Nat, RwsAt g H b R1 ∧ R1 856 = Rw a / Rw c ∧ R1 857 = Rw a % Rw c ∧ ∀ j, j ≠ 856 → j ≠ 857 → R1 j = Rw j) (fun q => q = b + 1)) ([.ref b, .int (nI a), .int (nI c)] : List Value).toArray s ({ frames := 2, cells := 0, slots := 0, locals := 44 } : Room).cells ({ frames := 2, cells := 0, slots := 0, locals := 44 } : Room).slots (fun q => q = b + 1)) (F0 mid 35 ls []) := by
    intro S hS192 hSl R1 hRb1 p1 p2 n
    have hNa : Rw a / 2 ^ S < 2 ^ 192 := Nat.lt_of_le_of_lt (Nat.div_le_self _ _) (hRb a ha)
    have e9 : R1 a = Rw a := p2 a ha1
    induction n with
    | zero =>
      intro k h1 H locs hO hf hS ls hl
      have e : k = 12 := by omega
      subst e
      refine lv_iload hx hb dX7_quotient_35 (lv_at hl 0 rfl) ?_
      refine lv_bipush (v := 12) hx hb dX7_quotient_37 (by decide) ?_
      refine lv_icmp_ge (tgt := 149) hx hb dX7_quotient_39 (by decide) (fun hc => ?_) (fun hc => ?_)
      · clear hc
        rw [mix_12 hNa (hRb1 857 (by decide))] at hf
        refine lv_iload_n hx hb dX7_quotient_149 rfl (lv_at hl 1 rfl) ?_
        refine lv_iconst (v := 1) hx hb dX7_quotient_150 (by decide) ?_
        refine lv_isub hx hb dX7_quotient_151 ?_
        refine xr_ti (x' := nI S - 1) rfl ?_
        refine lv_istore (lv' := [(4, .int (nI S - 1)), (3, .int (nI S)), (0, .ref b), (1, .int (nI a)), (2, .int (nI c))]) hx hb dX7_quotient_152 hl (by decide) rfl (fun ls hl => ?_)
        exact main S hS192 H locs (va_up R1 857 (Rw a / 2 ^ S)) hO ⟨hf, rw_all hRb1 hNa⟩ (by rw [va_up_ne _ _ (by decide), p1, Nat.div_eq_of_lt hSl]) (by rw [va_up_self, Nat.mod_eq_of_lt hSl]) (fun j j1 j2 => by rw [va_up_ne _ _ j2, p2 j j1]) hS ls (lv_sub hl [0, 2, 3, 4] rfl)
      · exact absurd (by decide) hc
    | succ n ih =>
      intro k h1 H locs hO hf hS ls hl
      have l1 := lb_lt (Rw a) (k + S / 16)
      have l2 := lb_lt (Rw a) (k + 1 + S / 16)
      refine lv_iload hx hb dX7_quotient_35 (lv_at hl 0 rfl) ?_
      refine lv_bipush (v := 12) hx hb dX7_quotient_37 (by decide) ?_
      refine lv_icmp_ge (tgt := 149) hx hb dX7_quotient_39 (by decide) (fun hc => ?_) (fun hc => ?_)
      · exact absurd ((nI_leI (a := 12) (b := k) (by decide) (by omega)).mp hc) (by omega)
      · clear hc
        refine lv_iload hx hb dX7_quotient_42 (lv_at hl 0 rfl) ?_
        refine lv_iload_n hx hb dX7_quotient_44 rfl (lv_at hl 1 rfl) ?_
        refine lv_bipush (v := 16) hx hb dX7_quotient_45 (by decide) ?_
        refine xr_ti (x' := nI 16) rfl ?_
        refine lv_idiv hx hb dX7_quotient_47 (by decide) ?_
        refine xr_ti (x' := nI (S / 16)) (pk_div (by omega) (by decide) (by decide)) ?_
        refine lv_iadd hx hb dX7_quotient_48 ?_
        refine xr_ti (x' := nI (k + S / 16)) (nI_add _ _) ?_
        refine lv_bipush (v := 12) hx hb dX7_quotient_49 (by decide) ?_
        refine xr_ti (x' := nI 12) rfl ?_
        refine lv_icmp_ge (tgt := 74) hx hb dX7_quotient_51 (by decide) (fun h2 => ?_) (fun h2 => ?_)
        · have h4 : 12 ≤ k + S / 16 := (nI_leI (a := 12) (by decide) (by omega)).mp h2
          refine lv_iconst (v := 0) hx hb dX7_quotient_74 (by decide) ?_
          refine xr_ti (x' := nI (lb (Rw a) (k + S / 16))) (by rw [lb_hi (hRb a ha) h4]; rfl) ?_
          refine lv_istore (lv' := [(5, .int (nI (lb (Rw a) (k + S / 16)))), (4, .int (nI k)), (3, .int (nI S)), (0, .ref b), (1, .int (nI a)), (2, .int (nI c))]) hx hb dX7_quotient_75 hl (by decide) rfl (fun ls hl => ?_)
          refine lv_iload hx hb dX7_quotient_77 (lv_at hl 1 rfl) ?_
          refine lv_iconst (v := 1) hx hb dX7_quotient_79 (by decide) ?_
          refine lv_iadd hx hb dX7_quotient_80 ?_
          refine xr_ti (x' := nI (k + 1)) (nI_1 k) ?_
          refine lv_iload_n hx hb dX7_quotient_81 rfl (lv_at hl 2 rfl) ?_
          refine lv_bipush (v := 16) hx hb dX7_quotient_82 (by decide) ?_
          refine xr_ti (x' := nI 16) rfl ?_
          refine lv_idiv hx hb dX7_quotient_84 (by decide) ?_
          refine xr_ti (x' := nI (S / 16)) (pk_div (by omega) (by decide) (by decide)) ?_
          refine lv_iadd hx hb dX7_quotient_85 ?_
          refine xr_ti (x' := nI (k + 1 + S / 16)) (nI_add _ _) ?_
          refine lv_bipush (v := 12) hx hb dX7_quotient_86 (by decide) ?_
          refine xr_ti (x' := nI 12) rfl ?_
          refine lv_icmp_ge (tgt := 113) hx hb dX7_quotient_88 (by decide) (fun h3 => ?_) (fun h3 => ?_)
          · have h5 : 12 ≤ k + 1 + S / 16 := (nI_leI (a := 12) (by decide) (by omega)).mp h3
            refine lv_iconst (v := 0) hx hb dX7_quotient_113 (by decide) ?_
            refine xr_ti (x' := nI (lb (Rw a) (k + 1 + S / 16))) (by rw [lb_hi (hRb a ha) h5]; rfl) ?_
            refine lv_istore (lv' := [(6, .int (nI (lb (Rw a) (k + 1 + S / 16)))), (5, .int (nI (lb (Rw a) (k + S / 16)))), (4, .int (nI k)), (3, .int (nI S)), (0, .ref b), (1, .int (nI a)), (2, .int (nI c))]) hx hb dX7_quotient_114 hl (by decide) rfl (fun ls hl => ?_)
            refine lv_aload_n hx hb dX7_quotient_116 rfl (lv_at hl 4 rfl) ?_
            refine va_get (D := g.1) (ci := 7) (v := .ref (b + 1)) (C := RX7) (T := TX7) (N := 18) hx hb hts (by decide +kernel) hown hK.1 (xr_one hO) 0 rfl rfl 1 (by decide) (hts (.fieldLink RX7 7 "SharesDeskModel" "m" "[I") (by decide +kernel)) (fun _ h9 => h9) rfl dX7_quotient_117 ?_
            refine lv_sipush (v := 10284) hx hb dX7_quotient_120 (by decide) ?_
            refine xr_ti (x' := nI 10284) rfl ?_
            refine lv_iload hx hb dX7_quotient_123 (lv_at hl 2 rfl) ?_
            refine lv_iadd hx hb dX7_quotient_125 ?_
            refine xr_ti (x' := nI (12 * 857 + k)) (nI_add _ _) ?_
            refine lv_iload hx hb dX7_quotient_126 (lv_at hl 1 rfl) ?_
            refine lv_iload hx hb dX7_quotient_128 (lv_at hl 0 rfl) ?_
            refine lv_bipush (v := 16) hx hb dX7_quotient_130 (by decide) ?_
            refine xr_ti (x' := nI 16) rfl ?_
            refine lv_ishl hx hb dX7_quotient_132 ?_
            refine xr_ti (x' := nI (lb (Rw a) (k + 1 + S / 16) * 65536)) (pk_shlN _ 16 (by decide) (by omega)) ?_
            refine lv_ior hx hb dX7_quotient_133 ?_
            refine xr_ti (x' := nI (lb (Rw a) (k + S / 16) + lb (Rw a) (k + 1 + S / 16) * 65536)) (i_or16 l1) ?_
            refine lv_iload_n hx hb dX7_quotient_134 rfl (lv_at hl 3 rfl) ?_
            refine lv_bipush (v := 16) hx hb dX7_quotient_135 (by decide) ?_
            refine xr_ti (x' := nI 16) rfl ?_
            refine lv_irem hx hb dX7_quotient_137 (by decide) ?_
            refine xr_ti (x' := nI (S % 16)) (pk_rem (by omega) (by decide) (by decide)) ?_
            refine lv_iushr (v := nI ((lb (Rw a) (k + S / 16) + lb (Rw a) (k + 1 + S / 16) * 65536) / 2 ^ (S % 16))) hx hb dX7_quotient_138 (pk_ushrN (by omega) _ (S % 16) (tz_sh _ (by omega))) ?_
            refine lv_ldc (v := (65535)) hx hb hown (hts (.constant RX7 56 (65535)) (by decide +kernel)) dX7_quotient_139 ?_
            refine lv_iand hx hb dX7_quotient_141 ?_
            refine xr_ti (x' := nI ((lb (Rw a) (k + S / 16) + lb (Rw a) (k + 1 + S / 16) * 65536) / 2 ^ (S % 16) % 65536)) (pk_andN (Nat.lt_of_le_of_lt (Nat.div_le_self _ _) (by omega)) 16 rfl) ?_
            refine xr_wr hx hb hK hS (show b + 1 = b + 1 from rfl) hf (show 12 * 857 + k < 10320 by omega) (by decide) dX7_quotient_142 (fun H locs hz hkp hf hS => ?_)
            have hO := hO.kept (hkp b (by omega))
            rw [rw_put (by omega) lb_shift.symm] at hf
            refine lv_iinc (v := nI (k + 1)) (lv' := [(4, .int (nI (k + 1))), (6, .int (nI (lb (Rw a) (k + 1 + S / 16)))), (5, .int (nI (lb (Rw a) (k + S / 16)))), (3, .int (nI S)), (0, .ref b), (1, .int (nI a)), (2, .int (nI c))]) hx hb dX7_quotient_143 hl (k := 2) rfl (nI_1 k) (by decide) rfl (fun ls hl => ?_)
            refine lv_goto (tgt := 35) hx hb dX7_quotient_146 (by decide) ?_
            exact ih (k + 1) (by omega) H locs hO hf hS ls (lv_sub hl [0, 3, 4, 5, 6] rfl)
          · have h5 : k + 1 + S / 16 < 12 := Nat.lt_of_not_le fun q => h3 (nI_le q (by omega))
            refine lv_aload_n hx hb dX7_quotient_91 rfl (lv_at hl 3 rfl) ?_
            refine va_get (D := g.1) (ci := 7) (v := .ref (b + 1)) (C := RX7) (T := TX7) (N := 18) hx hb hts (by decide +kernel) hown hK.1 (xr_one hO) 0 rfl rfl 1 (by decide) (hts (.fieldLink RX7 7 "SharesDeskModel" "m" "[I") (by decide +kernel)) (fun _ h9 => h9) rfl dX7_quotient_92 ?_
            refine lv_bipush (v := 12) hx hb dX7_quotient_95 (by decide) ?_
            refine xr_ti (x' := nI 12) rfl ?_
            refine lv_iload_n hx hb dX7_quotient_97 rfl (lv_at hl 4 rfl) ?_
            refine lv_imul hx hb dX7_quotient_98 ?_
            refine xr_ti (x' := nI (12 * a)) (pk_mul _ _) ?_
            refine lv_iload hx hb dX7_quotient_99 (lv_at hl 1 rfl) ?_
            refine lv_iadd hx hb dX7_quotient_101 ?_
            refine xr_ti (x' := nI (12 * a + k)) (nI_add _ _) ?_
            refine lv_iconst (v := 1) hx hb dX7_quotient_102 (by decide) ?_
            refine lv_iadd hx hb dX7_quotient_103 ?_
            refine xr_ti (x' := nI (12 * a + k + 1)) (nI_1 _) ?_
            refine lv_iload_n hx hb dX7_quotient_104 rfl (lv_at hl 2 rfl) ?_
            refine lv_bipush (v := 16) hx hb dX7_quotient_105 (by decide) ?_
            refine xr_ti (x' := nI 16) rfl ?_
            refine lv_idiv hx hb dX7_quotient_107 (by decide) ?_
            refine xr_ti (x' := nI (S / 16)) (pk_div (by omega) (by decide) (by decide)) ?_
            refine lv_iadd hx hb dX7_quotient_108 ?_
            refine xr_ti (x' := nI (12 * a + (k + 1 + S / 16))) (by rw [nI_add]; congr 1; omega) ?_
            refine xr_rd hx hb hK hf (show 12 * a + (k + 1 + S / 16) < 10320 by omega) (by decide) dX7_quotient_109 ?_
            refine xr_ti (x' := nI (lb (Rw a) (k + 1 + S / 16))) (by rw [rw_at h5, va_up_ne _ _ ha2, e9]) ?_
            refine lv_goto (tgt := 114) hx hb dX7_quotient_110 (by decide) ?_
            refine lv_istore (lv' := [(6, .int (nI (lb (Rw a) (k + 1 + S / 16)))), (5, .int (nI (lb (Rw a) (k + S / 16)))), (4, .int (nI k)), (3, .int (nI S)), (0, .ref b), (1, .int (nI a)), (2, .int (nI c))]) hx hb dX7_quotient_114 hl (by decide) rfl (fun ls hl => ?_)
            refine lv_aload_n hx hb dX7_quotient_116 rfl (lv_at hl 4 rfl) ?_
            refine va_get (D := g.1) (ci := 7) (v := .ref (b + 1)) (C := RX7) (T := TX7) (N := 18) hx hb hts (by decide +kernel) hown hK.1 (xr_one hO) 0 rfl rfl 1 (by decide) (hts (.fieldLink RX7 7 "SharesDeskModel" "m" "[I") (by decide +kernel)) (fun _ h9 => h9) rfl dX7_quotient_117 ?_
            refine lv_sipush (v := 10284) hx hb dX7_quotient_120 (by decide) ?_
            refine xr_ti (x' := nI 10284) rfl ?_
            refine lv_iload hx hb dX7_quotient_123 (lv_at hl 2 rfl) ?_
            refine lv_iadd hx hb dX7_quotient_125 ?_
            refine xr_ti (x' := nI (12 * 857 + k)) (nI_add _ _) ?_
            refine lv_iload hx hb dX7_quotient_126 (lv_at hl 1 rfl) ?_
            refine lv_iload hx hb dX7_quotient_128 (lv_at hl 0 rfl) ?_
            refine lv_bipush (v := 16) hx hb dX7_quotient_130 (by decide) ?_
            refine xr_ti (x' := nI 16) rfl ?_
            refine lv_ishl hx hb dX7_quotient_132 ?_
            refine xr_ti (x' := nI (lb (Rw a) (k + 1 + S / 16) * 65536)) (pk_shlN _ 16 (by decide) (by omega)) ?_
            refine lv_ior hx hb dX7_quotient_133 ?_
            refine xr_ti (x' := nI (lb (Rw a) (k + S / 16) + lb (Rw a) (k + 1 + S / 16) * 65536)) (i_or16 l1) ?_
            refine lv_iload_n hx hb dX7_quotient_134 rfl (lv_at hl 3 rfl) ?_
            refine lv_bipush (v := 16) hx hb dX7_quotient_135 (by decide) ?_
            refine xr_ti (x' := nI 16) rfl ?_
            refine lv_irem hx hb dX7_quotient_137 (by decide) ?_
            refine xr_ti (x' := nI (S % 16)) (pk_rem (by omega) (by decide) (by decide)) ?_
            refine lv_iushr (v := nI ((lb (Rw a) (k + S / 16) + lb (Rw a) (k + 1 + S / 16) * 65536) / 2 ^ (S % 16))) hx hb dX7_quotient_138 (pk_ushrN (by omega) _ (S % 16) (tz_sh _ (by omega))) ?_
            refine lv_ldc (v := (65535)) hx hb hown (hts (.constant RX7 56 (65535)) (by decide +kernel)) dX7_quotient_139 ?_
            refine lv_iand hx hb dX7_quotient_141 ?_
            refine xr_ti (x' := nI ((lb (Rw a) (k + S / 16) + lb (Rw a) (k + 1 + S / 16) * 65536) / 2 ^ (S % 16) % 65536)) (pk_andN (Nat.lt_of_le_of_lt (Nat.div_le_self _ _) (by omega)) 16 rfl) ?_
            refine xr_wr hx hb hK hS (show b + 1 = b + 1 from rfl) hf (show 12 * 857 + k < 10320 by omega) (by decide) dX7_quotient_142 (fun H locs hz hkp hf hS => ?_)
            have hO := hO.kept (hkp b (by omega))
            rw [rw_put (by omega) lb_shift.symm] at hf
            refine lv_iinc (v := nI (k + 1)) (lv' := [(4, .int (nI (k + 1))), (6, .int (nI (lb (Rw a) (k + 1 + S / 16)))), (5, .int (nI (lb (Rw a) (k + S / 16)))), (3, .int (nI S)), (0, .ref b), (1, .int (nI a)), (2, .int (nI c))]) hx hb dX7_quotient_143 hl (k := 2) rfl (nI_1 k) (by decide) rfl (fun ls hl => ?_)
            refine lv_goto (tgt := 35) hx hb dX7_quotient_146 (by decide) ?_
            exact ih (k + 1) (by omega) H locs hO hf hS ls (lv_sub hl [0, 3, 4, 5, 6] rfl)
        · have h4 : k + S / 16 < 12 := Nat.lt_of_not_le fun q => h2 (nI_le q (by omega))
          refine lv_aload_n hx hb dX7_quotient_54 rfl (lv_at hl 2 rfl) ?_
          refine va_get (D := g.1) (ci := 7) (v := .ref (b + 1)) (C := RX7) (T := TX7) (N := 18) hx hb hts (by decide +kernel) hown hK.1 (xr_one hO) 0 rfl rfl 1 (by decide) (hts (.fieldLink RX7 7 "SharesDeskModel" "m" "[I") (by decide +kernel)) (fun _ h9 => h9) rfl dX7_quotient_55 ?_
          refine lv_bipush (v := 12) hx hb dX7_quotient_58 (by decide) ?_
          refine xr_ti (x' := nI 12) rfl ?_
          refine lv_iload_n hx hb dX7_quotient_60 rfl (lv_at hl 3 rfl) ?_
          refine lv_imul hx hb dX7_quotient_61 ?_
          refine xr_ti (x' := nI (12 * a)) (pk_mul _ _) ?_
          refine lv_iload hx hb dX7_quotient_62 (lv_at hl 0 rfl) ?_
          refine lv_iadd hx hb dX7_quotient_64 ?_
          refine xr_ti (x' := nI (12 * a + k)) (nI_add _ _) ?_
          refine lv_iload_n hx hb dX7_quotient_65 rfl (lv_at hl 1 rfl) ?_
          refine lv_bipush (v := 16) hx hb dX7_quotient_66 (by decide) ?_
          refine xr_ti (x' := nI 16) rfl ?_
          refine lv_idiv hx hb dX7_quotient_68 (by decide) ?_
          refine xr_ti (x' := nI (S / 16)) (pk_div (by omega) (by decide) (by decide)) ?_
          refine lv_iadd hx hb dX7_quotient_69 ?_
          refine xr_ti (x' := nI (12 * a + (k + S / 16))) (by rw [nI_add]; congr 1; omega) ?_
          refine xr_rd hx hb hK hf (show 12 * a + (k + S / 16) < 10320 by omega) (by decide) dX7_quotient_70 ?_
          refine xr_ti (x' := nI (lb (Rw a) (k + S / 16))) (by rw [rw_at h4, va_up_ne _ _ ha2, e9]) ?_
          refine lv_goto (tgt := 75) hx hb dX7_quotient_71 (by decide) ?_
          refine lv_istore (lv' := [(5, .int (nI (lb (Rw a) (k + S / 16)))), (4, .int (nI k)), (3, .int (nI S)), (0, .ref b), (1, .int (nI a)), (2, .int (nI c))]) hx hb dX7_quotient_75 hl (by decide) rfl (fun ls hl => ?_)
          refine lv_iload hx hb dX7_quotient_77 (lv_at hl 1 rfl) ?_
          refine lv_iconst (v := 1) hx hb dX7_quotient_79 (by decide) ?_
          refine lv_iadd hx hb dX7_quotient_80 ?_
          refine xr_ti (x' := nI (k + 1)) (nI_1 k) ?_
          refine lv_iload_n hx hb dX7_quotient_81 rfl (lv_at hl 2 rfl) ?_
          refine lv_bipush (v := 16) hx hb dX7_quotient_82 (by decide) ?_
          refine xr_ti (x' := nI 16) rfl ?_
          refine lv_idiv hx hb dX7_quotient_84 (by decide) ?_
          refine xr_ti (x' := nI (S / 16)) (pk_div (by omega) (by decide) (by decide)) ?_
          refine lv_iadd hx hb dX7_quotient_85 ?_
          refine xr_ti (x' := nI (k + 1 + S / 16)) (nI_add _ _) ?_
          refine lv_bipush (v := 12) hx hb dX7_quotient_86 (by decide) ?_
          refine xr_ti (x' := nI 12) rfl ?_
          refine lv_icmp_ge (tgt := 113) hx hb dX7_quotient_88 (by decide) (fun h3 => ?_) (fun h3 => ?_)
          · have h5 : 12 ≤ k + 1 + S / 16 := (nI_leI (a := 12) (by decide) (by omega)).mp h3
            refine lv_iconst (v := 0) hx hb dX7_quotient_113 (by decide) ?_
            refine xr_ti (x' := nI (lb (Rw a) (k + 1 + S / 16))) (by rw [lb_hi (hRb a ha) h5]; rfl) ?_
            refine lv_istore (lv' := [(6, .int (nI (lb (Rw a) (k + 1 + S / 16)))), (5, .int (nI (lb (Rw a) (k + S / 16)))), (4, .int (nI k)), (3, .int (nI S)), (0, .ref b), (1, .int (nI a)), (2, .int (nI c))]) hx hb dX7_quotient_114 hl (by decide) rfl (fun ls hl => ?_)
            refine lv_aload_n hx hb dX7_quotient_116 rfl (lv_at hl 4 rfl) ?_
            refine va_get (D := g.1) (ci := 7) (v := .ref (b + 1)) (C := RX7) (T := TX7) (N := 18) hx hb hts (by decide +kernel) hown hK.1 (xr_one hO) 0 rfl rfl 1 (by decide) (hts (.fieldLink RX7 7 "SharesDeskModel" "m" "[I") (by decide +kernel)) (fun _ h9 => h9) rfl dX7_quotient_117 ?_
            refine lv_sipush (v := 10284) hx hb dX7_quotient_120 (by decide) ?_
            refine xr_ti (x' := nI 10284) rfl ?_
            refine lv_iload hx hb dX7_quotient_123 (lv_at hl 2 rfl) ?_
            refine lv_iadd hx hb dX7_quotient_125 ?_
            refine xr_ti (x' := nI (12 * 857 + k)) (nI_add _ _) ?_
            refine lv_iload hx hb dX7_quotient_126 (lv_at hl 1 rfl) ?_
            refine lv_iload hx hb dX7_quotient_128 (lv_at hl 0 rfl) ?_
            refine lv_bipush (v := 16) hx hb dX7_quotient_130 (by decide) ?_
            refine xr_ti (x' := nI 16) rfl ?_
            refine lv_ishl hx hb dX7_quotient_132 ?_
            refine xr_ti (x' := nI (lb (Rw a) (k + 1 + S / 16) * 65536)) (pk_shlN _ 16 (by decide) (by omega)) ?_
            refine lv_ior hx hb dX7_quotient_133 ?_
            refine xr_ti (x' := nI (lb (Rw a) (k + S / 16) + lb (Rw a) (k + 1 + S / 16) * 65536)) (i_or16 l1) ?_
            refine lv_iload_n hx hb dX7_quotient_134 rfl (lv_at hl 3 rfl) ?_
            refine lv_bipush (v := 16) hx hb dX7_quotient_135 (by decide) ?_
            refine xr_ti (x' := nI 16) rfl ?_
            refine lv_irem hx hb dX7_quotient_137 (by decide) ?_
            refine xr_ti (x' := nI (S % 16)) (pk_rem (by omega) (by decide) (by decide)) ?_
            refine lv_iushr (v := nI ((lb (Rw a) (k + S / 16) + lb (Rw a) (k + 1 + S / 16) * 65536) / 2 ^ (S % 16))) hx hb dX7_quotient_138 (pk_ushrN (by omega) _ (S % 16) (tz_sh _ (by omega))) ?_
            refine lv_ldc (v := (65535)) hx hb hown (hts (.constant RX7 56 (65535)) (by decide +kernel)) dX7_quotient_139 ?_
            refine lv_iand hx hb dX7_quotient_141 ?_
            refine xr_ti (x' := nI ((lb (Rw a) (k + S / 16) + lb (Rw a) (k + 1 + S / 16) * 65536) / 2 ^ (S % 16) % 65536)) (pk_andN (Nat.lt_of_le_of_lt (Nat.div_le_self _ _) (by omega)) 16 rfl) ?_
            refine xr_wr hx hb hK hS (show b + 1 = b + 1 from rfl) hf (show 12 * 857 + k < 10320 by omega) (by decide) dX7_quotient_142 (fun H locs hz hkp hf hS => ?_)
            have hO := hO.kept (hkp b (by omega))
            rw [rw_put (by omega) lb_shift.symm] at hf
            refine lv_iinc (v := nI (k + 1)) (lv' := [(4, .int (nI (k + 1))), (6, .int (nI (lb (Rw a) (k + 1 + S / 16)))), (5, .int (nI (lb (Rw a) (k + S / 16)))), (3, .int (nI S)), (0, .ref b), (1, .int (nI a)), (2, .int (nI c))]) hx hb dX7_quotient_143 hl (k := 2) rfl (nI_1 k) (by decide) rfl (fun ls hl => ?_)
            refine lv_goto (tgt := 35) hx hb dX7_quotient_146 (by decide) ?_
            exact ih (k + 1) (by omega) H locs hO hf hS ls (lv_sub hl [0, 3, 4, 5, 6] rfl)
          · have h5 : k + 1 + S / 16 < 12 := Nat.lt_of_not_le fun q => h3 (nI_le q (by omega))
            refine lv_aload_n hx hb dX7_quotient_91 rfl (lv_at hl 3 rfl) ?_
            refine va_get (D := g.1) (ci := 7) (v := .ref (b + 1)) (C := RX7) (T := TX7) (N := 18) hx hb hts (by decide +kernel) hown hK.1 (xr_one hO) 0 rfl rfl 1 (by decide) (hts (.fieldLink RX7 7 "SharesDeskModel" "m" "[I") (by decide +kernel)) (fun _ h9 => h9) rfl dX7_quotient_92 ?_
            refine lv_bipush (v := 12) hx hb dX7_quotient_95 (by decide) ?_
            refine xr_ti (x' := nI 12) rfl ?_
            refine lv_iload_n hx hb dX7_quotient_97 rfl (lv_at hl 4 rfl) ?_
            refine lv_imul hx hb dX7_quotient_98 ?_
            refine xr_ti (x' := nI (12 * a)) (pk_mul _ _) ?_
            refine lv_iload hx hb dX7_quotient_99 (lv_at hl 1 rfl) ?_
            refine lv_iadd hx hb dX7_quotient_101 ?_
            refine xr_ti (x' := nI (12 * a + k)) (nI_add _ _) ?_
            refine lv_iconst (v := 1) hx hb dX7_quotient_102 (by decide) ?_
            refine lv_iadd hx hb dX7_quotient_103 ?_
            refine xr_ti (x' := nI (12 * a + k + 1)) (nI_1 _) ?_
            refine lv_iload_n hx hb dX7_quotient_104 rfl (lv_at hl 2 rfl) ?_
            refine lv_bipush (v := 16) hx hb dX7_quotient_105 (by decide) ?_
            refine xr_ti (x' := nI 16) rfl ?_
            refine lv_idiv hx hb dX7_quotient_107 (by decide) ?_
            refine xr_ti (x' := nI (S / 16)) (pk_div (by omega) (by decide) (by decide)) ?_
            refine lv_iadd hx hb dX7_quotient_108 ?_
            refine xr_ti (x' := nI (12 * a + (k + 1 + S / 16))) (by rw [nI_add]; congr 1; omega) ?_
            refine xr_rd hx hb hK hf (show 12 * a + (k + 1 + S / 16) < 10320 by omega) (by decide) dX7_quotient_109 ?_
            refine xr_ti (x' := nI (lb (Rw a) (k + 1 + S / 16))) (by rw [rw_at h5, va_up_ne _ _ ha2, e9]) ?_
            refine lv_goto (tgt := 114) hx hb dX7_quotient_110 (by decide) ?_
            refine lv_istore (lv' := [(6, .int (nI (lb (Rw a) (k + 1 + S / 16)))), (5, .int (nI (lb (Rw a) (k + S / 16)))), (4, .int (nI k)), (3, .int (nI S)), (0, .ref b), (1, .int (nI a)), (2, .int (nI c))]) hx hb dX7_quotient_114 hl (by decide) rfl (fun ls hl => ?_)
            refine lv_aload_n hx hb dX7_quotient_116 rfl (lv_at hl 4 rfl) ?_
            refine va_get (D := g.1) (ci := 7) (v := .ref (b + 1)) (C := RX7) (T := TX7) (N := 18) hx hb hts (by decide +kernel) hown hK.1 (xr_one hO) 0 rfl rfl 1 (by decide) (hts (.fieldLink RX7 7 "SharesDeskModel" "m" "[I") (by decide +kernel)) (fun _ h9 => h9) rfl dX7_quotient_117 ?_
            refine lv_sipush (v := 10284) hx hb dX7_quotient_120 (by decide) ?_
            refine xr_ti (x' := nI 10284) rfl ?_
            refine lv_iload hx hb dX7_quotient_123 (lv_at hl 2 rfl) ?_
            refine lv_iadd hx hb dX7_quotient_125 ?_
            refine xr_ti (x' := nI (12 * 857 + k)) (nI_add _ _) ?_
            refine lv_iload hx hb dX7_quotient_126 (lv_at hl 1 rfl) ?_
            refine lv_iload hx hb dX7_quotient_128 (lv_at hl 0 rfl) ?_
            refine lv_bipush (v := 16) hx hb dX7_quotient_130 (by decide) ?_
            refine xr_ti (x' := nI 16) rfl ?_
            refine lv_ishl hx hb dX7_quotient_132 ?_
            refine xr_ti (x' := nI (lb (Rw a) (k + 1 + S / 16) * 65536)) (pk_shlN _ 16 (by decide) (by omega)) ?_
            refine lv_ior hx hb dX7_quotient_133 ?_
            refine xr_ti (x' := nI (lb (Rw a) (k + S / 16) + lb (Rw a) (k + 1 + S / 16) * 65536)) (i_or16 l1) ?_
            refine lv_iload_n hx hb dX7_quotient_134 rfl (lv_at hl 3 rfl) ?_
            refine lv_bipush (v := 16) hx hb dX7_quotient_135 (by decide) ?_
            refine xr_ti (x' := nI 16) rfl ?_
            refine lv_irem hx hb dX7_quotient_137 (by decide) ?_
            refine xr_ti (x' := nI (S % 16)) (pk_rem (by omega) (by decide) (by decide)) ?_
            refine lv_iushr (v := nI ((lb (Rw a) (k + S / 16) + lb (Rw a) (k + 1 + S / 16) * 65536) / 2 ^ (S % 16))) hx hb dX7_quotient_138 (pk_ushrN (by omega) _ (S % 16) (tz_sh _ (by omega))) ?_
            refine lv_ldc (v := (65535)) hx hb hown (hts (.constant RX7 56 (65535)) (by decide +kernel)) dX7_quotient_139 ?_
            refine lv_iand hx hb dX7_quotient_141 ?_
            refine xr_ti (x' := nI ((lb (Rw a) (k + S / 16) + lb (Rw a) (k + 1 + S / 16) * 65536) / 2 ^ (S % 16) % 65536)) (pk_andN (Nat.lt_of_le_of_lt (Nat.div_le_self _ _) (by omega)) 16 rfl) ?_
            refine xr_wr hx hb hK hS (show b + 1 = b + 1 from rfl) hf (show 12 * 857 + k < 10320 by omega) (by decide) dX7_quotient_142 (fun H locs hz hkp hf hS => ?_)
            have hO := hO.kept (hkp b (by omega))
            rw [rw_put (by omega) lb_shift.symm] at hf
            refine lv_iinc (v := nI (k + 1)) (lv' := [(4, .int (nI (k + 1))), (6, .int (nI (lb (Rw a) (k + 1 + S / 16)))), (5, .int (nI (lb (Rw a) (k + S / 16)))), (3, .int (nI S)), (0, .ref b), (1, .int (nI a)), (2, .int (nI c))]) hx hb dX7_quotient_143 hl (k := 2) rfl (nI_1 k) (by decide) rfl (fun ls hl => ?_)
            refine lv_goto (tgt := 35) hx hb dX7_quotient_146 (by decide) ?_
            exact ih (k + 1) (by omega) H locs hO hf hS ls (lv_sub hl [0, 3, 4, 5, 6] rfl)
  have mid9 : ∀ (S : Nat), S ≤ 192 → blen 192 (Rw a) + 1 ≤ S + blen 192 (Rw c) → ∀ (locs : List Loc), va_S (fun q => q = b + 1) s.heap s.heap locs → ∀ ls : Array Slot, lv_has ls 7 [(3, .int (nI S)), (0, .ref b), (1, .int (nI a)), (2, .int (nI c))] → W pgm l env { frames := 2, cells := 0, slots := 0, locals := 44 } s mid ([.ref b, .int (nI a), .int (nI c)] : List Value).toArray below meth cde s.heap locs 0 0 (MQ below (xr_Post eV (fun _ H => ∃ R1 : Nat → Nat, RwsAt g H b R1 ∧ R1 856 = Rw a / Rw c ∧ R1 857 = Rw a % Rw c ∧ ∀ j, j ≠ 856 → j ≠ 857 → R1 j = Rw j) (fun q => q = b + 1)) ([.ref b, .int (nI a), .int (nI c)] : List Value).toArray s ({ frames := 2, cells := 0, slots := 0, locals := 44 } : Room).cells ({ frames := 2, cells := 0, slots := 0, locals := 44 } : Room).slots (fun q => q = b + 1)) (F0 mid 24 ls []) := by
    intro S hS192 hS2 locs hS ls hl
    have hSl := q_first (hRb a ha) (hRb c hc9) h0 hS2
    refine lv_aload_n hx hb dX7_quotient_24 rfl (lv_at hl 1 rfl) ?_
    refine lv_sipush (v := 856) hx hb dX7_quotient_25 (by decide) ?_
    refine xr_ti (x' := nI 856) rfl ?_
    refine lv_lconst (v := 0) hx hb dX7_quotient_28 (by decide) ?_
    refine xr_tl (x' := lN 0) rfl ?_
    refine xr_Vv (rest := []) ⟨hx, hb, hml, hown, hts⟩ (KK_ok g) hK (c_X7_set l g s.heap b th bu ob cn rn py ln hO Rw hM 856 0 (by decide) (by decide)) (cwV 2 hts gX7_quotient_X7_set rfl rfl rfl (by decide +kernel) ⟨Nat.le_of_ble_eq_true rfl, Nat.le_of_ble_eq_true rfl⟩) (xr_rec hK hO rfl) rfl hl.1 rfl (Nat.le_of_ble_eq_true rfl) dX7_quotient_29 ⟨Nat.le_of_ble_eq_true rfl, Nat.le_of_ble_eq_true rfl⟩ hS (fun q h => h) (fun _ H locs hq hz hkp hS => ?_)
    replace hkp := fun (q : Nat) h1 (h2 : ¬ (q = b + 1)) => hkp q h1 h2
    replace hO := hO.kept (hkp _ hO.lt (by omega))
    obtain ⟨R1, hR1⟩ : ∃ r9 : Nat → Nat, r9 = va_up Rw 856 (0) := ⟨_, rfl⟩
    have hMR1 : RwsAt g H b R1 := by rw [hR1]; exact hq
    refine lv_iconst (v := 0) hx hb dX7_quotient_32 (by decide) ?_
    refine xr_ti (x' := nI 0) rfl ?_
    refine lv_istore (lv' := [(4, .int (nI 0)), (3, .int (nI S)), (0, .ref b), (1, .int (nI a)), (2, .int (nI c))]) hx hb dX7_quotient_33 hl (by decide) rfl (fun ls hl => ?_)
    exact fill S hS192 hSl R1 hMR1.2 (by rw [hR1, va_up_self]) (fun j j1 => by rw [hR1, va_up_ne _ _ j1]) 12 0 (by omega) H _ hO (by rw [mix_0, va_same]; exact hMR1.1) hS ls (lv_sub hl [0, 1, 2, 3, 4] rfl)
  refine lv_aload_n hx hb dX7_quotient_0 rfl (lv_at hl 0 rfl) ?_
  refine lv_iload_n hx hb dX7_quotient_1 rfl (lv_at hl 1 rfl) ?_
  refine xr_Vi (rest := []) ⟨hx, hb, hml, hown, hts⟩ (KK_ok g) hK (c_X7_bits l g s.heap b th bu ob cn rn py ln hO Rw hM a ha) (cwV 1 hts gX7_quotient_X7_bits rfl rfl rfl (by decide +kernel) ⟨Nat.le_of_ble_eq_true rfl, Nat.le_of_ble_eq_true rfl⟩) (xr_rec hK hO rfl) rfl hl.1 rfl (Nat.le_of_ble_eq_true rfl) dX7_quotient_2 ⟨Nat.le_of_ble_eq_true rfl, Nat.le_of_ble_eq_true rfl⟩ hS (fun q h => h.elim) (fun r H locs hq hz hkp hS9 => ?_)
  obtain ⟨rfl, rfl⟩ := hq
  have hS := hS9
  refine lv_aload_n hx hb dX7_quotient_5 rfl (lv_at hl 0 rfl) ?_
  refine lv_iload_n hx hb dX7_quotient_6 rfl (lv_at hl 2 rfl) ?_
  refine xr_Vi (rest := [.int (nI (blen 192 (Rw a)))]) ⟨hx, hb, hml, hown, hts⟩ (KK_ok g) hK (c_X7_bits l g s.heap b th bu ob cn rn py ln hO Rw hM c hc9) (cwV 1 hts gX7_quotient_X7_bits rfl rfl rfl (by decide +kernel) ⟨Nat.le_of_ble_eq_true rfl, Nat.le_of_ble_eq_true rfl⟩) (xr_rec hK hO rfl) rfl hl.1 rfl (Nat.le_of_ble_eq_true rfl) dX7_quotient_7 ⟨Nat.le_of_ble_eq_true rfl, Nat.le_of_ble_eq_true rfl⟩ hS (fun q h => h.elim) (fun r H locs hq hz hkp hS9 => ?_)
  obtain ⟨rfl, rfl⟩ := hq
  have hS := hS9
  refine lv_isub hx hb dX7_quotient_10 ?_
  refine lv_iconst (v := 1) hx hb dX7_quotient_11 (by decide) ?_
  refine lv_iadd hx hb dX7_quotient_12 ?_
  refine lv_istore_n (lv' := [(3, .int (((nI (blen 192 (Rw a))) - (nI (blen 192 (Rw c)))) + 1)), (0, .ref b), (1, .int (nI a)), (2, .int (nI c))]) hx hb dX7_quotient_13 rfl hl (by decide) rfl (fun ls hl => ?_)
  refine lv_iload_n hx hb dX7_quotient_14 rfl (lv_at hl 0 rfl) ?_
  refine lv_if_ge (tgt := 22) hx hb dX7_quotient_15 (by decide) (fun h1 => ?_) (fun h1 => ?_)
  · have h2 : blen 192 (Rw c) ≤ blen 192 (Rw a) + 1 := q_sn hbl hbl2 h1
    refine lv_iload_n hx hb dX7_quotient_22 rfl (lv_at hl 0 rfl) ?_
    refine xr_ti (x' := nI (blen 192 (Rw a) + 1 - blen 192 (Rw c))) (q_s h2) ?_
    refine lv_istore_n (lv' := [(3, .int (nI (blen 192 (Rw a) + 1 - blen 192 (Rw c)))), (0, .ref b), (1, .int (nI a)), (2, .int (nI c))]) hx hb dX7_quotient_23 rfl hl (by decide) rfl (fun ls hl => ?_)
    exact mid9 _ (by omega) (by omega) _ hS ls (lv_sub hl [0, 1, 2, 3] rfl)
  · have h2 : blen 192 (Rw a) + 1 < blen 192 (Rw c) := q_sl hbl hbl2 h1
    refine lv_iconst (v := 0) hx hb dX7_quotient_18 (by decide) ?_
    refine xr_ti (x' := nI 0) rfl ?_
    refine lv_goto (tgt := 23) hx hb dX7_quotient_19 (by decide) ?_
    refine lv_istore_n (lv' := [(3, .int (nI 0)), (0, .ref b), (1, .int (nI a)), (2, .int (nI c))]) hx hb dX7_quotient_23 rfl hl (by decide) rfl (fun ls hl => ?_)
    exact mid9 0 (by omega) (by omega) _ hS ls (lv_sub hl [0, 1, 2, 3] rfl)
set_option maxHeartbeats 1000000 in
set_option maxRecDepth 100000 in
theorem c_X7_reduce (l : Launch) (g : WG) (H0 : Heap) (b : Nat) (th bu ob cn rn py ln : Int32) (hO : obj g H0 b 7 (moF b th bu ob cn rn py ln)) (Rw : Nat → Nat) (hM : RwsAt g H0 b Rw) (a c : Nat) (ha : a < 852) (hc9 : c < 852) (h0 : 0 < Rw c) (ha191 : Rw a ≤ 2 ^ 191) (h191 : Rw c ≤ 2 ^ 191) : Ctr l (KK g) yX7_reduce wsX7_reduce { frames := 3, cells := 0, slots := 0, locals := 70 } [.ref b, .int (nI a), .int (nI c)] H0 eV (fun _ H => ∃ R1 : Nat → Nat, RwsAt g H b R1 ∧ R1 852 = Rw a / Nat.gcd (Rw a) (Rw c) ∧ R1 853 = Rw c / Nat.gcd (Rw a) (Rw c) ∧ ∀ j, j < 852 ∨ 857 < j → R1 j = Rw j) (fun q => q = b + 1) := by
  refine xr_enter (cc := cX7_reduce) (maxL := 3) (ret := none) (by decide) rfl (Nat.le_of_ble_eq_true rfl) ?_
  intro pgm env s mid below meth cde hx hb hr hml hts hown hlocks hnm hH hK ls hl
  subst hH
  have hl : lv_has ls 3 [(0, .ref b), (1, .int (nI a)), (2, .int (nI c))] := hl
  have hS : va_S (fun q => q = b + 1) s.heap s.heap [] := va_S.rf
  obtain ⟨hf, hRb⟩ := id hM
  have loop : ∀ (n : Nat) (H : Heap) (locs : List Loc) (R1 : Nat → Nat), R1 855 < n → obj g H b 7 (moF b th bu ob cn rn py ln) → RwsAt g H b R1 → Nat.gcd (R1 854) (R1 855) = Nat.gcd (Rw a) (Rw c) → R1 854 ≤ 2 ^ 191 → R1 855 ≤ 2 ^ 191 → (∀ j, j < 852 ∨ 857 < j → R1 j = Rw j) → va_S (fun q => q = b + 1) s.heap H locs → ∀ ls : Array Slot, lv_has ls 3 [(0, .ref b), (1, .int (nI a)), (2, .int (nI c))] → W pgm l env { frames := 3, cells := 0, slots := 0, locals := 70 } s mid ([.ref b, .int (nI a), .int (nI c)] : List Value).toArray below meth cde H locs 0 0 (MQ below (xr_Post eV (fun _ H => ∃ R1 : Nat → Nat, RwsAt g H b R1 ∧ R1 852 = Rw a / Nat.gcd (Rw a) (Rw c) ∧ R1 853 = Rw c / Nat.gcd (Rw a) (Rw c) ∧ ∀ j, j < 852 ∨ 857 < j → R1 j = Rw j) (fun q => q = b + 1)) ([.ref b, .int (nI a), .int (nI c)] : List Value).toArray s ({ frames := 3, cells := 0, slots := 0, locals := 70 } : Room).cells ({ frames := 3, cells := 0, slots := 0, locals := 70 } : Room).slots (fun q => q = b + 1)) (F0 mid 16 ls []) := by
    intro n
    induction n with
    | zero => intro H locs R1 h; exact absurd h (Nat.not_lt_zero _)
    | succ n ih =>
      intro H locs R1 hn hO hM1 hg hx1 hy1 ho hS ls hl
      refine lv_aload_n hx hb dX7_reduce_16 rfl (lv_at hl 0 rfl) ?_
      refine lv_sipush (v := 855) hx hb dX7_reduce_17 (by decide) ?_
      refine xr_ti (x' := nI 855) rfl ?_
      refine xr_Vi (rest := []) ⟨hx, hb, hml, hown, hts⟩ (KK_ok g) hK (c_X7_isNone l g H b th bu ob cn rn py ln hO R1 hM1 855 (by decide)) (cwV 1 hts gX7_reduce_X7_isNone rfl rfl rfl (by decide +kernel) ⟨Nat.le_of_ble_eq_true rfl, Nat.le_of_ble_eq_true rfl⟩) (xr_rec hK hO rfl) rfl hl.1 rfl (Nat.le_of_ble_eq_true rfl) dX7_reduce_20 ⟨Nat.le_of_ble_eq_true rfl, Nat.le_of_ble_eq_true rfl⟩ hS (fun q h => h.elim) (fun r H locs hq hz hkp hS9 => ?_)
      obtain ⟨rfl, rfl⟩ := hq
      have hS := hS9
      refine lv_if_ne (tgt := 59) hx hb dX7_reduce_23 (by decide) (fun hc => ?_) (fun hc => ?_)
      · have hz0 : R1 855 = 0 := of_decide_eq_true (b2i_n0.mp hc)
        have hg2 : R1 854 = Nat.gcd (Rw a) (Rw c) := by rw [← hg, hz0, Nat.gcd_zero_right]
        have hgp : 0 < Nat.gcd (Rw a) (Rw c) := Nat.gcd_pos_of_pos_right _ h0
        have q1 : R1 a = Rw a := ho a (by omega)
        have q2 : R1 c = Rw c := ho c (by omega)
        refine lv_aload_n hx hb dX7_reduce_59 rfl (lv_at hl 0 rfl) ?_
        refine lv_iload_n hx hb dX7_reduce_60 rfl (lv_at hl 1 rfl) ?_
        refine lv_sipush (v := 854) hx hb dX7_reduce_61 (by decide) ?_
        refine xr_ti (x' := nI 854) rfl ?_
        refine xr_Vv (rest := []) ⟨hx, hb, hml, hown, hts⟩ (KK_ok g) hK (c_X7_quotient l g H b th bu ob cn rn py ln hO R1 hM1 a 854 (by omega) (by decide) (by omega) (by omega) (by decide) (by decide) (by rw [hg2]; exact hgp) hx1) (cwV 2 hts gX7_reduce_X7_quotient rfl rfl rfl (by decide +kernel) ⟨Nat.le_of_ble_eq_true rfl, Nat.le_of_ble_eq_true rfl⟩) (xr_rec hK hO rfl) rfl hl.1 rfl (Nat.le_of_ble_eq_true rfl) dX7_reduce_64 ⟨Nat.le_of_ble_eq_true rfl, Nat.le_of_ble_eq_true rfl⟩ hS (fun q h => h) (fun _ H locs hq hz hkp hS => ?_)
        replace hkp := fun (q : Nat) h1 (h2 : ¬ (q = b + 1)) => hkp q h1 h2
        replace hO := hO.kept (hkp _ hO.lt (by omega))
        obtain ⟨Q1, hMQ1, Q1q, Q1r, Q1o⟩ := hq
        refine lv_aload_n hx hb dX7_reduce_67 rfl (lv_at hl 0 rfl) ?_
        refine lv_sipush (v := 852) hx hb dX7_reduce_68 (by decide) ?_
        refine xr_ti (x' := nI 852) rfl ?_
        refine lv_sipush (v := 856) hx hb dX7_reduce_71 (by decide) ?_
        refine xr_ti (x' := nI 856) rfl ?_
        refine xr_Vv (rest := []) ⟨hx, hb, hml, hown, hts⟩ (KK_ok g) hK (c_X7_copy l g H b th bu ob cn rn py ln hO Q1 hMQ1 852 856 (by decide) (by decide)) (cwV 2 hts gX7_reduce_X7_copy rfl rfl rfl (by decide +kernel) ⟨Nat.le_of_ble_eq_true rfl, Nat.le_of_ble_eq_true rfl⟩) (xr_rec hK hO rfl) rfl hl.1 rfl (Nat.le_of_ble_eq_true rfl) dX7_reduce_74 ⟨Nat.le_of_ble_eq_true rfl, Nat.le_of_ble_eq_true rfl⟩ hS (fun q h => h) (fun _ H locs hq hz hkp hS => ?_)
        replace hkp := fun (q : Nat) h1 (h2 : ¬ (q = b + 1)) => hkp q h1 h2
        replace hO := hO.kept (hkp _ hO.lt (by omega))
        obtain ⟨P1, hP1⟩ : ∃ r9 : Nat → Nat, r9 = va_up Q1 852 (Q1 856) := ⟨_, rfl⟩
        have hMP1 : RwsAt g H b P1 := by rw [hP1]; exact hq
        clear hq
        refine lv_aload_n hx hb dX7_reduce_77 rfl (lv_at hl 0 rfl) ?_
        refine lv_iload_n hx hb dX7_reduce_78 rfl (lv_at hl 2 rfl) ?_
        refine lv_sipush (v := 854) hx hb dX7_reduce_79 (by decide) ?_
        refine xr_ti (x' := nI 854) rfl ?_
        have s1 : P1 c = Rw c := by rw [hP1, va_up_ne _ _ (by omega), Q1o c (by omega) (by omega), q2]
        have s2 : P1 854 = Nat.gcd (Rw a) (Rw c) := by rw [hP1, va_up_ne _ _ (by decide), Q1o 854 (by decide) (by decide), hg2]
        have s3 : P1 852 = Rw a / Nat.gcd (Rw a) (Rw c) := by rw [hP1, va_up_self, Q1q, q1, hg2]
        refine xr_Vv (rest := []) ⟨hx, hb, hml, hown, hts⟩ (KK_ok g) hK (c_X7_quotient l g H b th bu ob cn rn py ln hO P1 hMP1 c 854 (by omega) (by decide) (by omega) (by omega) (by decide) (by decide) (by rw [s2]; exact hgp) (by rw [s2, ← hg2]; exact hx1)) (cwV 2 hts gX7_reduce_X7_quotient rfl rfl rfl (by decide +kernel) ⟨Nat.le_of_ble_eq_true rfl, Nat.le_of_ble_eq_true rfl⟩) (xr_rec hK hO rfl) rfl hl.1 rfl (Nat.le_of_ble_eq_true rfl) dX7_reduce_82 ⟨Nat.le_of_ble_eq_true rfl, Nat.le_of_ble_eq_true rfl⟩ hS (fun q h => h) (fun _ H locs hq hz hkp hS => ?_)
        replace hkp := fun (q : Nat) h1 (h2 : ¬ (q = b + 1)) => hkp q h1 h2
        replace hO := hO.kept (hkp _ hO.lt (by omega))
        obtain ⟨Q2, hMQ2, Q2q, Q2r, Q2o⟩ := hq
        refine lv_aload_n hx hb dX7_reduce_85 rfl (lv_at hl 0 rfl) ?_
        refine lv_sipush (v := 853) hx hb dX7_reduce_86 (by decide) ?_
        refine xr_ti (x' := nI 853) rfl ?_
        refine lv_sipush (v := 856) hx hb dX7_reduce_89 (by decide) ?_
        refine xr_ti (x' := nI 856) rfl ?_
        refine xr_Vv (rest := []) ⟨hx, hb, hml, hown, hts⟩ (KK_ok g) hK (c_X7_copy l g H b th bu ob cn rn py ln hO Q2 hMQ2 853 856 (by decide) (by decide)) (cwV 2 hts gX7_reduce_X7_copy rfl rfl rfl (by decide +kernel) ⟨Nat.le_of_ble_eq_true rfl, Nat.le_of_ble_eq_true rfl⟩) (xr_rec hK hO rfl) rfl hl.1 rfl (Nat.le_of_ble_eq_true rfl) dX7_reduce_92 ⟨Nat.le_of_ble_eq_true rfl, Nat.le_of_ble_eq_true rfl⟩ hS (fun q h => h) (fun _ H locs hq hz hkp hS => ?_)
        replace hkp := fun (q : Nat) h1 (h2 : ¬ (q = b + 1)) => hkp q h1 h2
        replace hO := hO.kept (hkp _ hO.lt (by omega))
        obtain ⟨P2, hP2⟩ : ∃ r9 : Nat → Nat, r9 = va_up Q2 853 (Q2 856) := ⟨_, rfl⟩
        have hMP2 : RwsAt g H b P2 := by rw [hP2]; exact hq
        clear hq
        exact xr_vret hx hb hr hlocks hS ⟨P2, hMP2, by rw [hP2, va_up_ne _ _ (by decide), Q2o 852 (by decide) (by decide), s3], by rw [hP2, va_up_self, Q2q, s1, s2], fun j hj => by rw [hP2, va_up_ne _ _ (by omega), Q2o j (by omega) (by omega), hP1, va_up_ne _ _ (by omega), Q1o j (by omega) (by omega), ho j hj]⟩ dX7_reduce_95
      · have hz0 : ¬ R1 855 = 0 := of_decide_eq_false (b2i_0.mp hc)
        refine lv_aload_n hx hb dX7_reduce_26 rfl (lv_at hl 0 rfl) ?_
        refine lv_sipush (v := 854) hx hb dX7_reduce_27 (by decide) ?_
        refine xr_ti (x' := nI 854) rfl ?_
        refine lv_sipush (v := 855) hx hb dX7_reduce_30 (by decide) ?_
        refine xr_ti (x' := nI 855) rfl ?_
        refine xr_Vv (rest := []) ⟨hx, hb, hml, hown, hts⟩ (KK_ok g) hK (c_X7_quotient l g H b th bu ob cn rn py ln hO R1 hM1 854 855 (by decide) (by decide) (by decide) (by decide) (by decide) (by decide) (by omega) hy1) (cwV 2 hts gX7_reduce_X7_quotient rfl rfl rfl (by decide +kernel) ⟨Nat.le_of_ble_eq_true rfl, Nat.le_of_ble_eq_true rfl⟩) (xr_rec hK hO rfl) rfl hl.1 rfl (Nat.le_of_ble_eq_true rfl) dX7_reduce_33 ⟨Nat.le_of_ble_eq_true rfl, Nat.le_of_ble_eq_true rfl⟩ hS (fun q h => h) (fun _ H locs hq hz hkp hS => ?_)
        replace hkp := fun (q : Nat) h1 (h2 : ¬ (q = b + 1)) => hkp q h1 h2
        replace hO := hO.kept (hkp _ hO.lt (by omega))
        obtain ⟨Q1, hMQ1, Q1q, Q1r, Q1o⟩ := hq
        refine lv_aload_n hx hb dX7_reduce_36 rfl (lv_at hl 0 rfl) ?_
        refine lv_sipush (v := 854) hx hb dX7_reduce_37 (by decide) ?_
        refine xr_ti (x' := nI 854) rfl ?_
        refine lv_sipush (v := 855) hx hb dX7_reduce_40 (by decide) ?_
        refine xr_ti (x' := nI 855) rfl ?_
        refine xr_Vv (rest := []) ⟨hx, hb, hml, hown, hts⟩ (KK_ok g) hK (c_X7_copy l g H b th bu ob cn rn py ln hO Q1 hMQ1 854 855 (by decide) (by decide)) (cwV 2 hts gX7_reduce_X7_copy rfl rfl rfl (by decide +kernel) ⟨Nat.le_of_ble_eq_true rfl, Nat.le_of_ble_eq_true rfl⟩) (xr_rec hK hO rfl) rfl hl.1 rfl (Nat.le_of_ble_eq_true rfl) dX7_reduce_43 ⟨Nat.le_of_ble_eq_true rfl, Nat.le_of_ble_eq_true rfl⟩ hS (fun q h => h) (fun _ H locs hq hz hkp hS => ?_)
        replace hkp := fun (q : Nat) h1 (h2 : ¬ (q = b + 1)) => hkp q h1 h2
        replace hO := hO.kept (hkp _ hO.lt (by omega))
        obtain ⟨P1, hP1⟩ : ∃ r9 : Nat → Nat, r9 = va_up Q1 854 (Q1 855) := ⟨_, rfl⟩
        have hMP1 : RwsAt g H b P1 := by rw [hP1]; exact hq
        clear hq
        refine lv_aload_n hx hb dX7_reduce_46 rfl (lv_at hl 0 rfl) ?_
        refine lv_sipush (v := 855) hx hb dX7_reduce_47 (by decide) ?_
        refine xr_ti (x' := nI 855) rfl ?_
        refine lv_sipush (v := 857) hx hb dX7_reduce_50 (by decide) ?_
        refine xr_ti (x' := nI 857) rfl ?_
        refine xr_Vv (rest := []) ⟨hx, hb, hml, hown, hts⟩ (KK_ok g) hK (c_X7_copy l g H b th bu ob cn rn py ln hO P1 hMP1 855 857 (by decide) (by decide)) (cwV 2 hts gX7_reduce_X7_copy rfl rfl rfl (by decide +kernel) ⟨Nat.le_of_ble_eq_true rfl, Nat.le_of_ble_eq_true rfl⟩) (xr_rec hK hO rfl) rfl hl.1 rfl (Nat.le_of_ble_eq_true rfl) dX7_reduce_53 ⟨Nat.le_of_ble_eq_true rfl, Nat.le_of_ble_eq_true rfl⟩ hS (fun q h => h) (fun _ H locs hq hz hkp hS => ?_)
        replace hkp := fun (q : Nat) h1 (h2 : ¬ (q = b + 1)) => hkp q h1 h2
        replace hO := hO.kept (hkp _ hO.lt (by omega))
        obtain ⟨P2, hP2⟩ : ∃ r9 : Nat → Nat, r9 = va_up P1 855 (P1 857) := ⟨_, rfl⟩
        have hMP2 : RwsAt g H b P2 := by rw [hP2]; exact hq
        clear hq
        have s1 : P2 854 = R1 855 := by rw [hP2, va_up_ne _ _ (by decide), hP1, va_up_self, Q1o 855 (by decide) (by decide)]
        have s2 : P2 855 = R1 854 % R1 855 := by rw [hP2, va_up_self, hP1, va_up_ne _ _ (by decide), Q1r]
        have s3 : R1 854 % R1 855 < R1 855 := Nat.mod_lt _ (by omega)
        refine lv_goto (tgt := 16) hx hb dX7_reduce_56 (by decide) ?_
        exact ih H locs P2 (by rw [s2]; omega) hO hMP2 (by rw [s1, s2, ← hg, Nat.gcd_comm (R1 855) (R1 854 % R1 855), ← Nat.gcd_rec, Nat.gcd_comm]) (by rw [s1]; exact hy1) (by rw [s2]; omega) (fun j hj => by rw [hP2, va_up_ne _ _ (by omega), hP1, va_up_ne _ _ (by omega), Q1o j (by omega) (by omega), ho j hj]) hS ls (lv_sub hl [0, 1, 2] rfl)
  refine lv_aload_n hx hb dX7_reduce_0 rfl (lv_at hl 0 rfl) ?_
  refine lv_sipush (v := 854) hx hb dX7_reduce_1 (by decide) ?_
  refine xr_ti (x' := nI 854) rfl ?_
  refine lv_iload_n hx hb dX7_reduce_4 rfl (lv_at hl 1 rfl) ?_
  refine xr_Vv (rest := []) ⟨hx, hb, hml, hown, hts⟩ (KK_ok g) hK (c_X7_copy l g s.heap b th bu ob cn rn py ln hO Rw hM 854 a (by decide) (by omega)) (cwV 2 hts gX7_reduce_X7_copy rfl rfl rfl (by decide +kernel) ⟨Nat.le_of_ble_eq_true rfl, Nat.le_of_ble_eq_true rfl⟩) (xr_rec hK hO rfl) rfl hl.1 rfl (Nat.le_of_ble_eq_true rfl) dX7_reduce_5 ⟨Nat.le_of_ble_eq_true rfl, Nat.le_of_ble_eq_true rfl⟩ hS (fun q h => h) (fun _ H locs hq hz hkp hS => ?_)
  replace hkp := fun (q : Nat) h1 (h2 : ¬ (q = b + 1)) => hkp q h1 h2
  replace hO := hO.kept (hkp _ hO.lt (by omega))
  obtain ⟨P1, hP1⟩ : ∃ r9 : Nat → Nat, r9 = va_up Rw 854 (Rw a) := ⟨_, rfl⟩
  have hMP1 : RwsAt g H b P1 := by rw [hP1]; exact hq
  clear hq
  refine lv_aload_n hx hb dX7_reduce_8 rfl (lv_at hl 0 rfl) ?_
  refine lv_sipush (v := 855) hx hb dX7_reduce_9 (by decide) ?_
  refine xr_ti (x' := nI 855) rfl ?_
  refine lv_iload_n hx hb dX7_reduce_12 rfl (lv_at hl 2 rfl) ?_
  refine xr_Vv (rest := []) ⟨hx, hb, hml, hown, hts⟩ (KK_ok g) hK (c_X7_copy l g H b th bu ob cn rn py ln hO P1 hMP1 855 c (by decide) (by omega)) (cwV 2 hts gX7_reduce_X7_copy rfl rfl rfl (by decide +kernel) ⟨Nat.le_of_ble_eq_true rfl, Nat.le_of_ble_eq_true rfl⟩) (xr_rec hK hO rfl) rfl hl.1 rfl (Nat.le_of_ble_eq_true rfl) dX7_reduce_13 ⟨Nat.le_of_ble_eq_true rfl, Nat.le_of_ble_eq_true rfl⟩ hS (fun q h => h) (fun _ H locs hq hz hkp hS => ?_)
  replace hkp := fun (q : Nat) h1 (h2 : ¬ (q = b + 1)) => hkp q h1 h2
  replace hO := hO.kept (hkp _ hO.lt (by omega))
  obtain ⟨P2, hP2⟩ : ∃ r9 : Nat → Nat, r9 = va_up P1 855 (P1 c) := ⟨_, rfl⟩
  have hMP2 : RwsAt g H b P2 := by rw [hP2]; exact hq
  clear hq
  have s1 : P2 854 = Rw a := by rw [hP2, va_up_ne _ _ (by decide), hP1, va_up_self]
  have s2 : P2 855 = Rw c := by rw [hP2, va_up_self, hP1, va_up_ne _ _ (by omega)]
  exact loop (P2 855 + 1) H _ P2 (Nat.lt_succ_self _) hO hMP2 (by rw [s1, s2]) (by rw [s1]; exact ha191) (by rw [s2]; exact h191) (fun j hj => by rw [hP2, va_up_ne _ _ (by omega), hP1, va_up_ne _ _ (by omega)]) hS ls (lv_sub hl [0, 1, 2] rfl)
