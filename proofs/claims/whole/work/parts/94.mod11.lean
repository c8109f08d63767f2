set_option maxHeartbeats 400000 in
set_option maxRecDepth 100000 in
theorem c_X7_size (l : Launch) (g : WG) (H0 : Heap) (st : Nat) (hst : st < 65536) : Ctr l (KK g) yX7_size wsX7_size { frames := 0, cells := 0, slots := 0, locals := 0 } [.int (nI st)] H0 eI (fun r H => r = nI (cnt st 16) ∧ H = H0) (fun _ => False) := by
  refine xr_enter (cc := cX7_size) (maxL := 3) (ret := (some .int)) (by decide) rfl (Nat.le_of_ble_eq_true rfl) ?_
  intro pgm env s mid below meth cde hx hb hr hml hts hown hlocks hnm hH hK ls hl
  subst hH
  have hl : lv_has ls 3 [(0, .int (nI st))] := hl
  have hS : va_S (fun _ => False) s.heap s.heap [] := va_S.rf
  have loop : ∀ (n k : Nat), k + n = 16 → ∀ (locs : List Loc), va_S (fun _ => False) s.heap s.heap locs → ∀ ls : Array Slot, lv_has ls 3 [(2, .int (nI k)), (1, .int (nI (cnt st k))), (0, .int (nI st))] → W pgm l env { frames := 0, cells := 0, slots := 0, locals := 0 } s mid ([.int (nI st)] : List Value).toArray below meth cde s.heap locs 0 0 (MQ below (xr_Post eI (fun r H => r = nI (cnt st 16) ∧ H = s.heap) (fun _ => False)) ([.int (nI st)] : List Value).toArray s ({ frames := 0, cells := 0, slots := 0, locals := 0 } : Room).cells ({ frames := 0, cells := 0, slots := 0, locals := 0 } : Room).slots (fun _ => False)) (F0 mid 4 ls []) := by
    intro n
    induction n with
    | zero =>
      intro k h1 locs hS ls hl
      have e : k = 16 := by omega
      subst e
      refine lv_iload_n hx hb dX7_size_4 rfl (lv_at hl 0 rfl) ?_
      refine lv_bipush (v := 16) hx hb dX7_size_5 (by decide) ?_
      refine lv_icmp_ge (tgt := 24) hx hb dX7_size_7 (by decide) (fun hc => ?_) (fun hc => ?_)
      · clear hc
        refine lv_iload_n hx hb dX7_size_24 rfl (lv_at hl 1 rfl) ?_
        exact xr_iret hx hb hr hlocks hS ⟨rfl, rfl⟩ dX7_size_25
      · exact absurd (by decide) hc
    | succ n ih =>
      intro k h1 locs hS ls hl
      refine lv_iload_n hx hb dX7_size_4 rfl (lv_at hl 0 rfl) ?_
      refine lv_bipush (v := 16) hx hb dX7_size_5 (by decide) ?_
      refine lv_icmp_ge (tgt := 24) hx hb dX7_size_7 (by decide) (fun hc => ?_) (fun hc => ?_)
      · exact absurd ((nI_leI (a := 16) (b := k) (by decide) (by omega)).mp hc) (by omega)
      · clear hc
        refine lv_iload_n hx hb dX7_size_10 rfl (lv_at hl 1 rfl) ?_
        refine lv_iload_n hx hb dX7_size_11 rfl (lv_at hl 2 rfl) ?_
        refine lv_iload_n hx hb dX7_size_12 rfl (lv_at hl 0 rfl) ?_
        refine lv_ishr hx hb dX7_size_13 ?_
        refine xr_ti (x' := nI (st / 2 ^ k)) (pk_shrN (by omega) _ k (sh32 _ (by omega))) ?_
        refine lv_iconst (v := 1) hx hb dX7_size_14 (by decide) ?_
        refine lv_iand hx hb dX7_size_15 ?_
        refine xr_ti (x' := nI (st / 2 ^ k % 2)) (pk_andN (Nat.lt_of_le_of_lt (Nat.div_le_self _ _) (by omega)) 1 rfl) ?_
        refine lv_iadd hx hb dX7_size_16 ?_
        refine xr_ti (x' := nI (cnt st (k + 1))) (nI_add _ _) ?_
        refine lv_istore_n (lv' := [(1, .int (nI (cnt st (k + 1)))), (2, .int (nI k)), (0, .int (nI st))]) hx hb dX7_size_17 rfl hl (by decide) rfl (fun ls hl => ?_)
        refine lv_iinc (v := nI (k + 1)) (lv' := [(2, .int (nI (k + 1))), (1, .int (nI (cnt st (k + 1)))), (0, .int (nI st))]) hx hb dX7_size_18 hl (k := 1) rfl (nI_1 k) (by decide) rfl (fun ls hl => ?_)
        refine lv_goto (tgt := 4) hx hb dX7_size_21 (by decide) ?_
        exact ih (k + 1) (by omega) _ hS ls (lv_sub hl [0, 1, 2] rfl)
  refine lv_iconst (v := 0) hx hb dX7_size_0 (by decide) ?_
  refine xr_ti (x' := nI (cnt st 0)) rfl ?_
  refine lv_istore_n (lv' := [(1, .int (nI (cnt st 0))), (0, .int (nI st))]) hx hb dX7_size_1 rfl hl (by decide) rfl (fun ls hl => ?_)
  refine lv_iconst (v := 0) hx hb dX7_size_2 (by decide) ?_
  refine xr_ti (x' := nI 0) rfl ?_
  refine lv_istore_n (lv' := [(2, .int (nI 0)), (1, .int (nI (cnt st 0))), (0, .int (nI st))]) hx hb dX7_size_3 rfl hl (by decide) rfl (fun ls hl => ?_)
  exact loop 16 0 (by omega) [] hS ls (lv_sub hl [0, 1, 2] rfl)
set_option maxHeartbeats 1000000 in
set_option maxRecDepth 100000 in
theorem c_X7_passedOver (l : Launch) (g : WG) (H0 : Heap) (b : Nat) (th : Int32) (c0 : Nat → Nat) (vs0 : Nat) (ap0 : Nat → Nat) (bu0 : Nat) (c : Nat → Nat) (vs : Nat) (ap : Nat → Nat) (bu cn n : Nat) (Rw ord : Nat → Nat) (ch : Nat → Bool) (hD : ModAt g H0 b th c0 vs0 ap0 bu0 c vs ap bu cn n Rw ord ch) (hcn : cn ≤ 48) (hbu : bu ≤ 10000000) (sz : Int32) : Ctr l (KK g) yX7_passedOver wsX7_passedOver { frames := 1, cells := 0, slots := 0, locals := 23 } [.ref b, .int sz] H0 eI (fun r H => (wi sz 1 4 = false ∧ r = 0 ∧ ModAt g H b 1 c0 vs0 ap0 bu0 c vs ap bu cn n Rw ord ch) ∨ (wi sz 1 4 = true ∧ ModAt g H b 0 c0 vs0 ap0 bu0 c vs ap bu cn n Rw ord ch ∧ (cn = 0 ∧ r = 0 ∨ cn ≠ 0 ∧ ∃ m9, sz = nI m9 ∧ 1 ≤ m9 ∧ m9 ≤ 4 ∧ Lst (PoM c vs ap bu cn ch m9) r))) (fun q => b ≤ q ∧ q < b + 12) := by
  refine xr_enter (cc := cX7_passedOver) (maxL := 9) (ret := (some .int)) (by decide) rfl (Nat.le_of_ble_eq_true rfl) ?_
  intro pgm env s mid below meth cde hx hb hr hml hts hown hlocks hnm hH hK ls hl
  subst hH
  have hl : lv_has ls 9 [(0, .ref b), (1, .int sz)] := hl
  have hS : va_S (fun q => b ≤ q ∧ q < b + 12) s.heap s.heap [] := va_S.rf
  obtain ⟨py, ln, pf, tx, hO, hM, hNw, hOl, hOr, hI, hPo, hTx, hbl, hbh⟩ := id hD
  refine lv_aload_n hx hb dX7_passedOver_0 rfl (lv_at hl 0 rfl) ?_
  refine lv_iload_n hx hb dX7_passedOver_1 rfl (lv_at hl 1 rfl) ?_
  refine lv_iconst (v := 1) hx hb dX7_passedOver_2 (by decide) ?_
  refine lv_iconst (v := 4) hx hb dX7_passedOver_3 (by decide) ?_
  refine xr_Si (rest := [.ref b]) ⟨hx, hb, hml, hown, hts⟩ (KK_ok g) hK (c_X7_within l g s.heap sz 1 4) (cwS 3 hts gX7_passedOver_X7_within rfl rfl rfl (by decide +kernel) ⟨Nat.le_of_ble_eq_true rfl, Nat.le_of_ble_eq_true rfl⟩) rfl hl.1 rfl (Nat.le_of_ble_eq_true rfl) dX7_passedOver_4 ⟨Nat.le_of_ble_eq_true rfl, Nat.le_of_ble_eq_true rfl⟩ hS (fun q h => h.elim) (fun r H locs hq hz hkp hS941 => ?_)
  obtain ⟨rfl, rfl⟩ := hq
  have hS := hS941
  refine lv_if_eq (tgt := 14) hx hb dX7_passedOver_7 (by decide) (fun h0 => ?_) (fun h0 => ?_)
  · have h9 : wi sz 1 4 = false := b2i_0.mp h0
    refine lv_iconst (v := 1) hx hb dX7_passedOver_14 (by decide) ?_
    refine xr_put (ci := 7) (v := .int 1) (ty := .int) (C := RX7) (T := TX7) (N := 18) hx hb hts (by decide +kernel) tyX7 tyX7_ok nmX7 hown hK.1 hO hS (show b ≤ b ∧ b < b + 12 by omega) rfl 0 (by decide) (hts (.fieldLink RX7 51 "SharesDeskModel" "thrown" "I") (by decide +kernel)) rfl (by decide +kernel) rfl rfl (Nat.le_of_ble_eq_true rfl) dX7_passedOver_15 (fun H locs hz hkp hO hS => ?_)
    replace hM := hM.kept (hkp _ (by omega))
    replace hNw := hNw.kept (fun q hq1 hq2 hq3 => hkp q (by omega))
    replace hOl := hOl.kept (fun q hq1 hq2 hq3 => hkp q (by omega))
    replace hOr := hOr.kept (hkp _ (by omega))
    replace hI := hI.kept (hkp _ (by omega))
    replace hPo := hPo.kept (hkp _ (by omega))
    replace hTx := hTx.kept (hkp _ (by omega))
    refine lv_aload_n hx hb dX7_passedOver_18 rfl (lv_at hl 0 rfl) ?_
    refine va_get (D := g.1) (ci := 7) (v := .int 1) (C := RX7) (T := TX7) (N := 18) hx hb hts (by decide +kernel) hown hK.1 (xr_one hO) 0 rfl rfl 0 (by decide) (hts (.fieldLink RX7 51 "SharesDeskModel" "thrown" "I") (by decide +kernel)) (fun _ h9 => h9) rfl dX7_passedOver_19 ?_
    refine lv_if_ne (tgt := 32) hx hb dX7_passedOver_22 (by decide) (fun h1 => ?_) (fun h1 => ?_)
    · clear h1
      refine lv_iconst (v := 0) hx hb dX7_passedOver_32 (by decide) ?_
      exact xr_iret hx hb hr hlocks hS (Or.inl ⟨h9, rfl, ⟨py, ln, pf, tx, hO, hM, hNw, hOl, hOr, hI, hPo, hTx, hbl, hbh⟩⟩) dX7_passedOver_33
    · exact absurd h1 (by decide)
  · have h9 : wi sz 1 4 = true := b2i_n0.mp h0
    refine lv_iconst (v := 0) hx hb dX7_passedOver_10 (by decide) ?_
    refine lv_goto (tgt := 15) hx hb dX7_passedOver_11 (by decide) ?_
    refine xr_put (ci := 7) (v := .int 0) (ty := .int) (C := RX7) (T := TX7) (N := 18) hx hb hts (by decide +kernel) tyX7 tyX7_ok nmX7 hown hK.1 hO hS (show b ≤ b ∧ b < b + 12 by omega) rfl 0 (by decide) (hts (.fieldLink RX7 51 "SharesDeskModel" "thrown" "I") (by decide +kernel)) rfl (by decide +kernel) rfl rfl (Nat.le_of_ble_eq_true rfl) dX7_passedOver_15 (fun H locs hz hkp hO hS => ?_)
    replace hM := hM.kept (hkp _ (by omega))
    replace hNw := hNw.kept (fun q hq1 hq2 hq3 => hkp q (by omega))
    replace hOl := hOl.kept (fun q hq1 hq2 hq3 => hkp q (by omega))
    replace hOr := hOr.kept (hkp _ (by omega))
    replace hI := hI.kept (hkp _ (by omega))
    replace hPo := hPo.kept (hkp _ (by omega))
    replace hTx := hTx.kept (hkp _ (by omega))
    refine lv_aload_n hx hb dX7_passedOver_18 rfl (lv_at hl 0 rfl) ?_
    refine va_get (D := g.1) (ci := 7) (v := .int 0) (C := RX7) (T := TX7) (N := 18) hx hb hts (by decide +kernel) hown hK.1 (xr_one hO) 0 rfl rfl 0 (by decide) (hts (.fieldLink RX7 51 "SharesDeskModel" "thrown" "I") (by decide +kernel)) (fun _ h9 => h9) rfl dX7_passedOver_19 ?_
    refine lv_if_ne (tgt := 32) hx hb dX7_passedOver_22 (by decide) (fun h1 => ?_) (fun h1 => ?_)
    · exact absurd rfl h1
    · clear h1
      refine lv_aload_n hx hb dX7_passedOver_25 rfl (lv_at hl 0 rfl) ?_
      refine va_get (D := g.1) (ci := 7) (v := .int (nI cn)) (C := RX7) (T := TX7) (N := 18) hx hb hts (by decide +kernel) hown hK.1 (xr_one hO) 0 rfl rfl 10 (by decide) (hts (.fieldLink RX7 123 "SharesDeskModel" "count" "I") (by decide +kernel)) (fun _ h9 => h9) rfl dX7_passedOver_26 ?_
      refine lv_if_ne (tgt := 34) hx hb dX7_passedOver_29 (by decide) (fun h2 => ?_) (fun h2 => ?_)
      · have hc0 : cn ≠ 0 := fun q => h2 (by rw [q]; rfl)
        have hrg : rg sz 4 = true := by rw [← wi_rg (v := sz) (hi := 4) (M := 4) rfl]; exact h9
        obtain ⟨m9, hm1, hm2, hm3, rfl⟩ := rg_of hrg
        obtain ⟨hC, hV, hW, hcb, hab⟩ := id hOl
        have outer : ∀ (k st : Nat), st + k = 65536 → 1 ≤ st → (∀ t, 1 ≤ t → t < st → ¬ PoM c vs ap bu cn ch m9 t) → ∀ (locs : List Loc), va_S (fun q => b ≤ q ∧ q < b + 12) s.heap H locs → ∀ ls : Array Slot, lv_has ls 9 [(2, .int (nI st)), (0, .ref b), (1, .int (nI m9))] → W pgm l env { frames := 1, cells := 0, slots := 0, locals := 23 } s mid ([.ref b, .int (nI m9)] : List Value).toArray below meth cde H locs 0 0 (MQ below (xr_Post eI (fun r H => (wi (nI m9) 1 4 = false ∧ r = 0 ∧ ModAt g H b 1 c0 vs0 ap0 bu0 c vs ap bu cn n Rw ord ch) ∨ (wi (nI m9) 1 4 = true ∧ ModAt g H b 0 c0 vs0 ap0 bu0 c vs ap bu cn n Rw ord ch ∧ (cn = 0 ∧ r = 0 ∨ cn ≠ 0 ∧ ∃ m8, nI m9 = nI m8 ∧ 1 ≤ m8 ∧ m8 ≤ 4 ∧ Lst (PoM c vs ap bu cn ch m8) r))) (fun q => b ≤ q ∧ q < b + 12)) ([.ref b, .int (nI m9)] : List Value).toArray s ({ frames := 1, cells := 0, slots := 0, locals := 23 } : Room).cells ({ frames := 1, cells := 0, slots := 0, locals := 23 } : Room).slots (fun q => b ≤ q ∧ q < b + 12)) (F0 mid 36 ls []) := by
          intro k
          induction k with
          | zero =>
            intro st h1 h1s hno locs hS ls hl
            have e : st = 65536 := by omega
            subst e
            refine lv_iload_n hx hb dX7_passedOver_36 rfl (lv_at hl 0 rfl) ?_
            refine lv_ldc (v := (65536)) hx hb hown (hts (.constant RX7 57 (65536)) (by decide +kernel)) dX7_passedOver_37 ?_
            refine lv_icmp_ge (tgt := 216) hx hb dX7_passedOver_39 (by decide) (fun hc => ?_) (fun hc => ?_)
            · clear hc
              refine lv_iconst (v := 0) hx hb dX7_passedOver_216 (by decide) ?_
              exact xr_iret hx hb hr hlocks hS (Or.inr ⟨h9, ⟨py, ln, pf, tx, hO, hM, hNw, hOl, hOr, hI, hPo, hTx, hbl, hbh⟩, Or.inr ⟨hc0, m9, rfl, hm1, hm2, Or.inr ⟨hno, rfl⟩⟩⟩) dX7_passedOver_217
            · exact absurd (by decide) hc
          | succ k ih =>
            intro st h1 h1s hno locs hS ls hl
            have hst : st < 65536 := by omega
            have hcl := costOf_le (st := st) hcb
            have gl : cnt st 16 = m9 → thB c st 16 = true → ∀ (k2 v : Nat), v + k2 = 48 → ∀ (locs : List Loc), va_S (fun q => b ≤ q ∧ q < b + 12) s.heap H locs → ∀ ls : Array Slot, lv_has ls 9 [(8, .int (nI v)), (6, .long (lN (grpM vs ap ch st m9 v))), (4, .long (lN (costOf c st 16))), (2, .int (nI st)), (0, .ref b), (1, .int (nI m9))] → W pgm l env { frames := 1, cells := 0, slots := 0, locals := 23 } s mid ([.ref b, .int (nI m9)] : List Value).toArray below meth cde H locs 0 0 (MQ below (xr_Post eI (fun r H => (wi (nI m9) 1 4 = false ∧ r = 0 ∧ ModAt g H b 1 c0 vs0 ap0 bu0 c vs ap bu cn n Rw ord ch) ∨ (wi (nI m9) 1 4 = true ∧ ModAt g H b 0 c0 vs0 ap0 bu0 c vs ap bu cn n Rw ord ch ∧ (cn = 0 ∧ r = 0 ∨ cn ≠ 0 ∧ ∃ m8, nI m9 = nI m8 ∧ 1 ≤ m8 ∧ m8 ≤ 4 ∧ Lst (PoM c vs ap bu cn ch m8) r))) (fun q => b ≤ q ∧ q < b + 12)) ([.ref b, .int (nI m9)] : List Value).toArray s ({ frames := 1, cells := 0, slots := 0, locals := 23 } : Room).cells ({ frames := 1, cells := 0, slots := 0, locals := 23 } : Room).slots (fun q => b ≤ q ∧ q < b + 12)) (F0 mid 132 ls []) := by
              intro hsz hth k2
              induction k2 with
              | zero =>
                intro v h2 locs hS ls hl
                have e : v = 48 := by omega
                subst e
                have hg48 := grpM_le vs ap ch st m9 48
                have hm8 : grpM vs ap ch st m9 48 * bu ≤ 48 * 10000000 := Nat.mul_le_mul hg48 hbu
                have hm7 : cn * costOf c st 16 ≤ 48 * 16000000 := Nat.mul_le_mul hcn (hcl 16 (Nat.le_refl _))
                have hcs := hcl 16 (Nat.le_refl _)
                refine lv_iload hx hb dX7_passedOver_132 (lv_at hl 0 rfl) ?_
                refine lv_bipush (v := 48) hx hb dX7_passedOver_134 (by decide) ?_
                refine lv_icmp_ge (tgt := 188) hx hb dX7_passedOver_136 (by decide) (fun hc => ?_) (fun hc => ?_)
                · clear hc
                  refine lv_lload hx hb dX7_passedOver_188 (lv_at hl 1 rfl) ?_
                  refine lv_aload_n hx hb dX7_passedOver_190 rfl (lv_at hl 4 rfl) ?_
                  refine va_get (D := g.1) (ci := 7) (v := .int (nI bu)) (C := RX7) (T := TX7) (N := 18) hx hb hts (by decide +kernel) hown hK.1 (xr_one hO) 0 rfl rfl 9 (by decide) (hts (.fieldLink RX7 36 "SharesDeskModel" "oldBudget" "I") (by decide +kernel)) (fun _ h9 => h9) rfl dX7_passedOver_191 ?_
                  refine lv_i2l (v := lN bu) hx hb dX7_passedOver_194 (nI_l (by omega)) ?_
                  refine lv_lmul hx hb dX7_passedOver_195 ?_
                  refine xr_tl (x' := lN (grpM vs ap ch st m9 48 * bu)) (lN_mul _ _) ?_
                  refine lv_aload_n hx hb dX7_passedOver_196 rfl (lv_at hl 4 rfl) ?_
                  refine va_get (D := g.1) (ci := 7) (v := .int (nI cn)) (C := RX7) (T := TX7) (N := 18) hx hb hts (by decide +kernel) hown hK.1 (xr_one hO) 0 rfl rfl 10 (by decide) (hts (.fieldLink RX7 123 "SharesDeskModel" "count" "I") (by decide +kernel)) (fun _ h9 => h9) rfl dX7_passedOver_197 ?_
                  refine lv_i2l (v := lN cn) hx hb dX7_passedOver_200 (nI_l (by omega)) ?_
                  refine lv_lload hx hb dX7_passedOver_201 (lv_at hl 2 rfl) ?_
                  refine lv_lmul hx hb dX7_passedOver_203 ?_
                  refine xr_tl (x' := lN (cn * costOf c st 16)) (lN_mul _ _) ?_
                  refine W.lcmp hx hb dX7_passedOver_204 ?_
                  refine lv_if_lt (tgt := 210) hx hb dX7_passedOver_205 (by decide) (fun h5 => ?_) (fun h5 => ?_)
                  · have h6 : ¬ cn * costOf c st 16 ≤ grpM vs ap ch st m9 48 * bu := Nat.not_le.mpr ((pk_lLT (by omega) (by omega)).mp ((lg_cmp_lt _ _).mp h5))
                    refine lv_iinc (v := nI (st + 1)) (lv' := [(2, .int (nI (st + 1))), (8, .int (nI 48)), (6, .long (lN (grpM vs ap ch st m9 48))), (4, .long (lN (costOf c st 16))), (0, .ref b), (1, .int (nI m9))]) hx hb dX7_passedOver_210 hl (k := 3) rfl (nI_1 st) (by decide) rfl (fun ls hl => ?_)
                    refine lv_goto (tgt := 36) hx hb dX7_passedOver_213 (by decide) ?_
                    exact ih (st + 1) (by omega) (by omega) (fun t a1 a2 => by by_cases e9 : t = st; (subst e9; intro hp; exact h6 hp.2.2); exact hno t a1 (by omega)) _ hS ls (lv_sub hl [0, 4, 5] rfl)
                  · have h6 : cn * costOf c st 16 ≤ grpM vs ap ch st m9 48 * bu := Nat.le_of_not_lt fun q => h5 ((lg_cmp_lt _ _).mpr ((pk_lLT (by omega) (by omega)).mpr q))
                    refine lv_iload_n hx hb dX7_passedOver_208 rfl (lv_at hl 3 rfl) ?_
                    exact xr_iret hx hb hr hlocks hS (Or.inr ⟨h9, ⟨py, ln, pf, tx, hO, hM, hNw, hOl, hOr, hI, hPo, hTx, hbl, hbh⟩, Or.inr ⟨hc0, m9, rfl, hm1, hm2, Or.inl ⟨st, h1s, hst, ⟨hsz, hth, h6⟩, hno, rfl⟩⟩⟩) dX7_passedOver_209
                · exact absurd (by decide) hc
              | succ k2 ih2 =>
                intro v h2 locs hS ls hl
                have hv48 : v < 48 := by omega
                have hav := hab v hv48
                have hsl := svd_le ch ap v
                refine lv_iload hx hb dX7_passedOver_132 (lv_at hl 0 rfl) ?_
                refine lv_bipush (v := 48) hx hb dX7_passedOver_134 (by decide) ?_
                refine lv_icmp_ge (tgt := 188) hx hb dX7_passedOver_136 (by decide) (fun hc => ?_) (fun hc => ?_)
                · exact absurd ((nI_leI (a := 48) (b := v) (by decide) (by omega)).mp hc) (by omega)
                · clear hc
                  refine lv_lload hx hb dX7_passedOver_139 (lv_at hl 1 rfl) ?_
                  refine lv_aload_n hx hb dX7_passedOver_141 rfl (lv_at hl 4 rfl) ?_
                  refine va_get (D := g.1) (ci := 7) (v := .ref (b + 6)) (C := RX7) (T := TX7) (N := 18) hx hb hts (by decide +kernel) hown hK.1 (xr_one hO) 0 rfl rfl 7 (by decide) (hts (.fieldLink RX7 30 "SharesDeskModel" "oldVoters" "[Z") (by decide +kernel)) (fun _ h9 => h9) rfl dX7_passedOver_142 ?_
                  refine lv_iload hx hb dX7_passedOver_145 (lv_at hl 0 rfl) ?_
                  refine xr_zrd hx hb hK hV hv48 (by decide) dX7_passedOver_147 ?_
                  refine lv_if_eq (tgt := 178) hx hb dX7_passedOver_148 (by decide) (fun h3 => ?_) (fun h3 => ?_)
                  · have e3 : vs.testBit v = false := b2i_0.mp h3
                    refine lv_lconst (v := 0) hx hb dX7_passedOver_178 (by decide) ?_
                    refine xr_tl (x' := lN 0) rfl ?_
                    refine lv_ladd hx hb dX7_passedOver_179 ?_
                    refine xr_tl (x' := lN (grpM vs ap ch st m9 (v + 1))) (by rw [lN_add, grpM, if_neg (fun q => by rw [e3] at q; cases q.1)]) ?_
                    refine lv_lstore (lv' := [(6, .long (lN (grpM vs ap ch st m9 (v + 1)))), (8, .int (nI v)), (4, .long (lN (costOf c st 16))), (2, .int (nI st)), (0, .ref b), (1, .int (nI m9))]) hx hb dX7_passedOver_180 hl (by decide) rfl (fun ls hl => ?_)
                    refine lv_iinc (v := nI (v + 1)) (lv' := [(8, .int (nI (v + 1))), (6, .long (lN (grpM vs ap ch st m9 (v + 1)))), (4, .long (lN (costOf c st 16))), (2, .int (nI st)), (0, .ref b), (1, .int (nI m9))]) hx hb dX7_passedOver_182 hl (k := 1) rfl (nI_1 v) (by decide) rfl (fun ls hl => ?_)
                    refine lv_goto (tgt := 132) hx hb dX7_passedOver_185 (by decide) ?_
                    exact ih2 (v + 1) (by omega) _ hS ls (lv_sub hl [0, 1, 2, 3, 4, 5] rfl)
                  · have e3 : vs.testBit v = true := b2i_n0.mp h3
                    refine lv_aload_n hx hb dX7_passedOver_151 rfl (lv_at hl 4 rfl) ?_
                    refine va_get (D := g.1) (ci := 7) (v := .ref (b + 7)) (C := RX7) (T := TX7) (N := 18) hx hb hts (by decide +kernel) hown hK.1 (xr_one hO) 0 rfl rfl 8 (by decide) (hts (.fieldLink RX7 33 "SharesDeskModel" "oldWishes" "[I") (by decide +kernel)) (fun _ h9 => h9) rfl dX7_passedOver_152 ?_
                    refine lv_iload hx hb dX7_passedOver_155 (lv_at hl 0 rfl) ?_
                    refine xr_rd hx hb hK hW hv48 (by decide) dX7_passedOver_157 ?_
                    refine lv_iload_n hx hb dX7_passedOver_158 rfl (lv_at hl 3 rfl) ?_
                    refine lv_iand hx hb dX7_passedOver_159 ?_
                    refine xr_ti (x' := nI (ap v &&& st)) (nx_and2 _ _) ?_
                    refine lv_iload_n hx hb dX7_passedOver_160 rfl (lv_at hl 3 rfl) ?_
                    refine lv_icmp_ne (tgt := 178) hx hb dX7_passedOver_161 (by decide) (fun h4 => ?_) (fun h4 => ?_)
                    all_goals have hal : ap v &&& st < 2 ^ 16 := Nat.lt_of_le_of_lt Nat.and_le_left hav
                    · have e4 : ¬ ap v &&& st = st := fun q => h4 (by rw [q])
                      refine lv_lconst (v := 0) hx hb dX7_passedOver_178 (by decide) ?_
                      refine xr_tl (x' := lN 0) rfl ?_
                      refine lv_ladd hx hb dX7_passedOver_179 ?_
                      refine xr_tl (x' := lN (grpM vs ap ch st m9 (v + 1))) (by rw [lN_add, grpM, if_neg (fun q => e4 q.2.1)]) ?_
                      refine lv_lstore (lv' := [(6, .long (lN (grpM vs ap ch st m9 (v + 1)))), (8, .int (nI v)), (4, .long (lN (costOf c st 16))), (2, .int (nI st)), (0, .ref b), (1, .int (nI m9))]) hx hb dX7_passedOver_180 hl (by decide) rfl (fun ls hl => ?_)
                      refine lv_iinc (v := nI (v + 1)) (lv' := [(8, .int (nI (v + 1))), (6, .long (lN (grpM vs ap ch st m9 (v + 1)))), (4, .long (lN (costOf c st 16))), (2, .int (nI st)), (0, .ref b), (1, .int (nI m9))]) hx hb dX7_passedOver_182 hl (k := 1) rfl (nI_1 v) (by decide) rfl (fun ls hl => ?_)
                      refine lv_goto (tgt := 132) hx hb dX7_passedOver_185 (by decide) ?_
                      exact ih2 (v + 1) (by omega) _ hS ls (lv_sub hl [0, 1, 2, 3, 4, 5] rfl)
                    · have e4 : ap v &&& st = st := (nI_inj (by omega) (by omega)).mp h4
                      refine lv_aload_n hx hb dX7_passedOver_164 rfl (lv_at hl 4 rfl) ?_
                      refine lv_iload hx hb dX7_passedOver_165 (lv_at hl 0 rfl) ?_
                      refine xr_Vi (rest := [.long (lN (grpM vs ap ch st m9 v))]) ⟨hx, hb, hml, hown, hts⟩ (KK_ok g) hK (c_X7_servedOf l g H b 0 (nI bu0) (nI bu) (nI cn) (nI n) py ln hO c vs ap hOl ch hI v hv48) (cwV 1 hts gX7_passedOver_X7_servedOf rfl rfl rfl (by decide +kernel) ⟨Nat.le_of_ble_eq_true rfl, Nat.le_of_ble_eq_true rfl⟩) (xr_rec hK hO rfl) rfl hl.1 rfl (Nat.le_of_ble_eq_true rfl) dX7_passedOver_167 ⟨Nat.le_of_ble_eq_true rfl, Nat.le_of_ble_eq_true rfl⟩ hS (fun q h => h.elim) (fun r H locs hq hz hkp hS942 => ?_)
                      obtain ⟨rfl, rfl⟩ := hq
                      have hS := hS942
                      refine lv_iload_n hx hb dX7_passedOver_170 rfl (lv_at hl 5 rfl) ?_
                      refine lv_icmp_ge (tgt := 178) hx hb dX7_passedOver_171 (by decide) (fun h5 => ?_) (fun h5 => ?_)
                      · have e5 : m9 ≤ sg (svd ch ap v) 16 := (nI_leI (by omega) (by omega)).mp h5
                        refine lv_lconst (v := 0) hx hb dX7_passedOver_178 (by decide) ?_
                        refine xr_tl (x' := lN 0) rfl ?_
                        refine lv_ladd hx hb dX7_passedOver_179 ?_
                        refine xr_tl (x' := lN (grpM vs ap ch st m9 (v + 1))) (by rw [lN_add, grpM, if_neg (fun q => absurd q.2.2 (by omega))]) ?_
                        refine lv_lstore (lv' := [(6, .long (lN (grpM vs ap ch st m9 (v + 1)))), (8, .int (nI v)), (4, .long (lN (costOf c st 16))), (2, .int (nI st)), (0, .ref b), (1, .int (nI m9))]) hx hb dX7_passedOver_180 hl (by decide) rfl (fun ls hl => ?_)
                        refine lv_iinc (v := nI (v + 1)) (lv' := [(8, .int (nI (v + 1))), (6, .long (lN (grpM vs ap ch st m9 (v + 1)))), (4, .long (lN (costOf c st 16))), (2, .int (nI st)), (0, .ref b), (1, .int (nI m9))]) hx hb dX7_passedOver_182 hl (k := 1) rfl (nI_1 v) (by decide) rfl (fun ls hl => ?_)
                        refine lv_goto (tgt := 132) hx hb dX7_passedOver_185 (by decide) ?_
                        exact ih2 (v + 1) (by omega) _ hS ls (lv_sub hl [0, 1, 2, 3, 4, 5] rfl)
                      · have e5 : sg (svd ch ap v) 16 < m9 := Nat.lt_of_not_le fun q => h5 (nI_le q (by omega))
                        refine lv_lconst (v := 1) hx hb dX7_passedOver_174 (by decide) ?_
                        refine xr_tl (x' := lN 1) rfl ?_
                        refine lv_goto (tgt := 179) hx hb dX7_passedOver_175 (by decide) ?_
                        refine lv_ladd hx hb dX7_passedOver_179 ?_
                        refine xr_tl (x' := lN (grpM vs ap ch st m9 (v + 1))) (by rw [lN_add, grpM, if_pos ⟨e3, e4, e5⟩]) ?_
                        refine lv_lstore (lv' := [(6, .long (lN (grpM vs ap ch st m9 (v + 1)))), (8, .int (nI v)), (4, .long (lN (costOf c st 16))), (2, .int (nI st)), (0, .ref b), (1, .int (nI m9))]) hx hb dX7_passedOver_180 hl (by decide) rfl (fun ls hl => ?_)
                        refine lv_iinc (v := nI (v + 1)) (lv' := [(8, .int (nI (v + 1))), (6, .long (lN (grpM vs ap ch st m9 (v + 1)))), (4, .long (lN (costOf c st 16))), (2, .int (nI st)), (0, .ref b), (1, .int (nI m9))]) hx hb dX7_passedOver_182 hl (k := 1) rfl (nI_1 v) (by decide) rfl (fun ls hl => ?_)
                        refine lv_goto (tgt := 132) hx hb dX7_passedOver_185 (by decide) ?_
                        exact ih2 (v + 1) (by omega) _ hS ls (lv_sub hl [0, 1, 2, 3, 4, 5] rfl)
            have pl : cnt st 16 = m9 → ∀ (k2 p : Nat), p + k2 = 16 → ∀ (locs : List Loc), va_S (fun q => b ≤ q ∧ q < b + 12) s.heap H locs → ∀ ls : Array Slot, lv_has ls 9 [(6, .int (nI p)), (4, .long (lN (costOf c st p))), (3, .int (b2i (thB c st p))), (2, .int (nI st)), (0, .ref b), (1, .int (nI m9))] → W pgm l env { frames := 1, cells := 0, slots := 0, locals := 23 } s mid ([.ref b, .int (nI m9)] : List Value).toArray below meth cde H locs 0 0 (MQ below (xr_Post eI (fun r H => (wi (nI m9) 1 4 = false ∧ r = 0 ∧ ModAt g H b 1 c0 vs0 ap0 bu0 c vs ap bu cn n Rw ord ch) ∨ (wi (nI m9) 1 4 = true ∧ ModAt g H b 0 c0 vs0 ap0 bu0 c vs ap bu cn n Rw ord ch ∧ (cn = 0 ∧ r = 0 ∨ cn ≠ 0 ∧ ∃ m8, nI m9 = nI m8 ∧ 1 ≤ m8 ∧ m8 ≤ 4 ∧ Lst (PoM c vs ap bu cn ch m8) r))) (fun q => b ≤ q ∧ q < b + 12)) ([.ref b, .int (nI m9)] : List Value).toArray s ({ frames := 1, cells := 0, slots := 0, locals := 23 } : Room).cells ({ frames := 1, cells := 0, slots := 0, locals := 23 } : Room).slots (fun q => b ≤ q ∧ q < b + 12)) (F0 mid 61 ls []) := by
              intro hsz k2
              induction k2 with
              | zero =>
                intro p h2 locs hS ls hl
                have e : p = 16 := by omega
                subst e
                refine lv_iload hx hb dX7_passedOver_61 (lv_at hl 0 rfl) ?_
                refine lv_bipush (v := 16) hx hb dX7_passedOver_63 (by decide) ?_
                refine lv_icmp_ge (tgt := 119) hx hb dX7_passedOver_65 (by decide) (fun hc => ?_) (fun hc => ?_)
                · clear hc
                  refine lv_iload_n hx hb dX7_passedOver_119 rfl (lv_at hl 2 rfl) ?_
                  refine lv_if_ne (tgt := 126) hx hb dX7_passedOver_120 (by decide) (fun h3 => ?_) (fun h3 => ?_)
                  · have e3 : thB c st 16 = true := b2i_n0.mp h3
                    refine lv_lconst (v := 0) hx hb dX7_passedOver_126 (by decide) ?_
                    refine xr_tl (x' := lN (grpM vs ap ch st m9 0)) rfl ?_
                    refine lv_lstore (lv' := [(6, .long (lN (grpM vs ap ch st m9 0))), (4, .long (lN (costOf c st 16))), (3, .int (b2i (thB c st 16))), (2, .int (nI st)), (0, .ref b), (1, .int (nI m9))]) hx hb dX7_passedOver_127 hl (by decide) rfl (fun ls hl => ?_)
                    refine lv_iconst (v := 0) hx hb dX7_passedOver_129 (by decide) ?_
                    refine xr_ti (x' := nI 0) rfl ?_
                    refine lv_istore (lv' := [(8, .int (nI 0)), (6, .long (lN (grpM vs ap ch st m9 0))), (4, .long (lN (costOf c st 16))), (3, .int (b2i (thB c st 16))), (2, .int (nI st)), (0, .ref b), (1, .int (nI m9))]) hx hb dX7_passedOver_130 hl (by decide) rfl (fun ls hl => ?_)
                    exact gl hsz e3 48 0 (by omega) _ hS ls (lv_sub hl [0, 1, 2, 4, 5, 6] rfl)
                  · have e3 : thB c st 16 = false := b2i_0.mp h3
                    refine lv_goto (tgt := 210) hx hb dX7_passedOver_123 (by decide) ?_
                    refine lv_iinc (v := nI (st + 1)) (lv' := [(2, .int (nI (st + 1))), (6, .int (nI 16)), (4, .long (lN (costOf c st 16))), (3, .int (b2i (thB c st 16))), (0, .ref b), (1, .int (nI m9))]) hx hb dX7_passedOver_210 hl (k := 3) rfl (nI_1 st) (by decide) rfl (fun ls hl => ?_)
                    refine lv_goto (tgt := 36) hx hb dX7_passedOver_213 (by decide) ?_
                    exact ih (st + 1) (by omega) (by omega) (fun t a1 a2 => by by_cases e9 : t = st; (subst e9; intro hp; exact by have := hp.2.1; rw [e3] at this; cases this); exact hno t a1 (by omega)) _ hS ls (lv_sub hl [0, 4, 5] rfl)
                · exact absurd (by decide) hc
              | succ k2 ih2 =>
                intro p h2 locs hS ls hl
                have hp : p < 16 := by omega
                have hcp := hcb p hp
                have hcs := hcl p (by omega)
                have hb2 : st / 2 ^ p % 2 < 2 := Nat.mod_lt _ (by decide)
                refine lv_iload hx hb dX7_passedOver_61 (lv_at hl 0 rfl) ?_
                refine lv_bipush (v := 16) hx hb dX7_passedOver_63 (by decide) ?_
                refine lv_icmp_ge (tgt := 119) hx hb dX7_passedOver_65 (by decide) (fun hc => ?_) (fun hc => ?_)
                · exact absurd ((nI_leI (a := 16) (b := p) (by decide) (by omega)).mp hc) (by omega)
                · clear hc
                  refine lv_iload_n hx hb dX7_passedOver_68 rfl (lv_at hl 3 rfl) ?_
                  refine lv_iload hx hb dX7_passedOver_69 (lv_at hl 0 rfl) ?_
                  refine lv_ishr hx hb dX7_passedOver_71 ?_
                  refine xr_ti (x' := nI (st / 2 ^ p)) (pk_shrN (by omega) _ p (sh32 _ (by omega))) ?_
                  refine lv_iconst (v := 1) hx hb dX7_passedOver_72 (by decide) ?_
                  refine lv_iand hx hb dX7_passedOver_73 ?_
                  refine xr_ti (x' := nI (st / 2 ^ p % 2)) (pk_andN (Nat.lt_of_le_of_lt (Nat.div_le_self _ _) (by omega)) 1 rfl) ?_
                  refine lv_if_ne (tgt := 80) hx hb dX7_passedOver_74 (by decide) (fun h3 => ?_) (fun h3 => ?_)
                  · have e3 : st.testBit p = true := tb_t (fun q => h3 (by rw [q]; rfl))
                    refine lv_iload_n hx hb dX7_passedOver_80 rfl (lv_at hl 2 rfl) ?_
                    refine lv_if_eq (tgt := 98) hx hb dX7_passedOver_81 (by decide) (fun h4 => ?_) (fun h4 => ?_)
                    · have e4 : thB c st p = false := b2i_0.mp h4
                      refine lv_iconst (v := 0) hx hb dX7_passedOver_98 (by decide) ?_
                      refine xr_ti (x' := b2i false) rfl ?_
                      refine lv_istore_n (lv' := [(3, .int (b2i false)), (6, .int (nI p)), (4, .long (lN (costOf c st p))), (2, .int (nI st)), (0, .ref b), (1, .int (nI m9))]) hx hb dX7_passedOver_99 rfl hl (by decide) rfl (fun ls hl => ?_)
                      refine lv_lload hx hb dX7_passedOver_100 (lv_at hl 2 rfl) ?_
                      refine lv_aload_n hx hb dX7_passedOver_102 rfl (lv_at hl 4 rfl) ?_
                      refine va_get (D := g.1) (ci := 7) (v := .ref (b + 5)) (C := RX7) (T := TX7) (N := 18) hx hb hts (by decide +kernel) hown hK.1 (xr_one hO) 0 rfl rfl 6 (by decide) (hts (.fieldLink RX7 27 "SharesDeskModel" "oldCosts" "[I") (by decide +kernel)) (fun _ h9 => h9) rfl dX7_passedOver_103 ?_
                      refine lv_iload hx hb dX7_passedOver_106 (lv_at hl 1 rfl) ?_
                      refine xr_rd hx hb hK hC hp (by decide) dX7_passedOver_108 ?_
                      refine lv_i2l (v := lN (c p)) hx hb dX7_passedOver_109 (nI_l (by omega)) ?_
                      refine lv_ladd hx hb dX7_passedOver_110 ?_
                      refine xr_tl (x' := lN (costOf c st p + c p)) (lN_add _ _) ?_
                      refine lv_lstore (lv' := [(4, .long (lN (costOf c st p + c p))), (3, .int (b2i false)), (6, .int (nI p)), (2, .int (nI st)), (0, .ref b), (1, .int (nI m9))]) hx hb dX7_passedOver_111 hl (by decide) rfl (fun ls hl => ?_)
                      refine lv_iinc (v := nI (p + 1)) (lv' := [(6, .int (nI (p + 1))), (4, .long (lN (costOf c st p + c p))), (3, .int (b2i false)), (2, .int (nI st)), (0, .ref b), (1, .int (nI m9))]) hx hb dX7_passedOver_113 hl (k := 2) rfl (nI_1 p) (by decide) rfl (fun ls hl => ?_)
                      refine lv_goto (tgt := 61) hx hb dX7_passedOver_116 (by decide) ?_
                      exact ih2 (p + 1) (by omega) _ hS ls (by rw [show thB c st (p + 1) = false by rw [thB, e4]; rfl, show costOf c st (p + 1) = costOf c st p + c p from (costOf_yes e3).symm]; exact lv_sub hl [0, 1, 2, 3, 4, 5] rfl)
                    · have e4 : thB c st p = true := b2i_n0.mp h4
                      refine lv_aload_n hx hb dX7_passedOver_84 rfl (lv_at hl 4 rfl) ?_
                      refine va_get (D := g.1) (ci := 7) (v := .ref (b + 5)) (C := RX7) (T := TX7) (N := 18) hx hb hts (by decide +kernel) hown hK.1 (xr_one hO) 0 rfl rfl 6 (by decide) (hts (.fieldLink RX7 27 "SharesDeskModel" "oldCosts" "[I") (by decide +kernel)) (fun _ h9 => h9) rfl dX7_passedOver_85 ?_
                      refine lv_iload hx hb dX7_passedOver_88 (lv_at hl 0 rfl) ?_
                      refine xr_rd hx hb hK hC hp (by decide) dX7_passedOver_90 ?_
                      refine lv_if_le (tgt := 98) hx hb dX7_passedOver_91 (by decide) (fun h5 => ?_) (fun h5 => ?_)
                      · have e5 : ¬ 0 < c p := by have := (nI_leI (b := 0) (by omega) (by decide)).mp h5; omega
                        refine lv_iconst (v := 0) hx hb dX7_passedOver_98 (by decide) ?_
                        refine xr_ti (x' := b2i false) rfl ?_
                        refine lv_istore_n (lv' := [(3, .int (b2i false)), (6, .int (nI p)), (4, .long (lN (costOf c st p))), (2, .int (nI st)), (0, .ref b), (1, .int (nI m9))]) hx hb dX7_passedOver_99 rfl hl (by decide) rfl (fun ls hl => ?_)
                        refine lv_lload hx hb dX7_passedOver_100 (lv_at hl 2 rfl) ?_
                        refine lv_aload_n hx hb dX7_passedOver_102 rfl (lv_at hl 4 rfl) ?_
                        refine va_get (D := g.1) (ci := 7) (v := .ref (b + 5)) (C := RX7) (T := TX7) (N := 18) hx hb hts (by decide +kernel) hown hK.1 (xr_one hO) 0 rfl rfl 6 (by decide) (hts (.fieldLink RX7 27 "SharesDeskModel" "oldCosts" "[I") (by decide +kernel)) (fun _ h9 => h9) rfl dX7_passedOver_103 ?_
                        refine lv_iload hx hb dX7_passedOver_106 (lv_at hl 1 rfl) ?_
                        refine xr_rd hx hb hK hC hp (by decide) dX7_passedOver_108 ?_
                        refine lv_i2l (v := lN (c p)) hx hb dX7_passedOver_109 (nI_l (by omega)) ?_
                        refine lv_ladd hx hb dX7_passedOver_110 ?_
                        refine xr_tl (x' := lN (costOf c st p + c p)) (lN_add _ _) ?_
                        refine lv_lstore (lv' := [(4, .long (lN (costOf c st p + c p))), (3, .int (b2i false)), (6, .int (nI p)), (2, .int (nI st)), (0, .ref b), (1, .int (nI m9))]) hx hb dX7_passedOver_111 hl (by decide) rfl (fun ls hl => ?_)
                        refine lv_iinc (v := nI (p + 1)) (lv' := [(6, .int (nI (p + 1))), (4, .long (lN (costOf c st p + c p))), (3, .int (b2i false)), (2, .int (nI st)), (0, .ref b), (1, .int (nI m9))]) hx hb dX7_passedOver_113 hl (k := 2) rfl (nI_1 p) (by decide) rfl (fun ls hl => ?_)
                        refine lv_goto (tgt := 61) hx hb dX7_passedOver_116 (by decide) ?_
                        exact ih2 (p + 1) (by omega) _ hS ls (by rw [show thB c st (p + 1) = false by rw [thB, e3, decide_eq_false e5, Bool.not_true, Bool.or_self, Bool.and_false], show costOf c st (p + 1) = costOf c st p + c p from (costOf_yes e3).symm]; exact lv_sub hl [0, 1, 2, 3, 4, 5] rfl)
                      · have e5 : 0 < c p := Nat.pos_of_ne_zero fun z => h5 (by rw [z]; decide)
                        refine lv_iconst (v := 1) hx hb dX7_passedOver_94 (by decide) ?_
                        refine xr_ti (x' := b2i true) rfl ?_
                        refine lv_goto (tgt := 99) hx hb dX7_passedOver_95 (by decide) ?_
                        refine lv_istore_n (lv' := [(3, .int (b2i true)), (6, .int (nI p)), (4, .long (lN (costOf c st p))), (2, .int (nI st)), (0, .ref b), (1, .int (nI m9))]) hx hb dX7_passedOver_99 rfl hl (by decide) rfl (fun ls hl => ?_)
                        refine lv_lload hx hb dX7_passedOver_100 (lv_at hl 2 rfl) ?_
                        refine lv_aload_n hx hb dX7_passedOver_102 rfl (lv_at hl 4 rfl) ?_
                        refine va_get (D := g.1) (ci := 7) (v := .ref (b + 5)) (C := RX7) (T := TX7) (N := 18) hx hb hts (by decide +kernel) hown hK.1 (xr_one hO) 0 rfl rfl 6 (by decide) (hts (.fieldLink RX7 27 "SharesDeskModel" "oldCosts" "[I") (by decide +kernel)) (fun _ h9 => h9) rfl dX7_passedOver_103 ?_
                        refine lv_iload hx hb dX7_passedOver_106 (lv_at hl 1 rfl) ?_
                        refine xr_rd hx hb hK hC hp (by decide) dX7_passedOver_108 ?_
                        refine lv_i2l (v := lN (c p)) hx hb dX7_passedOver_109 (nI_l (by omega)) ?_
                        refine lv_ladd hx hb dX7_passedOver_110 ?_
                        refine xr_tl (x' := lN (costOf c st p + c p)) (lN_add _ _) ?_
                        refine lv_lstore (lv' := [(4, .long (lN (costOf c st p + c p))), (3, .int (b2i true)), (6, .int (nI p)), (2, .int (nI st)), (0, .ref b), (1, .int (nI m9))]) hx hb dX7_passedOver_111 hl (by decide) rfl (fun ls hl => ?_)
                        refine lv_iinc (v := nI (p + 1)) (lv' := [(6, .int (nI (p + 1))), (4, .long (lN (costOf c st p + c p))), (3, .int (b2i true)), (2, .int (nI st)), (0, .ref b), (1, .int (nI m9))]) hx hb dX7_passedOver_113 hl (k := 2) rfl (nI_1 p) (by decide) rfl (fun ls hl => ?_)
                        refine lv_goto (tgt := 61) hx hb dX7_passedOver_116 (by decide) ?_
                        exact ih2 (p + 1) (by omega) _ hS ls (by rw [show thB c st (p + 1) = true by rw [thB, e4, decide_eq_true e5, Bool.or_true]; rfl, show costOf c st (p + 1) = costOf c st p + c p from (costOf_yes e3).symm]; exact lv_sub hl [0, 1, 2, 3, 4, 5] rfl)
                  · have e3 : st.testBit p = false := tb_f ((nI_inj (b := 0) (by omega) (by decide)).mp h3)
                    refine lv_goto (tgt := 113) hx hb dX7_passedOver_77 (by decide) ?_
                    refine lv_iinc (v := nI (p + 1)) (lv' := [(6, .int (nI (p + 1))), (4, .long (lN (costOf c st p))), (3, .int (b2i (thB c st p))), (2, .int (nI st)), (0, .ref b), (1, .int (nI m9))]) hx hb dX7_passedOver_113 hl (k := 0) rfl (nI_1 p) (by decide) rfl (fun ls hl => ?_)
                    refine lv_goto (tgt := 61) hx hb dX7_passedOver_116 (by decide) ?_
                    exact ih2 (p + 1) (by omega) _ hS ls (by rw [show thB c st (p + 1) = thB c st p by rw [thB, e3, Bool.not_false, Bool.true_or, Bool.and_true], show costOf c st (p + 1) = costOf c st p from costOf_no e3]; exact lv_sub hl [0, 1, 2, 3, 4, 5] rfl)
            refine lv_iload_n hx hb dX7_passedOver_36 rfl (lv_at hl 0 rfl) ?_
            refine lv_ldc (v := (65536)) hx hb hown (hts (.constant RX7 57 (65536)) (by decide +kernel)) dX7_passedOver_37 ?_
            refine xr_ti (x' := nI 65536) rfl ?_
            refine lv_icmp_ge (tgt := 216) hx hb dX7_passedOver_39 (by decide) (fun hc => ?_) (fun hc => ?_)
            · exact absurd ((nI_leI (a := 65536) (b := st) (by decide) (by omega)).mp hc) (by omega)
            · clear hc
              refine lv_iload_n hx hb dX7_passedOver_42 rfl (lv_at hl 0 rfl) ?_
              refine xr_Si (rest := []) ⟨hx, hb, hml, hown, hts⟩ (KK_ok g) hK (c_X7_size l g H st hst) (cwS 1 hts gX7_passedOver_X7_size rfl rfl rfl (by decide +kernel) ⟨Nat.le_of_ble_eq_true rfl, Nat.le_of_ble_eq_true rfl⟩) rfl hl.1 rfl (Nat.le_of_ble_eq_true rfl) dX7_passedOver_43 ⟨Nat.le_of_ble_eq_true rfl, Nat.le_of_ble_eq_true rfl⟩ hS (fun q h => h.elim) (fun r H locs hq hz hkp hS943 => ?_)
              obtain ⟨rfl, rfl⟩ := hq
              have hS := hS943
              have hcl16 := cnt_le st 16
              refine lv_iload_n hx hb dX7_passedOver_46 rfl (lv_at hl 2 rfl) ?_
              refine lv_icmp_eq (tgt := 53) hx hb dX7_passedOver_47 (by decide) (fun h3 => ?_) (fun h3 => ?_)
              · have e3 : cnt st 16 = m9 := (nI_inj (by omega) (by omega)).mp h3
                refine lv_iconst (v := 1) hx hb dX7_passedOver_53 (by decide) ?_
                refine xr_ti (x' := b2i (thB c st 0)) rfl ?_
                refine lv_istore_n (lv' := [(3, .int (b2i (thB c st 0))), (2, .int (nI st)), (0, .ref b), (1, .int (nI m9))]) hx hb dX7_passedOver_54 rfl hl (by decide) rfl (fun ls hl => ?_)
                refine lv_lconst (v := 0) hx hb dX7_passedOver_55 (by decide) ?_
                refine xr_tl (x' := lN (costOf c st 0)) rfl ?_
                refine lv_lstore (lv' := [(4, .long (lN (costOf c st 0))), (3, .int (b2i (thB c st 0))), (2, .int (nI st)), (0, .ref b), (1, .int (nI m9))]) hx hb dX7_passedOver_56 hl (by decide) rfl (fun ls hl => ?_)
                refine lv_iconst (v := 0) hx hb dX7_passedOver_58 (by decide) ?_
                refine xr_ti (x' := nI 0) rfl ?_
                refine lv_istore (lv' := [(6, .int (nI 0)), (4, .long (lN (costOf c st 0))), (3, .int (b2i (thB c st 0))), (2, .int (nI st)), (0, .ref b), (1, .int (nI m9))]) hx hb dX7_passedOver_59 hl (by decide) rfl (fun ls hl => ?_)
                exact pl e3 16 0 (by omega) _ hS ls (lv_sub hl [0, 1, 2, 3, 4, 5] rfl)
              · have e3 : ¬ cnt st 16 = m9 := fun q => h3 (by rw [q])
                refine lv_goto (tgt := 210) hx hb dX7_passedOver_50 (by decide) ?_
                refine lv_iinc (v := nI (st + 1)) (lv' := [(2, .int (nI (st + 1))), (0, .ref b), (1, .int (nI m9))]) hx hb dX7_passedOver_210 hl (k := 0) rfl (nI_1 st) (by decide) rfl (fun ls hl => ?_)
                refine lv_goto (tgt := 36) hx hb dX7_passedOver_213 (by decide) ?_
                exact ih (st + 1) (by omega) (by omega) (fun t a1 a2 => by by_cases e9 : t = st; (subst e9; intro hp; exact e3 hp.1); exact hno t a1 (by omega)) _ hS ls (lv_sub hl [0, 1, 2] rfl)
        refine lv_iconst (v := 1) hx hb dX7_passedOver_34 (by decide) ?_
        refine xr_ti (x' := nI 1) rfl ?_
        refine lv_istore_n (lv' := [(2, .int (nI 1)), (0, .ref b), (1, .int (nI m9))]) hx hb dX7_passedOver_35 rfl hl (by decide) rfl (fun ls hl => ?_)
        exact outer 65535 1 (by omega) (Nat.le_refl _) (fun t a1 a2 => absurd a1 (by omega)) _ hS ls (lv_sub hl [0, 1, 2] rfl)
      · have hc0 : cn = 0 := (nI_inj (b := 0) (by omega) (by decide)).mp h2
        refine lv_iconst (v := 0) hx hb dX7_passedOver_32 (by decide) ?_
        exact xr_iret hx hb hr hlocks hS (Or.inr ⟨h9, ⟨py, ln, pf, tx, hO, hM, hNw, hOl, hOr, hI, hPo, hTx, hbl, hbh⟩, Or.inl ⟨hc0, rfl⟩⟩) dX7_passedOver_33
