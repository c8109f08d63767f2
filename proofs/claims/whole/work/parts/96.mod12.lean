set_option maxHeartbeats 400000 in
set_option maxRecDepth 100000 in
theorem c_X7_say (l : Launch) (g : WG) (H0 : Heap) (b : Nat) (th bu ob cn rn py : Int32) (L : Nat) (hO : obj g H0 b 7 (moF b th bu ob cn rn py (nI L))) (tx : Nat → Nat) (hTx : xr_ia H0 (b + 11) (gI g) 2400 (fun z9 => nI (tx z9))) (x9 : Nat) (hL : L < 2400) : Ctr l (KK g) yX7_say wsX7_say { frames := 0, cells := 0, slots := 0, locals := 0 } [.ref b, .int (nI x9)] H0 eV (fun _ H => obj g H b 7 (moF b th bu ob cn rn py (nI (L + 1))) ∧ xr_ia H (b + 11) (gI g) 2400 (fun z9 => nI (va_up tx L x9 z9))) (fun q => q = b ∨ q = b + 11) := by
  refine xr_enter (cc := cX7_say) (maxL := 2) (ret := none) (by decide) rfl (Nat.le_of_ble_eq_true rfl) ?_
  intro pgm env s mid below meth cde hx hb hr hml hts hown hlocks hnm hH hK ls hl
  subst hH
  have hl : lv_has ls 2 [(0, .ref b), (1, .int (nI x9))] := hl
  have hS : va_S (fun q => q = b ∨ q = b + 11) s.heap s.heap [] := va_S.rf
  refine lv_aload_n hx hb dX7_say_0 rfl (lv_at hl 0 rfl) ?_
  refine va_get (D := g.1) (ci := 7) (v := .ref (b + 11)) (C := RX7) (T := TX7) (N := 18) hx hb hts (by decide +kernel) hown hK.1 (xr_one hO) 0 rfl rfl 16 (by decide) (hts (.fieldLink RX7 48 "SharesDeskModel" "text" "[I") (by decide +kernel)) (fun _ h9 => h9) rfl dX7_say_1 ?_
  refine lv_aload_n hx hb dX7_say_4 rfl (lv_at hl 0 rfl) ?_
  refine va_get (D := g.1) (ci := 7) (v := .int (nI L)) (C := RX7) (T := TX7) (N := 18) hx hb hts (by decide +kernel) hown hK.1 (xr_one hO) 0 rfl rfl 17 (by decide) (hts (.fieldLink RX7 162 "SharesDeskModel" "length" "I") (by decide +kernel)) (fun _ h9 => h9) rfl dX7_say_5 ?_
  refine lv_iload_n hx hb dX7_say_8 rfl (lv_at hl 1 rfl) ?_
  refine xr_nwr hx hb hK hS (Or.inr rfl) hTx hL (by decide) dX7_say_9 (fun H locs hz hkp hTx hS => ?_)
  replace hO := hO.kept (hkp _ (by omega))
  refine lv_aload_n hx hb dX7_say_10 rfl (lv_at hl 0 rfl) ?_
  refine lv_dup hx hb dX7_say_11 rfl ?_
  refine va_get (D := g.1) (ci := 7) (v := .int (nI L)) (C := RX7) (T := TX7) (N := 18) hx hb hts (by decide +kernel) hown hK.1 (xr_one hO) 0 rfl rfl 17 (by decide) (hts (.fieldLink RX7 162 "SharesDeskModel" "length" "I") (by decide +kernel)) (fun _ h9 => h9) rfl dX7_say_12 ?_
  refine lv_iconst (v := 1) hx hb dX7_say_15 (by decide) ?_
  refine xr_ti (x' := nI 1) rfl ?_
  refine lv_iadd hx hb dX7_say_16 ?_
  refine xr_ti (x' := nI (L + 1)) (nI_add _ _) ?_
  refine xr_put (ci := 7) (v := .int (nI (L + 1))) (ty := .int) (C := RX7) (T := TX7) (N := 18) hx hb hts (by decide +kernel) tyX7 tyX7_ok nmX7 hown hK.1 hO hS (Or.inl rfl) rfl 17 (by decide) (hts (.fieldLink RX7 162 "SharesDeskModel" "length" "I") (by decide +kernel)) rfl (by decide +kernel) rfl rfl (Nat.le_of_ble_eq_true rfl) dX7_say_17 (fun H locs hz hkp hO hS => ?_)
  replace hTx := hTx.kept (hkp _ (by omega))
  exact xr_vret hx hb hr hlocks hS ⟨hO, hTx⟩ dX7_say_20
set_option maxHeartbeats 1000000 in
set_option maxRecDepth 100000 in
theorem c_X7_sayNumber (l : Launch) (g : WG) (H0 : Heap) (b : Nat) (th bu ob cn rn py : Int32) (tl : List Nat) (hO : obj g H0 b 7 (moF b th bu ob cn rn py (nI tl.length))) (Rw : Nat → Nat) (hM : RwsAt g H0 b Rw) (tx : Nat → Nat) (hTx : xr_ia H0 (b + 11) (gI g) 2400 (fun z9 => nI (tx z9))) (hT : TxOK tx tl) (a : Nat) (ha : a < 860) (h128 : Rw a < 2 ^ 128) (hlen : tl.length + 39 ≤ 2400) : Ctr l (KK g) yX7_sayNumber wsX7_sayNumber { frames := 1, cells := 0, slots := 0, locals := 24 } [.ref b, .int (nI a)] H0 eV (fun _ H => ∃ (t2 : Nat → Nat) (R1 : Nat → Nat), obj g H b 7 (moF b th bu ob cn rn py (nI (tl ++ dtx (Rw a)).length)) ∧ xr_ia H (b + 11) (gI g) 2400 (fun z9 => nI (t2 z9)) ∧ TxOK t2 (tl ++ dtx (Rw a)) ∧ RwsAt g H b R1 ∧ ∀ j, j ≠ a → R1 j = Rw j) (fun q => q = b ∨ q = b + 1 ∨ q = b + 11) := by
  refine xr_enter (cc := cX7_sayNumber) (maxL := 7) (ret := none) (by decide) rfl (Nat.le_of_ble_eq_true rfl) ?_
  intro pgm env s mid below meth cde hx hb hr hml hts hown hlocks hnm hH hK ls hl
  subst hH
  have hl : lv_has ls 7 [(0, .ref b), (1, .int (nI a))] := hl
  have hS : va_S (fun q => q = b ∨ q = b + 1 ∨ q = b + 11) s.heap s.heap [] := va_S.rf
  obtain ⟨hf, hRb⟩ := id hM
  have rev : ∀ (k : Nat), 1 ≤ k → k ≤ 39 → dtx (Rw a) = dg (Rw a) k → ∀ (R1 : Nat → Nat), (∀ j, j ≠ a → R1 j = Rw j) → ∀ (g0 : Nat → Nat), (∀ p, p < tl.length → g0 p = tl.getD p 0) → (∀ i, i < k → g0 (tl.length + i) = 48 + Rw a / 10 ^ i % 10) → ∀ (m2 t : Nat), t + m2 = k → 2 * t ≤ k + 1 → ∀ (H : Heap) (locs : List Loc) (tx : Nat → Nat), obj g H b 7 (moF b th bu ob cn rn py (nI (tl.length + k))) → RwsAt g H b R1 → xr_ia H (b + 11) (gI g) 2400 (fun z9 => nI (tx z9)) → (∀ p, p < 2400 → tx p = if (tl.length ≤ p ∧ p < tl.length + t) ∨ (tl.length + k ≤ p + t ∧ p < tl.length + k) then g0 (tl.length + (tl.length + k) - 1 - p) else g0 p) → va_S (fun q => q = b ∨ q = b + 1 ∨ q = b + 11) s.heap H locs → ∀ ls : Array Slot, lv_has ls 7 [(4, .int (nI (tl.length + t))), (5, .int (nI (tl.length + k) - nI (t + 1))), (0, .ref b), (1, .int (nI a))] → W pgm l env { frames := 1, cells := 0, slots := 0, locals := 24 } s mid ([.ref b, .int (nI a)] : List Value).toArray below meth cde H locs 0 0 (MQ below (xr_Post eV (fun _ H => ∃ (t2 : Nat → Nat) (R1 : Nat → Nat), obj g H b 7 (moF b th bu ob cn rn py (nI (tl ++ dtx (Rw a)).length)) ∧ xr_ia H (b + 11) (gI g) 2400 (fun z9 => nI (t2 z9)) ∧ TxOK t2 (tl ++ dtx (Rw a)) ∧ RwsAt g H b R1 ∧ ∀ j, j ≠ a → R1 j = Rw j) (fun q => q = b ∨ q = b + 1 ∨ q = b + 11)) ([.ref b, .int (nI a)] : List Value).toArray s ({ frames := 1, cells := 0, slots := 0, locals := 24 } : Room).cells ({ frames := 1, cells := 0, slots := 0, locals := 24 } : Room).slots (fun q => q = b ∨ q = b + 1 ∨ q = b + 11)) (F0 mid 51 ls []) := by
    intro k hk1 hk39 hdt R1 eo g0 hg0 hg1 m2
    induction m2 with
    | zero =>
      intro t h1 h2
      have e : t = k := by omega
      intro H locs tx hO hM1 hTx htx hS ls hl
      have e1 : k = 1 := by omega
      subst e1
      subst e
      refine lv_iload hx hb dX7_sayNumber_51 (lv_at hl 0 rfl) ?_
      refine lv_iload hx hb dX7_sayNumber_53 (lv_at hl 1 rfl) ?_
      refine lv_icmp_ge (tgt := 99) hx hb dX7_sayNumber_55 (by decide) (fun hc => ?_) (fun hc => ?_)
      · clear hc
        have hfin : TxOK tx (tl ++ dtx (Rw a)) := by
          rw [hdt]
          refine tx_dg (fun p hp => ?_) (fun i hi => ?_)
          · rw [htx p (by omega), if_neg (by omega), hg0 p hp]
          · by_cases e9 : (tl.length ≤ tl.length + i ∧ tl.length + i < tl.length + 1) ∨ (tl.length + 1 ≤ tl.length + i + 1 ∧ tl.length + i < tl.length + 1)
            · rw [htx _ (by omega), if_pos e9, show tl.length + (tl.length + 1) - 1 - (tl.length + i) = tl.length + (1 - 1 - i) by omega, hg1 _ (by omega)]
            · rw [htx _ (by omega), if_neg e9, hg1 i hi, show 1 - 1 - i = i by omega]
        have hle : (tl ++ dtx (Rw a)).length = tl.length + 1 := by rw [List.length_append, hdt, dg_len]
        exact xr_vret hx hb hr hlocks hS ⟨tx, R1, by rw [hle]; exact hO, hTx, hfin, hM1, eo⟩ dX7_sayNumber_99
      · exact absurd (rv_ge (k := 1) (by omega) (by omega)) hc
    | succ m2 ih =>
      intro t h1 h2 H locs tx hO hM1 hTx htx hS ls hl
      refine lv_iload hx hb dX7_sayNumber_51 (lv_at hl 0 rfl) ?_
      refine lv_iload hx hb dX7_sayNumber_53 (lv_at hl 1 rfl) ?_
      refine lv_icmp_ge (tgt := 99) hx hb dX7_sayNumber_55 (by decide) (fun hc => ?_) (fun hc => ?_)
      · have h3 : k ≤ 2 * t + 1 := rv_le (by omega) (by omega) (by omega) hc
        have hfin : TxOK tx (tl ++ dtx (Rw a)) := by
          rw [hdt]
          refine tx_dg (fun p hp => ?_) (fun i hi => ?_)
          · rw [htx p (by omega), if_neg (by omega), hg0 p hp]
          · by_cases e9 : (tl.length ≤ tl.length + i ∧ tl.length + i < tl.length + t) ∨ (tl.length + k ≤ tl.length + i + t ∧ tl.length + i < tl.length + k)
            · rw [htx _ (by omega), if_pos e9, show tl.length + (tl.length + k) - 1 - (tl.length + i) = tl.length + (k - 1 - i) by omega, hg1 _ (by omega)]
            · rw [htx _ (by omega), if_neg e9, hg1 i hi, show k - 1 - i = i by omega]
        have hle : (tl ++ dtx (Rw a)).length = tl.length + k := by rw [List.length_append, hdt, dg_len]
        exact xr_vret hx hb hr hlocks hS ⟨tx, R1, by rw [hle]; exact hO, hTx, hfin, hM1, eo⟩ dX7_sayNumber_99
      · have h3 : 2 * t + 1 < k := rv_lt (by omega) (by omega) (by omega) hc
        have hl : lv_has ls 7 [(4, .int (nI (tl.length + t))), (5, .int (nI (tl.length + k - (t + 1)))), (0, .ref b), (1, .int (nI a))] := by rw [pk_sub (by omega)] at hl; exact hl
        refine lv_aload_n hx hb dX7_sayNumber_58 rfl (lv_at hl 2 rfl) ?_
        refine va_get (D := g.1) (ci := 7) (v := .ref (b + 11)) (C := RX7) (T := TX7) (N := 18) hx hb hts (by decide +kernel) hown hK.1 (xr_one hO) 0 rfl rfl 16 (by decide) (hts (.fieldLink RX7 48 "SharesDeskModel" "text" "[I") (by decide +kernel)) (fun _ h9 => h9) rfl dX7_sayNumber_59 ?_
        refine lv_iload hx hb dX7_sayNumber_62 (lv_at hl 0 rfl) ?_
        refine xr_rd hx hb hK hTx (show tl.length + t < 2400 by omega) (by decide) dX7_sayNumber_64 ?_
        refine lv_istore (lv' := [(6, .int (nI (tx (tl.length + t)))), (4, .int (nI (tl.length + t))), (5, .int (nI (tl.length + k - (t + 1)))), (0, .ref b), (1, .int (nI a))]) hx hb dX7_sayNumber_65 hl (by decide) rfl (fun ls hl => ?_)
        refine lv_aload_n hx hb dX7_sayNumber_67 rfl (lv_at hl 3 rfl) ?_
        refine va_get (D := g.1) (ci := 7) (v := .ref (b + 11)) (C := RX7) (T := TX7) (N := 18) hx hb hts (by decide +kernel) hown hK.1 (xr_one hO) 0 rfl rfl 16 (by decide) (hts (.fieldLink RX7 48 "SharesDeskModel" "text" "[I") (by decide +kernel)) (fun _ h9 => h9) rfl dX7_sayNumber_68 ?_
        refine lv_iload hx hb dX7_sayNumber_71 (lv_at hl 1 rfl) ?_
        refine lv_aload_n hx hb dX7_sayNumber_73 rfl (lv_at hl 3 rfl) ?_
        refine va_get (D := g.1) (ci := 7) (v := .ref (b + 11)) (C := RX7) (T := TX7) (N := 18) hx hb hts (by decide +kernel) hown hK.1 (xr_one hO) 0 rfl rfl 16 (by decide) (hts (.fieldLink RX7 48 "SharesDeskModel" "text" "[I") (by decide +kernel)) (fun _ h9 => h9) rfl dX7_sayNumber_74 ?_
        refine lv_iload hx hb dX7_sayNumber_77 (lv_at hl 2 rfl) ?_
        refine xr_rd hx hb hK hTx (show tl.length + k - (t + 1) < 2400 by omega) (by decide) dX7_sayNumber_79 ?_
        refine xr_nwr hx hb hK hS (show b + 11 = b ∨ b + 11 = b + 1 ∨ b + 11 = b + 11 by omega) hTx (show tl.length + t < 2400 by omega) (by decide) dX7_sayNumber_80 (fun H locs hz hkp hTx hS => ?_)
        replace hO := hO.kept (hkp _ (by omega))
        replace hM1 := hM1.kept (hkp _ (by omega))
        refine lv_aload_n hx hb dX7_sayNumber_81 rfl (lv_at hl 3 rfl) ?_
        refine va_get (D := g.1) (ci := 7) (v := .ref (b + 11)) (C := RX7) (T := TX7) (N := 18) hx hb hts (by decide +kernel) hown hK.1 (xr_one hO) 0 rfl rfl 16 (by decide) (hts (.fieldLink RX7 48 "SharesDeskModel" "text" "[I") (by decide +kernel)) (fun _ h9 => h9) rfl dX7_sayNumber_82 ?_
        refine lv_iload hx hb dX7_sayNumber_85 (lv_at hl 2 rfl) ?_
        refine lv_iload hx hb dX7_sayNumber_87 (lv_at hl 0 rfl) ?_
        refine xr_nwr hx hb hK hS (show b + 11 = b ∨ b + 11 = b + 1 ∨ b + 11 = b + 11 by omega) hTx (show tl.length + k - (t + 1) < 2400 by omega) (by decide) dX7_sayNumber_89 (fun H locs hz hkp hTx hS => ?_)
        replace hO := hO.kept (hkp _ (by omega))
        replace hM1 := hM1.kept (hkp _ (by omega))
        refine lv_iinc (v := nI (tl.length + (t + 1))) (lv' := [(4, .int (nI (tl.length + (t + 1)))), (6, .int (nI (tx (tl.length + t)))), (5, .int (nI (tl.length + k - (t + 1)))), (0, .ref b), (1, .int (nI a))]) hx hb dX7_sayNumber_90 hl (k := 1) rfl (nI_1 _) (by decide) rfl (fun ls hl => ?_)
        refine lv_iinc (v := nI (tl.length + k) - nI (t + 1 + 1)) (lv' := [(5, .int (nI (tl.length + k) - nI (t + 1 + 1))), (4, .int (nI (tl.length + (t + 1)))), (6, .int (nI (tx (tl.length + t)))), (0, .ref b), (1, .int (nI a))]) hx hb dX7_sayNumber_93 hl (k := 2) rfl (by rw [pk_sub (show t + 1 + 1 ≤ tl.length + k by omega), show tl.length + k - (t + 1) = tl.length + k - (t + 1 + 1) + 1 by omega]; exact pk_m1 _) (by decide) rfl (fun ls hl => ?_)
        refine lv_goto (tgt := 51) hx hb dX7_sayNumber_96 (by decide) ?_
        refine ih (t + 1) (by omega) (by omega) H _ _ hO hM1 hTx (fun p hp => ?_) hS ls (lv_sub hl [1, 0, 3, 4] rfl)
        have a1 : tx (tl.length + t) = g0 (tl.length + t) := by rw [htx _ (by omega), if_neg (by omega)]
        have a2 : tx (tl.length + k - (t + 1)) = g0 (tl.length + k - (t + 1)) := by rw [htx _ (by omega), if_neg (by omega)]
        by_cases e2 : p = tl.length + k - (t + 1)
        · rw [e2, va_up_self, a1, if_pos (by omega)]
          congr 1
          omega
        · rw [va_up_ne _ _ e2]
          by_cases e1 : p = tl.length + t
          · rw [e1, va_up_self, a2, if_pos (by omega)]
            congr 1
            omega
          · rw [va_up_ne _ _ e1, htx p hp]
            by_cases e3 : (tl.length ≤ p ∧ p < tl.length + t) ∨ (tl.length + k ≤ p + t ∧ p < tl.length + k)
            · rw [if_pos e3, if_pos (by omega)]
            · rw [if_neg e3, if_neg (by omega)]
  have digs : ∀ (r k : Nat), k + r = 39 → (k = 0 ∨ Rw a / 10 ^ k ≠ 0) → ∀ (H : Heap) (locs : List Loc) (tx R1 : Nat → Nat), obj g H b 7 (moF b th bu ob cn rn py (nI (tl.length + k))) → RwsAt g H b R1 → xr_ia H (b + 11) (gI g) 2400 (fun z9 => nI (tx z9)) → R1 a = Rw a / 10 ^ k → (∀ j, j ≠ a → R1 j = Rw j) → (∀ p, p < tl.length → tx p = tl.getD p 0) → (∀ i, i < k → tx (tl.length + i) = 48 + Rw a / 10 ^ i % 10) → va_S (fun q => q = b ∨ q = b + 1 ∨ q = b + 11) s.heap H locs → ∀ ls : Array Slot, lv_has ls 7 [(3, .int 1), (2, .int (nI tl.length)), (0, .ref b), (1, .int (nI a))] → W pgm l env { frames := 1, cells := 0, slots := 0, locals := 24 } s mid ([.ref b, .int (nI a)] : List Value).toArray below meth cde H locs 0 0 (MQ below (xr_Post eV (fun _ H => ∃ (t2 : Nat → Nat) (R1 : Nat → Nat), obj g H b 7 (moF b th bu ob cn rn py (nI (tl ++ dtx (Rw a)).length)) ∧ xr_ia H (b + 11) (gI g) 2400 (fun z9 => nI (t2 z9)) ∧ TxOK t2 (tl ++ dtx (Rw a)) ∧ RwsAt g H b R1 ∧ ∀ j, j ≠ a → R1 j = Rw j) (fun q => q = b ∨ q = b + 1 ∨ q = b + 11)) ([.ref b, .int (nI a)] : List Value).toArray s ({ frames := 1, cells := 0, slots := 0, locals := 24 } : Room).cells ({ frames := 1, cells := 0, slots := 0, locals := 24 } : Room).slots (fun q => q = b ∨ q = b + 1 ∨ q = b + 11)) (F0 mid 7 ls []) := by
    intro r
    induction r with
    | zero =>
      intro k h1 h2
      have e : k = 39 := by omega
      subst e
      exact absurd (d10_39 h128) (h2.resolve_left (by decide))
    | succ r ih =>
      intro k h1 h2 H locs tx R1 hO hM1 hTx e1 eo hg0 hg1 hS ls hl
      refine lv_iload_n hx hb dX7_sayNumber_7 rfl (lv_at hl 0 rfl) ?_
      refine lv_if_eq (tgt := 40) hx hb dX7_sayNumber_8 (by decide) (fun hc => ?_) (fun hc => ?_)
      · exact absurd hc (by decide)
      · clear hc
        refine lv_aload_n hx hb dX7_sayNumber_11 rfl (lv_at hl 2 rfl) ?_
        refine lv_bipush (v := 48) hx hb dX7_sayNumber_12 (by decide) ?_
        refine xr_ti (x' := nI 48) rfl ?_
        refine lv_aload_n hx hb dX7_sayNumber_14 rfl (lv_at hl 2 rfl) ?_
        refine lv_iload_n hx hb dX7_sayNumber_15 rfl (lv_at hl 3 rfl) ?_
        refine xr_Vi (rest := [.int (nI 48), .ref b]) ⟨hx, hb, hml, hown, hts⟩ (KK_ok g) hK (c_X7_tenth l g H b th bu ob cn rn py (nI (tl.length + k)) hO R1 hM1 a ha) (cwV 1 hts gX7_sayNumber_X7_tenth rfl rfl rfl (by decide +kernel) ⟨Nat.le_of_ble_eq_true rfl, Nat.le_of_ble_eq_true rfl⟩) (xr_rec hK hO rfl) rfl hl.1 rfl (Nat.le_of_ble_eq_true rfl) dX7_sayNumber_16 ⟨Nat.le_of_ble_eq_true rfl, Nat.le_of_ble_eq_true rfl⟩ hS (fun q h => by have h : q = b + 1 := h; show q = b ∨ q = b + 1 ∨ q = b + 11; omega) (fun rr H locs hq hz hkp hS => ?_)
        replace hkp := fun (q : Nat) h1 (h2 : ¬ (q = b + 1)) => hkp q h1 h2
        replace hO := hO.kept (hkp _ hO.lt (by omega))
        replace hTx := hTx.kept (hkp _ hTx.lt (by omega))
        obtain ⟨rfl, hq⟩ := hq
        obtain ⟨R2, hR2⟩ : ∃ r9 : Nat → Nat, r9 = va_up R1 a (R1 a / 10) := ⟨_, rfl⟩
        have hMR2 : RwsAt g H b R2 := by rw [hR2]; exact hq
        clear hq
        rw [e1]
        refine lv_iadd hx hb dX7_sayNumber_19 ?_
        refine xr_ti (x' := nI (48 + Rw a / 10 ^ k % 10)) (nI_add _ _) ?_
        refine xr_Vv (rest := []) ⟨hx, hb, hml, hown, hts⟩ (KK_ok g) hK (c_X7_say l g H b th bu ob cn rn py (tl.length + k) hO tx hTx (48 + Rw a / 10 ^ k % 10) (by omega)) (cwV 1 hts gX7_sayNumber_X7_say rfl rfl rfl (by decide +kernel) ⟨Nat.le_of_ble_eq_true rfl, Nat.le_of_ble_eq_true rfl⟩) (xr_rec hK hO rfl) rfl hl.1 rfl (Nat.le_of_ble_eq_true rfl) dX7_sayNumber_20 ⟨Nat.le_of_ble_eq_true rfl, Nat.le_of_ble_eq_true rfl⟩ hS (fun q h => by have h : q = b ∨ q = b + 11 := h; show q = b ∨ q = b + 1 ∨ q = b + 11; omega) (fun _ H locs hq hz hkp hS => ?_)
        replace hkp := fun (q : Nat) h1 (h2 : ¬ (q = b ∨ q = b + 11)) => hkp q h1 h2
        replace hMR2 := hMR2.kept (hkp _ hMR2.lt (by omega))
        obtain ⟨hO, hTx⟩ := hq
        have hO : obj g H b 7 (moF b th bu ob cn rn py (nI (tl.length + (k + 1)))) := hO
        have f1 : R2 a = Rw a / 10 ^ (k + 1) := by rw [hR2, va_up_self, e1, d10_s]
        have f2 : ∀ j, j ≠ a → R2 j = Rw j := fun j hj => by rw [hR2, va_up_ne _ _ hj, eo j hj]
        have f3 : ∀ p, p < tl.length → va_up tx (tl.length + k) (48 + Rw a / 10 ^ k % 10) p = tl.getD p 0 := fun p hp => by rw [va_up_ne _ _ (by omega), hg0 p hp]
        have f4 : ∀ i, i < k + 1 → va_up tx (tl.length + k) (48 + Rw a / 10 ^ k % 10) (tl.length + i) = 48 + Rw a / 10 ^ i % 10 := fun i hi => by
          by_cases e9 : i = k
          · rw [e9, va_up_self]
          · rw [va_up_ne _ _ (by omega), hg1 i (by omega)]
        refine lv_aload_n hx hb dX7_sayNumber_23 rfl (lv_at hl 2 rfl) ?_
        refine lv_iload_n hx hb dX7_sayNumber_24 rfl (lv_at hl 3 rfl) ?_
        refine xr_Vi (rest := []) ⟨hx, hb, hml, hown, hts⟩ (KK_ok g) hK (c_X7_isNone l g H b th bu ob cn rn py (nI (tl.length + (k + 1))) hO R2 hMR2 a ha) (cwV 1 hts gX7_sayNumber_X7_isNone rfl rfl rfl (by decide +kernel) ⟨Nat.le_of_ble_eq_true rfl, Nat.le_of_ble_eq_true rfl⟩) (xr_rec hK hO rfl) rfl hl.1 rfl (Nat.le_of_ble_eq_true rfl) dX7_sayNumber_25 ⟨Nat.le_of_ble_eq_true rfl, Nat.le_of_ble_eq_true rfl⟩ hS (fun q h => h.elim) (fun r H locs hq hz hkp hS944 => ?_)
        obtain ⟨rfl, rfl⟩ := hq
        have hS := hS944
        rw [f1]
        refine lv_if_ne (tgt := 35) hx hb dX7_sayNumber_28 (by decide) (fun h5 => ?_) (fun h5 => ?_)
        · have h6 : Rw a / 10 ^ (k + 1) = 0 := of_decide_eq_true (b2i_n0.mp h5)
          refine lv_iconst (v := 0) hx hb dX7_sayNumber_35 (by decide) ?_
          refine lv_istore_n (lv' := [(3, .int 0), (2, .int (nI tl.length)), (0, .ref b), (1, .int (nI a))]) hx hb dX7_sayNumber_36 rfl hl (by decide) rfl (fun ls hl => ?_)
          refine lv_goto (tgt := 7) hx hb dX7_sayNumber_37 (by decide) ?_
          refine lv_iload_n hx hb dX7_sayNumber_7 rfl (lv_at hl 0 rfl) ?_
          refine lv_if_eq (tgt := 40) hx hb dX7_sayNumber_8 (by decide) (fun h7 => ?_) (fun h7 => ?_)
          · clear h7
            refine lv_iload_n hx hb dX7_sayNumber_40 rfl (lv_at hl 1 rfl) ?_
            refine xr_ti (x' := nI (tl.length + 0)) rfl ?_
            refine lv_istore (lv' := [(4, .int (nI (tl.length + 0))), (3, .int 0), (2, .int (nI tl.length)), (0, .ref b), (1, .int (nI a))]) hx hb dX7_sayNumber_41 hl (by decide) rfl (fun ls hl => ?_)
            refine lv_aload_n hx hb dX7_sayNumber_43 rfl (lv_at hl 3 rfl) ?_
            refine va_get (D := g.1) (ci := 7) (v := .int (nI (tl.length + (k + 1)))) (C := RX7) (T := TX7) (N := 18) hx hb hts (by decide +kernel) hown hK.1 (xr_one hO) 0 rfl rfl 17 (by decide) (hts (.fieldLink RX7 162 "SharesDeskModel" "length" "I") (by decide +kernel)) (fun _ h9 => h9) rfl dX7_sayNumber_44 ?_
            refine lv_iconst (v := 1) hx hb dX7_sayNumber_47 (by decide) ?_
            refine xr_ti (x' := nI (0 + 1)) rfl ?_
            refine lv_isub hx hb dX7_sayNumber_48 ?_
            refine lv_istore (lv' := [(5, .int ((nI (tl.length + (k + 1))) - (nI (0 + 1)))), (4, .int (nI (tl.length + 0))), (3, .int 0), (2, .int (nI tl.length)), (0, .ref b), (1, .int (nI a))]) hx hb dX7_sayNumber_49 hl (by decide) rfl (fun ls hl => ?_)
            exact rev (k + 1) (by omega) (by omega) (dtx_is (by omega) (by omega) h6 (by rcases h2 with h2 | h2; (exact Or.inl (by omega)); exact Or.inr h2)) R2 f2 _ f3 f4 (k + 1) 0 (by omega) (by omega) H _ _ hO hMR2 hTx (fun p hp => by rw [if_neg (by omega)]) hS ls (lv_sub hl [1, 0, 4, 5] rfl)
          · exact absurd rfl h7
        · have h6 : ¬ Rw a / 10 ^ (k + 1) = 0 := of_decide_eq_false (b2i_0.mp h5)
          refine lv_iconst (v := 1) hx hb dX7_sayNumber_31 (by decide) ?_
          refine lv_goto (tgt := 36) hx hb dX7_sayNumber_32 (by decide) ?_
          refine lv_istore_n (lv' := [(3, .int 1), (2, .int (nI tl.length)), (0, .ref b), (1, .int (nI a))]) hx hb dX7_sayNumber_36 rfl hl (by decide) rfl (fun ls hl => ?_)
          refine lv_goto (tgt := 7) hx hb dX7_sayNumber_37 (by decide) ?_
          exact ih (k + 1) (by omega) (Or.inr h6) H _ _ R2 hO hMR2 hTx f1 f2 f3 f4 hS ls (lv_sub hl [0, 1, 2, 3] rfl)
  refine lv_aload_n hx hb dX7_sayNumber_0 rfl (lv_at hl 0 rfl) ?_
  refine va_get (D := g.1) (ci := 7) (v := .int (nI tl.length)) (C := RX7) (T := TX7) (N := 18) hx hb hts (by decide +kernel) hown hK.1 (xr_one hO) 0 rfl rfl 17 (by decide) (hts (.fieldLink RX7 162 "SharesDeskModel" "length" "I") (by decide +kernel)) (fun _ h9 => h9) rfl dX7_sayNumber_1 ?_
  refine lv_istore_n (lv' := [(2, .int (nI tl.length)), (0, .ref b), (1, .int (nI a))]) hx hb dX7_sayNumber_4 rfl hl (by decide) rfl (fun ls hl => ?_)
  refine lv_iconst (v := 1) hx hb dX7_sayNumber_5 (by decide) ?_
  refine lv_istore_n (lv' := [(3, .int 1), (2, .int (nI tl.length)), (0, .ref b), (1, .int (nI a))]) hx hb dX7_sayNumber_6 rfl hl (by decide) rfl (fun ls hl => ?_)
  exact digs 39 0 (by omega) (Or.inl rfl) s.heap [] tx Rw hO hM hTx (by rw [Nat.pow_zero, Nat.div_one]) (fun _ _ => rfl) (fun p hp => hT p hp) (fun i hi => absurd hi (Nat.not_lt_zero _)) hS ls (lv_sub hl [0, 1, 2, 3] rfl)
set_option maxHeartbeats 1000000 in
set_option maxRecDepth 100000 in
theorem c_X7_sayFraction (l : Launch) (g : WG) (H0 : Heap) (b : Nat) (th bu ob cn rn py : Int32) (tl : List Nat) (hO : obj g H0 b 7 (moF b th bu ob cn rn py (nI tl.length))) (Rw : Nat → Nat) (hM : RwsAt g H0 b Rw) (tx : Nat → Nat) (hTx : xr_ia H0 (b + 11) (gI g) 2400 (fun z9 => nI (tx z9))) (hT : TxOK tx tl) (a c : Nat) (ha : a < 852) (hc9 : c < 852) (h0 : 0 < Rw c) (ha1 : Rw a < 2 ^ 128) (hc1 : Rw c < 2 ^ 128) (hlen : tl.length + 79 ≤ 2400) : Ctr l (KK g) yX7_sayFraction wsX7_sayFraction { frames := 4, cells := 0, slots := 0, locals := 92 } [.ref b, .int (nI a), .int (nI c)] H0 eV (fun _ H => ∃ (t2 : Nat → Nat) (R1 : Nat → Nat), obj g H b 7 (moF b th bu ob cn rn py (nI (tl ++ fTx (Rw a) (Rw c)).length)) ∧ xr_ia H (b + 11) (gI g) 2400 (fun z9 => nI (t2 z9)) ∧ TxOK t2 (tl ++ fTx (Rw a) (Rw c)) ∧ RwsAt g H b R1 ∧ ∀ j, j < 852 → R1 j = Rw j) (fun q => q = b ∨ q = b + 1 ∨ q = b + 11) := by
  refine xr_enter (cc := cX7_sayFraction) (maxL := 4) (ret := none) (by decide) rfl (Nat.le_of_ble_eq_true rfl) ?_
  intro pgm env s mid below meth cde hx hb hr hml hts hown hlocks hnm hH hK ls hl
  subst hH
  have hl : lv_has ls 4 [(0, .ref b), (1, .int (nI a)), (2, .int (nI c))] := hl
  have hS : va_S (fun q => q = b ∨ q = b + 1 ∨ q = b + 11) s.heap s.heap [] := va_S.rf
  obtain ⟨hf, hRb⟩ := id hM
  refine lv_aload_n hx hb dX7_sayFraction_0 rfl (lv_at hl 0 rfl) ?_
  refine lv_iload_n hx hb dX7_sayFraction_1 rfl (lv_at hl 1 rfl) ?_
  refine lv_iload_n hx hb dX7_sayFraction_2 rfl (lv_at hl 2 rfl) ?_
  refine xr_Vv (rest := []) ⟨hx, hb, hml, hown, hts⟩ (KK_ok g) hK (c_X7_reduce l g s.heap b th bu ob cn rn py (nI tl.length) hO Rw hM a c ha hc9 h0 (by omega) (by omega)) (cwV 2 hts gX7_sayFraction_X7_reduce rfl rfl rfl (by decide +kernel) ⟨Nat.le_of_ble_eq_true rfl, Nat.le_of_ble_eq_true rfl⟩) (xr_rec hK hO rfl) rfl hl.1 rfl (Nat.le_of_ble_eq_true rfl) dX7_sayFraction_3 ⟨Nat.le_of_ble_eq_true rfl, Nat.le_of_ble_eq_true rfl⟩ hS (fun q h => by have h : q = b + 1 := h; show q = b ∨ q = b + 1 ∨ q = b + 11; omega) (fun _ H locs hq hz hkp hS => ?_)
  replace hkp := fun (q : Nat) h1 (h2 : ¬ (q = b + 1)) => hkp q h1 h2
  replace hO := hO.kept (hkp _ hO.lt (by omega))
  replace hTx := hTx.kept (hkp _ hTx.lt (by omega))
  obtain ⟨R1, hM1, e1, e2, e3⟩ := hq
  refine lv_aload_n hx hb dX7_sayFraction_6 rfl (lv_at hl 0 rfl) ?_
  refine lv_sipush (v := 854) hx hb dX7_sayFraction_7 (by decide) ?_
  refine xr_ti (x' := nI 854) rfl ?_
  refine lv_lconst (v := 1) hx hb dX7_sayFraction_10 (by decide) ?_
  refine xr_tl (x' := lN 1) rfl ?_
  refine xr_Vv (rest := []) ⟨hx, hb, hml, hown, hts⟩ (KK_ok g) hK (c_X7_set l g H b th bu ob cn rn py (nI tl.length) hO R1 hM1 854 1 (by decide) (by decide)) (cwV 2 hts gX7_sayFraction_X7_set rfl rfl rfl (by decide +kernel) ⟨Nat.le_of_ble_eq_true rfl, Nat.le_of_ble_eq_true rfl⟩) (xr_rec hK hO rfl) rfl hl.1 rfl (Nat.le_of_ble_eq_true rfl) dX7_sayFraction_11 ⟨Nat.le_of_ble_eq_true rfl, Nat.le_of_ble_eq_true rfl⟩ hS (fun q h => by have h : q = b + 1 := h; show q = b ∨ q = b + 1 ∨ q = b + 11; omega) (fun _ H locs hq hz hkp hS => ?_)
  replace hkp := fun (q : Nat) h1 (h2 : ¬ (q = b + 1)) => hkp q h1 h2
  replace hO := hO.kept (hkp _ hO.lt (by omega))
  replace hTx := hTx.kept (hkp _ hTx.lt (by omega))
  obtain ⟨R2, hR2⟩ : ∃ r9 : Nat → Nat, r9 = va_up R1 854 (1) := ⟨_, rfl⟩
  have hMR2 : RwsAt g H b R2 := by rw [hR2]; exact hq
  clear hq
  have t1 : Rw a / Nat.gcd (Rw a) (Rw c) < 2 ^ 128 := Nat.lt_of_le_of_lt (Nat.div_le_self _ _) ha1
  have t2 : Rw c / Nat.gcd (Rw a) (Rw c) < 2 ^ 128 := Nat.lt_of_le_of_lt (Nat.div_le_self _ _) hc1
  have f1 : R2 852 = Rw a / Nat.gcd (Rw a) (Rw c) := by rw [hR2, va_up_ne _ _ (by decide), e1]
  have f2 : R2 853 = Rw c / Nat.gcd (Rw a) (Rw c) := by rw [hR2, va_up_ne _ _ (by decide), e2]
  have f3 : ∀ j, j < 852 → R2 j = Rw j := fun j hj => by rw [hR2, va_up_ne _ _ (by omega), e3 j (by omega)]
  have f4 : R2 854 = 1 := by rw [hR2, va_up_self]
  have hd1 := dtx_len (Rw a / Nat.gcd (Rw a) (Rw c))
  refine lv_aload_n hx hb dX7_sayFraction_14 rfl (lv_at hl 0 rfl) ?_
  refine lv_sipush (v := 853) hx hb dX7_sayFraction_15 (by decide) ?_
  refine xr_ti (x' := nI 853) rfl ?_
  refine lv_sipush (v := 854) hx hb dX7_sayFraction_18 (by decide) ?_
  refine xr_ti (x' := nI 854) rfl ?_
  refine xr_Vi (rest := []) ⟨hx, hb, hml, hown, hts⟩ (KK_ok g) hK (c_X7_compare l g H b th bu ob cn rn py (nI tl.length) hO R2 hMR2 853 854 (by decide) (by decide)) (cwV 2 hts gX7_sayFraction_X7_compare rfl rfl rfl (by decide +kernel) ⟨Nat.le_of_ble_eq_true rfl, Nat.le_of_ble_eq_true rfl⟩) (xr_rec hK hO rfl) rfl hl.1 rfl (Nat.le_of_ble_eq_true rfl) dX7_sayFraction_21 ⟨Nat.le_of_ble_eq_true rfl, Nat.le_of_ble_eq_true rfl⟩ hS (fun q h => h.elim) (fun r H locs hq hz hkp hS945 => ?_)
  obtain ⟨rfl, rfl⟩ := hq
  have hS := hS945
  rw [f2, f4]
  refine lv_if_ne (tgt := 31) hx hb dX7_sayFraction_24 (by decide) (fun h5 => ?_) (fun h5 => ?_)
  · have h6 : ¬ Rw c / Nat.gcd (Rw a) (Rw c) = 1 := fun q => h5 (cmpI_0.mpr q)
    refine lv_iconst (v := 0) hx hb dX7_sayFraction_31 (by decide) ?_
    refine lv_istore_n (lv' := [(3, .int 0), (0, .ref b), (1, .int (nI a)), (2, .int (nI c))]) hx hb dX7_sayFraction_32 rfl hl (by decide) rfl (fun ls hl => ?_)
    refine lv_aload_n hx hb dX7_sayFraction_33 rfl (lv_at hl 1 rfl) ?_
    refine lv_sipush (v := 852) hx hb dX7_sayFraction_34 (by decide) ?_
    refine xr_ti (x' := nI 852) rfl ?_
    refine xr_Vv (rest := []) ⟨hx, hb, hml, hown, hts⟩ (KK_ok g) hK (c_X7_sayNumber l g H b th bu ob cn rn py tl hO R2 hMR2 tx hTx hT 852 (by decide) (by rw [f1]; exact t1) (by omega)) (cwV 1 hts gX7_sayFraction_X7_sayNumber rfl rfl rfl (by decide +kernel) ⟨Nat.le_of_ble_eq_true rfl, Nat.le_of_ble_eq_true rfl⟩) (xr_rec hK hO rfl) rfl hl.1 rfl (Nat.le_of_ble_eq_true rfl) dX7_sayFraction_37 ⟨Nat.le_of_ble_eq_true rfl, Nat.le_of_ble_eq_true rfl⟩ hS (fun q h => h) (fun _ H locs hq hz hkp hS => ?_)
    replace hkp := fun (q : Nat) h1 (h2 : ¬ (q = b ∨ q = b + 1 ∨ q = b + 11)) => hkp q h1 h2
    obtain ⟨u2, R3, hO, hTx, hT, hM3, g3⟩ := hq
    rw [f1] at hO hT
    refine lv_iload_n hx hb dX7_sayFraction_40 rfl (lv_at hl 0 rfl) ?_
    refine lv_if_eq (tgt := 45) hx hb dX7_sayFraction_41 (by decide) (fun h7 => ?_) (fun h7 => ?_)
    · clear h7
      refine lv_aload_n hx hb dX7_sayFraction_45 rfl (lv_at hl 1 rfl) ?_
      refine lv_bipush (v := 47) hx hb dX7_sayFraction_46 (by decide) ?_
      refine xr_ti (x' := nI 47) rfl ?_
      refine xr_Vv (rest := []) ⟨hx, hb, hml, hown, hts⟩ (KK_ok g) hK (c_X7_say l g H b th bu ob cn rn py _ hO u2 hTx 47 (by rw [List.length_append]; omega)) (cwV 1 hts gX7_sayFraction_X7_say rfl rfl rfl (by decide +kernel) ⟨Nat.le_of_ble_eq_true rfl, Nat.le_of_ble_eq_true rfl⟩) (xr_rec hK hO rfl) rfl hl.1 rfl (Nat.le_of_ble_eq_true rfl) dX7_sayFraction_48 ⟨Nat.le_of_ble_eq_true rfl, Nat.le_of_ble_eq_true rfl⟩ hS (fun q h => by have h : q = b ∨ q = b + 11 := h; show q = b ∨ q = b + 1 ∨ q = b + 11; omega) (fun _ H locs hq hz hkp hS => ?_)
      replace hkp := fun (q : Nat) h1 (h2 : ¬ (q = b ∨ q = b + 11)) => hkp q h1 h2
      replace hM3 := hM3.kept (hkp _ hM3.lt (by omega))
      obtain ⟨hO, hTx⟩ := hq
      have hT := hT.app (c := 47)
      have hO : obj g H b 7 (moF b th bu ob cn rn py (nI (tl ++ dtx (Rw a / Nat.gcd (Rw a) (Rw c)) ++ [47]).length)) := by rw [List.length_append, List.length_singleton]; exact hO
      refine lv_aload_n hx hb dX7_sayFraction_51 rfl (lv_at hl 1 rfl) ?_
      refine lv_sipush (v := 853) hx hb dX7_sayFraction_52 (by decide) ?_
      refine xr_ti (x' := nI 853) rfl ?_
      refine xr_Vv (rest := []) ⟨hx, hb, hml, hown, hts⟩ (KK_ok g) hK (c_X7_sayNumber l g H b th bu ob cn rn py _ hO R3 hM3 _ hTx hT 853 (by decide) (by rw [g3 853 (by decide), f2]; exact t2) (by simp; omega)) (cwV 1 hts gX7_sayFraction_X7_sayNumber rfl rfl rfl (by decide +kernel) ⟨Nat.le_of_ble_eq_true rfl, Nat.le_of_ble_eq_true rfl⟩) (xr_rec hK hO rfl) rfl hl.1 rfl (Nat.le_of_ble_eq_true rfl) dX7_sayFraction_55 ⟨Nat.le_of_ble_eq_true rfl, Nat.le_of_ble_eq_true rfl⟩ hS (fun q h => h) (fun _ H locs hq hz hkp hS => ?_)
      obtain ⟨u3, R4, hO, hTx, hT, hM4, g4⟩ := hq
      rw [g3 853 (by decide), f2] at hO hT
      have hfe : tl ++ dtx (Rw a / Nat.gcd (Rw a) (Rw c)) ++ [47] ++ dtx (Rw c / Nat.gcd (Rw a) (Rw c)) = tl ++ fTx (Rw a) (Rw c) := by unfold fTx rtx; rw [if_neg h6]; simp
      rw [hfe] at hO hT
      exact xr_vret hx hb hr hlocks hS ⟨u3, R4, hO, hTx, hT, hM4, fun j hj => by rw [g4 j (by omega), g3 j (by omega), f3 j hj]⟩ dX7_sayFraction_58
    · exact absurd rfl h7
  · have h6 : Rw c / Nat.gcd (Rw a) (Rw c) = 1 := cmpI_0.mp h5
    refine lv_iconst (v := 1) hx hb dX7_sayFraction_27 (by decide) ?_
    refine lv_goto (tgt := 32) hx hb dX7_sayFraction_28 (by decide) ?_
    refine lv_istore_n (lv' := [(3, .int 1), (0, .ref b), (1, .int (nI a)), (2, .int (nI c))]) hx hb dX7_sayFraction_32 rfl hl (by decide) rfl (fun ls hl => ?_)
    refine lv_aload_n hx hb dX7_sayFraction_33 rfl (lv_at hl 1 rfl) ?_
    refine lv_sipush (v := 852) hx hb dX7_sayFraction_34 (by decide) ?_
    refine xr_ti (x' := nI 852) rfl ?_
    refine xr_Vv (rest := []) ⟨hx, hb, hml, hown, hts⟩ (KK_ok g) hK (c_X7_sayNumber l g H b th bu ob cn rn py tl hO R2 hMR2 tx hTx hT 852 (by decide) (by rw [f1]; exact t1) (by omega)) (cwV 1 hts gX7_sayFraction_X7_sayNumber rfl rfl rfl (by decide +kernel) ⟨Nat.le_of_ble_eq_true rfl, Nat.le_of_ble_eq_true rfl⟩) (xr_rec hK hO rfl) rfl hl.1 rfl (Nat.le_of_ble_eq_true rfl) dX7_sayFraction_37 ⟨Nat.le_of_ble_eq_true rfl, Nat.le_of_ble_eq_true rfl⟩ hS (fun q h => h) (fun _ H locs hq hz hkp hS => ?_)
    replace hkp := fun (q : Nat) h1 (h2 : ¬ (q = b ∨ q = b + 1 ∨ q = b + 11)) => hkp q h1 h2
    obtain ⟨u2, R3, hO, hTx, hT, hM3, g3⟩ := hq
    rw [f1] at hO hT
    refine lv_iload_n hx hb dX7_sayFraction_40 rfl (lv_at hl 0 rfl) ?_
    refine lv_if_eq (tgt := 45) hx hb dX7_sayFraction_41 (by decide) (fun h7 => ?_) (fun h7 => ?_)
    · exact absurd h7 (by decide)
    · clear h7
      have hfe : tl ++ dtx (Rw a / Nat.gcd (Rw a) (Rw c)) = tl ++ fTx (Rw a) (Rw c) := by unfold fTx rtx; rw [if_pos h6, List.append_nil]
      rw [hfe] at hO hT
      exact xr_vret hx hb hr hlocks hS ⟨u2, R3, hO, hTx, hT, hM3, fun j hj => by rw [g3 j (by omega), f3 j hj]⟩ dX7_sayFraction_44
