set_option maxHeartbeats 800000 in
set_option maxRecDepth 100000 in
theorem c_J6_numberOfTrailingZeros_0f7a4 (l : Launch) (g : WG) (H0 : Heap) (t w : Nat) (ht : t < 16) (hx31 : 2 ^ t * (2 * w + 1) < 2 ^ 31) : Ctr l (KK g) yJ6_numberOfTrailingZeros_0f7a4 wsJ6_numberOfTrailingZeros_0f7a4 { frames := 0, cells := 0, slots := 0, locals := 0 } [.int (nI (2 ^ t * (2 * w + 1)))] H0 eI (fun r H => r = nI t ∧ H = H0) (fun _ => False) := by
  refine xr_enter (cc := cJ6_numberOfTrailingZeros_0f7a4) (maxL := 2) (ret := (some .int)) (by decide) rfl (Nat.le_of_ble_eq_true rfl) ?_
  intro pgm env s mid below meth cde hx hb hr hml hts hown hlocks hnm hH hK ls hl
  subst hH
  have hl : lv_has ls 2 [(0, .int (nI (2 ^ t * (2 * w + 1))))] := hl
  have hS : va_S (fun _ => False) s.heap s.heap [] := va_S.rf
  have t74 : ∀ u : Nat, 1 ≤ u → u ≤ 2 → u ≤ t → ∀ ls : Array Slot, lv_has ls 2 [(0, .int (nI (2 ^ u - 1))), (1, .int (nI (1 + t - u)))] → W pgm l env { frames := 0, cells := 0, slots := 0, locals := 0 } s mid ([.int (nI (2 ^ t * (2 * w + 1)))] : List Value).toArray below meth cde s.heap [] 0 0 (MQ below (xr_Post eI (fun r H => r = nI t ∧ H = s.heap) (fun _ => False)) ([.int (nI (2 ^ t * (2 * w + 1)))] : List Value).toArray s ({ frames := 0, cells := 0, slots := 0, locals := 0 } : Room).cells ({ frames := 0, cells := 0, slots := 0, locals := 0 } : Room).slots (fun _ => False)) (F0 mid 74 ls []) := by
    intro u h1 h2 h3 ls hl
    have hu : 2 ^ u ≤ 2 ^ 2 := Nat.pow_le_pow_right (by decide) h2
    have hu0 := Nat.two_pow_pos u
    refine lv_iload_n hx hb dJ6_numberOfTrailingZeros_0f7a4_74 rfl (lv_at hl 1 rfl) ?_
    refine lv_iload_n hx hb dJ6_numberOfTrailingZeros_0f7a4_75 rfl (lv_at hl 0 rfl) ?_
    refine lv_iconst (v := 1) hx hb dJ6_numberOfTrailingZeros_0f7a4_76 (by decide) ?_
    refine lv_iushr (v := nI ((2 ^ u - 1) / 2 ^ 1)) hx hb dJ6_numberOfTrailingZeros_0f7a4_77 (pk_ushrN (by omega) 1 1 (by decide)) ?_
    refine lv_iadd hx hb dJ6_numberOfTrailingZeros_0f7a4_78 ?_
    refine xr_ti (x' := nI t) (by rw [nI_add]; congr 1; rcases (show u = 1 ∨ u = 2 by omega) with rfl | rfl <;> omega) ?_
    exact xr_iret hx hb hr hlocks hS ⟨rfl, rfl⟩ dJ6_numberOfTrailingZeros_0f7a4_79
  have t62 : ∀ u : Nat, 1 ≤ u → u ≤ 4 → u ≤ t → ∀ ls : Array Slot, lv_has ls 2 [(0, .int (nI (2 ^ u - 1))), (1, .int (nI (1 + t - u)))] → W pgm l env { frames := 0, cells := 0, slots := 0, locals := 0 } s mid ([.int (nI (2 ^ t * (2 * w + 1)))] : List Value).toArray below meth cde s.heap [] 0 0 (MQ below (xr_Post eI (fun r H => r = nI t ∧ H = s.heap) (fun _ => False)) ([.int (nI (2 ^ t * (2 * w + 1)))] : List Value).toArray s ({ frames := 0, cells := 0, slots := 0, locals := 0 } : Room).cells ({ frames := 0, cells := 0, slots := 0, locals := 0 } : Room).slots (fun _ => False)) (F0 mid 62 ls []) := by
    intro u h1 h2 h3 ls hl
    have hu : 2 ^ u ≤ 2 ^ 4 := Nat.pow_le_pow_right (by decide) h2
    have hu0 := Nat.two_pow_pos u
    refine lv_iload_n hx hb dJ6_numberOfTrailingZeros_0f7a4_62 rfl (lv_at hl 0 rfl) ?_
    refine lv_iconst (v := 4) hx hb dJ6_numberOfTrailingZeros_0f7a4_63 (by decide) ?_
    refine xr_ti (x' := nI 4) rfl ?_
    refine lv_icmp_le (tgt := 74) hx hb dJ6_numberOfTrailingZeros_0f7a4_64 (by decide) (fun hc => ?_) (fun hc => ?_)
    · have h9 : u ≤ 2 := Nat.le_of_not_lt fun q => by have h8 : 2 ^ 3 ≤ 2 ^ u := Nat.pow_le_pow_right (by decide) q; have h7 := (nI_leI (a := 2 ^ u - 1) (b := 4) (by omega) (by decide)).mp hc; omega
      exact t74 u h1 h9 h3 ls (lv_sub hl [0, 1] rfl)
    · have h9 : 3 ≤ u := Nat.le_of_not_lt fun q => hc (nI_le (show 2 ^ u - 1 ≤ 4 by have h8 : 2 ^ u ≤ 2 ^ 2 := Nat.pow_le_pow_right (by decide) (by omega); omega) (by decide))
      refine lv_iinc (v := nI (1 + t - (u - 2))) (lv' := [(1, .int (nI (1 + t - (u - 2)))), (0, .int (nI (2 ^ u - 1)))]) hx hb dJ6_numberOfTrailingZeros_0f7a4_67 hl (k := 1) rfl (by show nI (1 + t - u) + nI 2 = _; rw [nI_add, show 1 + t - u + 2 = 1 + t - (u - 2) by omega]) (by decide) rfl (fun ls hl => ?_)
      refine lv_iload_n hx hb dJ6_numberOfTrailingZeros_0f7a4_70 rfl (lv_at hl 1 rfl) ?_
      refine lv_iconst (v := 2) hx hb dJ6_numberOfTrailingZeros_0f7a4_71 (by decide) ?_
      refine lv_iushr (v := nI ((2 ^ u - 1) / 2 ^ 2)) hx hb dJ6_numberOfTrailingZeros_0f7a4_72 (pk_ushrN (by omega) 2 2 (by decide)) ?_
      refine xr_ti (x' := nI (2 ^ (u - 2) - 1)) (by rw [p2_div (by omega)]) ?_
      refine lv_istore_n (lv' := [(0, .int (nI (2 ^ (u - 2) - 1))), (1, .int (nI (1 + t - (u - 2))))]) hx hb dJ6_numberOfTrailingZeros_0f7a4_73 rfl hl (by decide) rfl (fun ls hl => ?_)
      exact t74 (u - 2) (by omega) (by omega) (by omega) ls (lv_sub hl [0, 1] rfl)
  have t49 : ∀ u : Nat, 1 ≤ u → u ≤ 8 → u ≤ t → ∀ ls : Array Slot, lv_has ls 2 [(0, .int (nI (2 ^ u - 1))), (1, .int (nI (1 + t - u)))] → W pgm l env { frames := 0, cells := 0, slots := 0, locals := 0 } s mid ([.int (nI (2 ^ t * (2 * w + 1)))] : List Value).toArray below meth cde s.heap [] 0 0 (MQ below (xr_Post eI (fun r H => r = nI t ∧ H = s.heap) (fun _ => False)) ([.int (nI (2 ^ t * (2 * w + 1)))] : List Value).toArray s ({ frames := 0, cells := 0, slots := 0, locals := 0 } : Room).cells ({ frames := 0, cells := 0, slots := 0, locals := 0 } : Room).slots (fun _ => False)) (F0 mid 49 ls []) := by
    intro u h1 h2 h3 ls hl
    have hu : 2 ^ u ≤ 2 ^ 8 := Nat.pow_le_pow_right (by decide) h2
    have hu0 := Nat.two_pow_pos u
    refine lv_iload_n hx hb dJ6_numberOfTrailingZeros_0f7a4_49 rfl (lv_at hl 0 rfl) ?_
    refine lv_bipush (v := 16) hx hb dJ6_numberOfTrailingZeros_0f7a4_50 (by decide) ?_
    refine xr_ti (x' := nI 16) rfl ?_
    refine lv_icmp_le (tgt := 62) hx hb dJ6_numberOfTrailingZeros_0f7a4_52 (by decide) (fun hc => ?_) (fun hc => ?_)
    · have h9 : u ≤ 4 := Nat.le_of_not_lt fun q => by have h8 : 2 ^ 5 ≤ 2 ^ u := Nat.pow_le_pow_right (by decide) q; have h7 := (nI_leI (a := 2 ^ u - 1) (b := 16) (by omega) (by decide)).mp hc; omega
      exact t62 u h1 h9 h3 ls (lv_sub hl [0, 1] rfl)
    · have h9 : 5 ≤ u := Nat.le_of_not_lt fun q => hc (nI_le (show 2 ^ u - 1 ≤ 16 by have h8 : 2 ^ u ≤ 2 ^ 4 := Nat.pow_le_pow_right (by decide) (by omega); omega) (by decide))
      refine lv_iinc (v := nI (1 + t - (u - 4))) (lv' := [(1, .int (nI (1 + t - (u - 4)))), (0, .int (nI (2 ^ u - 1)))]) hx hb dJ6_numberOfTrailingZeros_0f7a4_55 hl (k := 1) rfl (by show nI (1 + t - u) + nI 4 = _; rw [nI_add, show 1 + t - u + 4 = 1 + t - (u - 4) by omega]) (by decide) rfl (fun ls hl => ?_)
      refine lv_iload_n hx hb dJ6_numberOfTrailingZeros_0f7a4_58 rfl (lv_at hl 1 rfl) ?_
      refine lv_iconst (v := 4) hx hb dJ6_numberOfTrailingZeros_0f7a4_59 (by decide) ?_
      refine lv_iushr (v := nI ((2 ^ u - 1) / 2 ^ 4)) hx hb dJ6_numberOfTrailingZeros_0f7a4_60 (pk_ushrN (by omega) 4 4 (by decide)) ?_
      refine xr_ti (x' := nI (2 ^ (u - 4) - 1)) (by rw [p2_div (by omega)]) ?_
      refine lv_istore_n (lv' := [(0, .int (nI (2 ^ (u - 4) - 1))), (1, .int (nI (1 + t - (u - 4))))]) hx hb dJ6_numberOfTrailingZeros_0f7a4_61 rfl hl (by decide) rfl (fun ls hl => ?_)
      exact t62 (u - 4) (by omega) (by omega) (by omega) ls (lv_sub hl [0, 1] rfl)
  have t34 : ∀ u : Nat, 1 ≤ u → u ≤ 16 → u ≤ t → ∀ ls : Array Slot, lv_has ls 2 [(0, .int (nI (2 ^ u - 1))), (1, .int (nI (1 + t - u)))] → W pgm l env { frames := 0, cells := 0, slots := 0, locals := 0 } s mid ([.int (nI (2 ^ t * (2 * w + 1)))] : List Value).toArray below meth cde s.heap [] 0 0 (MQ below (xr_Post eI (fun r H => r = nI t ∧ H = s.heap) (fun _ => False)) ([.int (nI (2 ^ t * (2 * w + 1)))] : List Value).toArray s ({ frames := 0, cells := 0, slots := 0, locals := 0 } : Room).cells ({ frames := 0, cells := 0, slots := 0, locals := 0 } : Room).slots (fun _ => False)) (F0 mid 34 ls []) := by
    intro u h1 h2 h3 ls hl
    have hu : 2 ^ u ≤ 2 ^ 16 := Nat.pow_le_pow_right (by decide) h2
    have hu0 := Nat.two_pow_pos u
    refine lv_iload_n hx hb dJ6_numberOfTrailingZeros_0f7a4_34 rfl (lv_at hl 0 rfl) ?_
    refine lv_sipush (v := 256) hx hb dJ6_numberOfTrailingZeros_0f7a4_35 (by decide) ?_
    refine xr_ti (x' := nI 256) rfl ?_
    refine lv_icmp_le (tgt := 49) hx hb dJ6_numberOfTrailingZeros_0f7a4_38 (by decide) (fun hc => ?_) (fun hc => ?_)
    · have h9 : u ≤ 8 := Nat.le_of_not_lt fun q => by have h8 : 2 ^ 9 ≤ 2 ^ u := Nat.pow_le_pow_right (by decide) q; have h7 := (nI_leI (a := 2 ^ u - 1) (b := 256) (by omega) (by decide)).mp hc; omega
      exact t49 u h1 h9 h3 ls (lv_sub hl [0, 1] rfl)
    · have h9 : 9 ≤ u := Nat.le_of_not_lt fun q => hc (nI_le (show 2 ^ u - 1 ≤ 256 by have h8 : 2 ^ u ≤ 2 ^ 8 := Nat.pow_le_pow_right (by decide) (by omega); omega) (by decide))
      refine lv_iinc (v := nI (1 + t - (u - 8))) (lv' := [(1, .int (nI (1 + t - (u - 8)))), (0, .int (nI (2 ^ u - 1)))]) hx hb dJ6_numberOfTrailingZeros_0f7a4_41 hl (k := 1) rfl (by show nI (1 + t - u) + nI 8 = _; rw [nI_add, show 1 + t - u + 8 = 1 + t - (u - 8) by omega]) (by decide) rfl (fun ls hl => ?_)
      refine lv_iload_n hx hb dJ6_numberOfTrailingZeros_0f7a4_44 rfl (lv_at hl 1 rfl) ?_
      refine lv_bipush (v := 8) hx hb dJ6_numberOfTrailingZeros_0f7a4_45 (by decide) ?_
      refine lv_iushr (v := nI ((2 ^ u - 1) / 2 ^ 8)) hx hb dJ6_numberOfTrailingZeros_0f7a4_47 (pk_ushrN (by omega) 8 8 (by decide)) ?_
      refine xr_ti (x' := nI (2 ^ (u - 8) - 1)) (by rw [p2_div (by omega)]) ?_
      refine lv_istore_n (lv' := [(0, .int (nI (2 ^ (u - 8) - 1))), (1, .int (nI (1 + t - (u - 8))))]) hx hb dJ6_numberOfTrailingZeros_0f7a4_48 rfl hl (by decide) rfl (fun ls hl => ?_)
      exact t49 (u - 8) (by omega) (by omega) (by omega) ls (lv_sub hl [0, 1] rfl)
  have ht16 : 2 ^ t ≤ 2 ^ 15 := Nat.pow_le_pow_right (by decide) (by omega)
  have ht0 := Nat.two_pow_pos t
  have hz0 : 0 < 2 ^ t * (2 * w + 1) := Nat.mul_pos ht0 (by omega)
  refine lv_iload_n hx hb dJ6_numberOfTrailingZeros_0f7a4_0 rfl (lv_at hl 0 rfl) ?_
  refine lv_iconst (v := (-1)) hx hb dJ6_numberOfTrailingZeros_0f7a4_1 (by decide) ?_
  refine lv_ixor hx hb dJ6_numberOfTrailingZeros_0f7a4_2 ?_
  refine lv_iload_n hx hb dJ6_numberOfTrailingZeros_0f7a4_3 rfl (lv_at hl 0 rfl) ?_
  refine lv_iconst (v := 1) hx hb dJ6_numberOfTrailingZeros_0f7a4_4 (by decide) ?_
  refine lv_isub hx hb dJ6_numberOfTrailingZeros_0f7a4_5 ?_
  refine xr_ti (x' := nI (2 ^ t * (2 * w + 1) - 1)) (by obtain ⟨k, hk⟩ : ∃ k, 2 ^ t * (2 * w + 1) = k + 1 := ⟨2 ^ t * (2 * w + 1) - 1, by omega⟩; rw [hk]; exact nI_pred k) ?_
  refine lv_iand hx hb dJ6_numberOfTrailingZeros_0f7a4_6 ?_
  refine xr_ti (x' := nI (2 ^ t - 1)) tz_low ?_
  refine lv_istore_n (lv' := [(0, .int (nI (2 ^ t - 1)))]) hx hb dJ6_numberOfTrailingZeros_0f7a4_7 rfl hl (by decide) rfl (fun ls hl => ?_)
  refine lv_iload_n hx hb dJ6_numberOfTrailingZeros_0f7a4_8 rfl (lv_at hl 0 rfl) ?_
  refine lv_if_gt (tgt := 17) hx hb dJ6_numberOfTrailingZeros_0f7a4_9 (by decide) (fun hc => ?_) (fun hc => ?_)
  · have h1 : 1 ≤ t := Nat.pos_of_ne_zero fun q => by subst q; exact absurd hc (by decide)
    refine lv_iconst (v := 1) hx hb dJ6_numberOfTrailingZeros_0f7a4_17 (by decide) ?_
    refine xr_ti (x' := nI (1 + t - t)) (by rw [Nat.add_sub_cancel]; rfl) ?_
    refine lv_istore_n (lv' := [(1, .int (nI (1 + t - t))), (0, .int (nI (2 ^ t - 1)))]) hx hb dJ6_numberOfTrailingZeros_0f7a4_18 rfl hl (by decide) rfl (fun ls hl => ?_)
    refine lv_iload_n hx hb dJ6_numberOfTrailingZeros_0f7a4_19 rfl (lv_at hl 1 rfl) ?_
    refine lv_ldcw (v := (65536)) hx hb hown (hts (.constant RJ6 264 (65536)) (by decide +kernel)) dJ6_numberOfTrailingZeros_0f7a4_20 ?_
    refine xr_ti (x' := nI 65536) rfl ?_
    refine lv_icmp_le (tgt := 34) hx hb dJ6_numberOfTrailingZeros_0f7a4_23 (by decide) (fun hd => ?_) (fun hd => ?_)
    · clear hd
      exact t34 t h1 (by omega) (Nat.le_refl t) ls (lv_sub hl [1, 0] rfl)
    · exact absurd (nI_le (show 2 ^ t - 1 ≤ 65536 by omega) (by decide)) hd
  · have h1 : t = 0 := Nat.eq_zero_of_not_pos fun q => hc (nI_lt (show 0 < 2 ^ t - 1 by have : 2 ^ 1 ≤ 2 ^ t := Nat.pow_le_pow_right (by decide) q; omega) (by omega))
    subst h1
    refine lv_iload_n hx hb dJ6_numberOfTrailingZeros_0f7a4_12 rfl (lv_at hl 0 rfl) ?_
    refine lv_bipush (v := 32) hx hb dJ6_numberOfTrailingZeros_0f7a4_13 (by decide) ?_
    refine lv_iand hx hb dJ6_numberOfTrailingZeros_0f7a4_15 ?_
    exact xr_iret hx hb hr hlocks hS ⟨by decide, rfl⟩ dJ6_numberOfTrailingZeros_0f7a4_16
set_option maxHeartbeats 400000 in
set_option maxRecDepth 100000 in
theorem c_X6_nextOfSameSize (l : Launch) (g : WG) (H0 : Heap) (x : Nat) (hx0 : 0 < x) (hx16 : x < 2 ^ 16) : Ctr l (KK g) yX6_nextOfSameSize wsX6_nextOfSameSize { frames := 1, cells := 0, slots := 0, locals := 21 } [.int (nI x)] H0 eI (fun r H => r = nI (nxS x) ∧ H = H0) (fun _ => False) := by
  refine xr_enter (cc := cX6_nextOfSameSize) (maxL := 3) (ret := (some .int)) (by decide) rfl (Nat.le_of_ble_eq_true rfl) ?_
  intro pgm env s mid below meth cde hx hb hr hml hts hown hlocks hnm hH hK ls hl
  subst hH
  have hl : lv_has ls 3 [(0, .int (nI x))] := hl
  have hS : va_S (fun _ => False) s.heap s.heap [] := va_S.rf
  obtain ⟨t, w, hw⟩ := tz_ex x hx0
  have ht : t < 16 := Nat.lt_of_not_le fun q => by have h1 : 2 ^ 16 ≤ 2 ^ t := Nat.pow_le_pow_right (by decide) q; have h2 : 2 ^ t * 1 ≤ 2 ^ t * (2 * w + 1) := Nat.mul_le_mul_left _ (by omega); omega
  have hn : ntz 16 x = t := by rw [hw]; exact ntz_is 16 t w (by omega)
  have ht16 : 2 ^ t ≤ 2 ^ 15 := Nat.pow_le_pow_right (by decide) (by omega)
  have hxr : x ^^^ (x + 2 ^ t) < 2 ^ 32 := Nat.xor_lt_two_pow (by omega) (by omega)
  refine lv_iload_n hx hb dX6_nextOfSameSize_0 rfl (lv_at hl 0 rfl) ?_
  refine lv_iload_n hx hb dX6_nextOfSameSize_1 rfl (lv_at hl 0 rfl) ?_
  refine lv_iload_n hx hb dX6_nextOfSameSize_2 rfl (lv_at hl 0 rfl) ?_
  refine lv_ineg hx hb dX6_nextOfSameSize_3 ?_
  refine lv_iand hx hb dX6_nextOfSameSize_4 ?_
  refine xr_ti (x' := nI (2 ^ t)) (by rw [hw]; exact tz_iso) ?_
  refine lv_iadd hx hb dX6_nextOfSameSize_5 ?_
  refine xr_ti (x' := nI (x + 2 ^ t)) (nI_add _ _) ?_
  refine lv_istore_n (lv' := [(1, .int (nI (x + 2 ^ t))), (0, .int (nI x))]) hx hb dX6_nextOfSameSize_6 rfl hl (by decide) rfl (fun ls hl => ?_)
  refine lv_iload_n hx hb dX6_nextOfSameSize_7 rfl (lv_at hl 1 rfl) ?_
  refine lv_iload_n hx hb dX6_nextOfSameSize_8 rfl (lv_at hl 0 rfl) ?_
  refine lv_ixor hx hb dX6_nextOfSameSize_9 ?_
  refine xr_ti (x' := nI (x ^^^ (x + 2 ^ t))) nI_xor ?_
  refine lv_iconst (v := 2) hx hb dX6_nextOfSameSize_10 (by decide) ?_
  refine xr_ti (x' := nI 2) rfl ?_
  refine lv_iload_n hx hb dX6_nextOfSameSize_11 rfl (lv_at hl 1 rfl) ?_
  have hxw : nI x = nI (2 ^ t * (2 * w + 1)) := by rw [← hw]
  refine xr_ti (x' := nI (2 ^ t * (2 * w + 1))) hxw ?_
  refine xr_Si (rest := [.int (nI 2), .int (nI (x ^^^ (x + 2 ^ t)))]) ⟨hx, hb, hml, hown, hts⟩ (KK_ok g) hK (c_J6_numberOfTrailingZeros_0f7a4 l g s.heap t w ht (by omega)) (va_cwS 1 hts gX6_nextOfSameSize_J6_numberOfTrailingZeros_0f7a4 rfl rfl rfl (by decide +kernel) ⟨Nat.le_of_ble_eq_true rfl, Nat.le_of_ble_eq_true rfl⟩) rfl hl.1 rfl (Nat.le_of_ble_eq_true rfl) dX6_nextOfSameSize_12 ⟨Nat.le_of_ble_eq_true rfl, Nat.le_of_ble_eq_true rfl⟩ hS (fun q h => h.elim) (fun r H locs hq hz hkp hS932 => ?_)
  obtain ⟨rfl, rfl⟩ := hq
  have hS := hS932
  refine lv_iadd hx hb dX6_nextOfSameSize_15 ?_
  refine xr_ti (x' := nI (2 + t)) (nI_add _ _) ?_
  refine lv_iushr (v := nI ((x ^^^ (x + 2 ^ t)) / 2 ^ (2 + t))) hx hb dX6_nextOfSameSize_16 (pk_ushrN hxr _ _ (tz_sh _ (by omega))) ?_
  refine lv_istore_n (lv' := [(2, .int (nI ((x ^^^ (x + 2 ^ t)) / 2 ^ (2 + t)))), (1, .int (nI (x + 2 ^ t))), (0, .int (nI x))]) hx hb dX6_nextOfSameSize_17 rfl hl (by decide) rfl (fun ls hl => ?_)
  refine lv_iload_n hx hb dX6_nextOfSameSize_18 rfl (lv_at hl 1 rfl) ?_
  refine lv_iload_n hx hb dX6_nextOfSameSize_19 rfl (lv_at hl 0 rfl) ?_
  refine lv_ior hx hb dX6_nextOfSameSize_20 ?_
  refine xr_ti (x' := nI (nxS x)) (by rw [nI_or]; unfold nxS; rw [hn]) ?_
  exact xr_iret hx hb hr hlocks hS ⟨rfl, rfl⟩ dX6_nextOfSameSize_21
set_option maxHeartbeats 2000000 in
set_option maxRecDepth 100000 in
theorem c_X6_init (l : Launch) (g : WG) (H0 : Heap) (a : Nat) (hO : obj g H0 a 6 [.null, .null, .null, .null, .null, .null, .null]) (hsz : H0.size = a + 1) (hPr : PrimesAt g H0) (hp1 : g.2.2.1.1 < a) (hp2 : g.2.2.2.2.1 < a) : Ctr l (KK g) yX6_init wsX6_init { frames := 4, cells := 578, slots := 3491, locals := 76 } [.ref a] H0 eV (fun _ H => DeskAt g H a (fun _ => 0) 0 (fun _ => 0) 1 (fun _ => 0) 0 (fun _ => 0) 1 0 ((0, 0, 0, 0, 0, fun _ => 0, fun _ => 0, fun _ => 0, fun _ => 0, fun _ => 0, fun _ => 0, fun _ => 0) : PSt) (-1) [] ∧ H.size = a + 579) (fun q => q = a ∨ a + 1 ≤ q) := by
  refine xr_enter (cc := cX6_init) (maxL := 1) (ret := none) (by decide) rfl (Nat.le_of_ble_eq_true rfl) ?_
  intro pgm env s mid below meth cde hx hb hr hml hts hown hlocks hnm hH hK ls hl
  subst hH
  have hl : lv_has ls 1 [(0, .ref a)] := hl
  have hS : va_S (fun q => q = a ∨ a + 1 ≤ q) s.heap s.heap [] := va_S.rf
  refine lv_aload_n hx hb dX6_init_0 rfl (lv_at hl 0 rfl) ?_
  refine W.objInit hx hb hown (hts (.methodLink RX6 1 objectInit) (by decide +kernel)) (hts (.instanceMethod objectInit) (by decide +kernel)) (hts _ (List.mem_cons_of_mem _ (List.mem_append_left _ (List.mem_append_left _ (List.mem_append_left _ (List.mem_append_left _ (List.mem_append_left _ (List.mem_append_left _ (List.mem_append_left _ (List.mem_append_left _ (List.mem_of_getElem? (i := 2) rfl))))))))))) rfl (by rw [hml]; exact hl.1) rfl dX6_init_1 (Nat.le_of_ble_eq_true rfl) (Nat.le_of_ble_eq_true rfl) ?_
  refine W.eq (g2 := F0 mid 4 ls []) rfl ?_
  refine lv_aload_n hx hb dX6_init_4 rfl (lv_at hl 0 rfl) ?_
  refine xr_new (ci := 5) (fs := [.null, .long 0, .null, .int 0]) (C := RX5) (T := TX5) (N := 4) hx hb hts (by decide +kernel) tyX5 tyX5_ok hown (hts (.classLink RX6 7 RX5) (by decide +kernel)) (hts (.instantiable RX5 4) (by decide +kernel)) (hts (.initialized RX5) (by decide +kernel)) hK.1 hS rfl (fun j hj => by rcases (show j = 0 ∨ j = 1 ∨ j = 2 ∨ j = 3 by omega) with rfl | rfl | rfl | rfl <;> rfl) (Nat.le_of_ble_eq_true rfl) (Nat.le_of_ble_eq_true rfl) dX6_init_5 (fun H hz hkp hQ hS => ?_)
  refine W.widen (k := 1) (n := 4) (Nat.le_of_ble_eq_true rfl) (Nat.le_of_ble_eq_true rfl) ?_
  rw [hsz] at hQ hz hkp ⊢
  replace hO := hO.kept (hkp _ (by omega))
  replace hPr := hPr.kept (hkp _ (by omega)) (hkp _ (by omega))
  replace hsz := hz
  refine lv_dup hx hb dX6_init_8 rfl ?_
  refine xr_INv (rest := [.ref (a + 1), .ref a]) ⟨hx, hb, hml, hown, hts⟩ (KK_ok g) hK (c_X5_init l g H (a + 1) hQ hsz) ⟨va_cnB 0 hts gX6_init_X5_init_n9 rfl rfl rfl (hK.2.2.1 (RX6, 9, yX5_init) (by decide +kernel)) (hts (.initialized RX5) (by decide +kernel)) (by decide +kernel) ⟨Nat.le_of_ble_eq_true rfl, Nat.le_of_ble_eq_true rfl⟩, rfl, (hts (.instanceMethod yX5_init) (by decide +kernel))⟩ rfl hl.1 rfl (Nat.le_of_ble_eq_true rfl) dX6_init_9 ⟨Nat.le_of_ble_eq_true rfl, Nat.le_of_ble_eq_true rfl⟩ hS (fun q h => by have h : q = a + 1 ∨ a + 1 + 1 ≤ q := h; show q = a ∨ a + 1 ≤ q; omega) (fun _ H locs hq hz hkp hS => ?_)
  refine W.widen (k := 3) (n := 68) (Nat.le_of_ble_eq_true rfl) (Nat.le_of_ble_eq_true rfl) ?_
  replace hkp := fun (q : Nat) h1 (h2 : ¬ (q = a + 1 ∨ a + 1 + 1 ≤ q)) => hkp q h1 h2
  clear hz
  replace hO := hO.kept (hkp _ hO.lt (by omega))
  replace hPr := hPr.kept (hkp _ hPr.l1 (by omega)) (hkp _ hPr.l2 (by omega))
  obtain ⟨hT0, hsz⟩ := hq
  refine xr_putF (ci := 6) (v := .ref (a + 1)) (ty := .object "SharesDesk$Town") (C := RX6) (T := TX6) (N := 7) hx hb hts (by decide +kernel) tyX6 tyX6_ok nmX6 hown hK.1 hO hS (Or.inl rfl) rfl 0 (by decide) (hts (.fieldLink RX6 10 "SharesDesk" "town" "LSharesDesk$Town;") (by decide +kernel)) rfl hnm rfl (by decide +kernel) rfl rfl (Nat.le_of_ble_eq_true rfl) dX6_init_12 (fun H locs hz hkp hO hS => ?_)
  replace hPr := hPr.kept (hkp _ (by omega)) (hkp _ (by omega))
  replace hT0 := hT0.kept (fun q hq1 hq2 hq3 => hkp q (by omega))
  replace hsz := hz.trans hsz
  clear hz
  refine lv_aload_n hx hb dX6_init_15 rfl (lv_at hl 0 rfl) ?_
  refine xr_new (ci := 5) (fs := [.null, .long 0, .null, .int 0]) (C := RX5) (T := TX5) (N := 4) hx hb hts (by decide +kernel) tyX5 tyX5_ok hown (hts (.classLink RX6 7 RX5) (by decide +kernel)) (hts (.instantiable RX5 4) (by decide +kernel)) (hts (.initialized RX5) (by decide +kernel)) hK.1 hS rfl (fun j hj => by rcases (show j = 0 ∨ j = 1 ∨ j = 2 ∨ j = 3 by omega) with rfl | rfl | rfl | rfl <;> rfl) (Nat.le_of_ble_eq_true rfl) (Nat.le_of_ble_eq_true rfl) dX6_init_16 (fun H hz hkp hQ hS => ?_)
  refine W.widen (k := 4) (n := 72) (Nat.le_of_ble_eq_true rfl) (Nat.le_of_ble_eq_true rfl) ?_
  rw [hsz] at hQ hz hkp ⊢
  replace hPr := hPr.kept (hkp _ (by omega)) (hkp _ (by omega))
  replace hT0 := hT0.kept (fun q hq1 hq2 hq3 => hkp q (by omega))
  replace hO := hO.kept (hkp _ (by omega))
  replace hsz := hz
  refine lv_dup hx hb dX6_init_19 rfl ?_
  refine xr_INv (rest := [.ref (a + 4), .ref a]) ⟨hx, hb, hml, hown, hts⟩ (KK_ok g) hK (c_X5_init l g H (a + 4) hQ hsz) ⟨va_cnB 0 hts gX6_init_X5_init_n9 rfl rfl rfl (hK.2.2.1 (RX6, 9, yX5_init) (by decide +kernel)) (hts (.initialized RX5) (by decide +kernel)) (by decide +kernel) ⟨Nat.le_of_ble_eq_true rfl, Nat.le_of_ble_eq_true rfl⟩, rfl, (hts (.instanceMethod yX5_init) (by decide +kernel))⟩ rfl hl.1 rfl (Nat.le_of_ble_eq_true rfl) dX6_init_20 ⟨Nat.le_of_ble_eq_true rfl, Nat.le_of_ble_eq_true rfl⟩ hS (fun q h => by have h : q = a + 4 ∨ a + 4 + 1 ≤ q := h; show q = a ∨ a + 1 ≤ q; omega) (fun _ H locs hq hz hkp hS => ?_)
  refine W.widen (k := 6) (n := 136) (Nat.le_of_ble_eq_true rfl) (Nat.le_of_ble_eq_true rfl) ?_
  replace hkp := fun (q : Nat) h1 (h2 : ¬ (q = a + 4 ∨ a + 4 + 1 ≤ q)) => hkp q h1 h2
  clear hz
  replace hPr := hPr.kept (hkp _ hPr.l1 (by omega)) (hkp _ hPr.l2 (by omega))
  replace hT0 := hT0.kept (fun q hq1 hq2 hq3 => hkp q hq1 (by omega))
  replace hO := hO.kept (hkp _ hO.lt (by omega))
  obtain ⟨hT, hsz⟩ := hq
  refine xr_putF (ci := 6) (v := .ref (a + 4)) (ty := .object "SharesDesk$Town") (C := RX6) (T := TX6) (N := 7) hx hb hts (by decide +kernel) tyX6 tyX6_ok nmX6 hown hK.1 hO hS (Or.inl rfl) rfl 1 (by decide) (hts (.fieldLink RX6 16 "SharesDesk" "past" "LSharesDesk$Town;") (by decide +kernel)) rfl hnm rfl (by decide +kernel) rfl rfl (Nat.le_of_ble_eq_true rfl) dX6_init_23 (fun H locs hz hkp hO hS => ?_)
  replace hPr := hPr.kept (hkp _ (by omega)) (hkp _ (by omega))
  replace hT0 := hT0.kept (fun q hq1 hq2 hq3 => hkp q (by omega))
  replace hT := hT.kept (fun q hq1 hq2 hq3 => hkp q (by omega))
  replace hsz := hz.trans hsz
  clear hz
  refine lv_aload_n hx hb dX6_init_26 rfl (lv_at hl 0 rfl) ?_
  refine xr_new (ci := 2) (fs := [.null, .null]) (C := RX2) (T := TX2) (N := 2) hx hb hts (by decide +kernel) tyX2 tyX2_ok hown (hts (.classLink RX6 19 RX2) (by decide +kernel)) (hts (.instantiable RX2 2) (by decide +kernel)) (hts (.initialized RX2) (by decide +kernel)) hK.1 hS rfl (fun j hj => by rcases (show j = 0 ∨ j = 1 by omega) with rfl | rfl <;> rfl) (Nat.le_of_ble_eq_true rfl) (Nat.le_of_ble_eq_true rfl) dX6_init_27 (fun H hz hkp hQ hS => ?_)
  refine W.widen (k := 7) (n := 138) (Nat.le_of_ble_eq_true rfl) (Nat.le_of_ble_eq_true rfl) ?_
  rw [hsz] at hQ hz hkp ⊢
  replace hPr := hPr.kept (hkp _ (by omega)) (hkp _ (by omega))
  replace hT0 := hT0.kept (fun q hq1 hq2 hq3 => hkp q (by omega))
  replace hT := hT.kept (fun q hq1 hq2 hq3 => hkp q (by omega))
  replace hO := hO.kept (hkp _ (by omega))
  replace hsz := hz
  refine lv_dup hx hb dX6_init_30 rfl ?_
  refine xr_INv (rest := [.ref (a + 7), .ref a]) ⟨hx, hb, hml, hown, hts⟩ (KK_ok g) hK (c_X2_init l g H (a + 7) hQ hsz) ⟨va_cnB 0 hts gX6_init_X2_init_n21 rfl rfl rfl (hK.2.2.1 (RX6, 21, yX2_init) (by decide +kernel)) (hts (.initialized RX2) (by decide +kernel)) (by decide +kernel) ⟨Nat.le_of_ble_eq_true rfl, Nat.le_of_ble_eq_true rfl⟩, rfl, (hts (.instanceMethod yX2_init) (by decide +kernel))⟩ rfl hl.1 rfl (Nat.le_of_ble_eq_true rfl) dX6_init_31 ⟨Nat.le_of_ble_eq_true rfl, Nat.le_of_ble_eq_true rfl⟩ hS (fun q h => by have h : q = a + 7 ∨ a + 7 + 1 ≤ q := h; show q = a ∨ a + 1 ≤ q; omega) (fun _ H locs hq hz hkp hS => ?_)
  refine W.widen (k := 11) (n := 148) (Nat.le_of_ble_eq_true rfl) (Nat.le_of_ble_eq_true rfl) ?_
  replace hkp := fun (q : Nat) h1 (h2 : ¬ (q = a + 7 ∨ a + 7 + 1 ≤ q)) => hkp q h1 h2
  clear hz
  replace hPr := hPr.kept (hkp _ hPr.l1 (by omega)) (hkp _ hPr.l2 (by omega))
  replace hT0 := hT0.kept (fun q hq1 hq2 hq3 => hkp q hq1 (by omega))
  replace hT := hT.kept (fun q hq1 hq2 hq3 => hkp q hq1 (by omega))
  replace hO := hO.kept (hkp _ hO.lt (by omega))
  obtain ⟨hRt, hsz⟩ := hq
  refine xr_putF (ci := 6) (v := .ref (a + 7)) (ty := .object "SharesDesk$Ratio") (C := RX6) (T := TX6) (N := 7) hx hb hts (by decide +kernel) tyX6 tyX6_ok nmX6 hown hK.1 hO hS (Or.inl rfl) rfl 2 (by decide) (hts (.fieldLink RX6 22 "SharesDesk" "ratio" "LSharesDesk$Ratio;") (by decide +kernel)) rfl hnm rfl (by decide +kernel) rfl rfl (Nat.le_of_ble_eq_true rfl) dX6_init_34 (fun H locs hz hkp hO hS => ?_)
  replace hPr := hPr.kept (hkp _ (by omega)) (hkp _ (by omega))
  replace hT0 := hT0.kept (fun q hq1 hq2 hq3 => hkp q (by omega))
  replace hT := hT.kept (fun q hq1 hq2 hq3 => hkp q (by omega))
  replace hRt := hRt.kept (fun q hq1 hq2 hq3 => hkp q (by omega))
  replace hsz := hz.trans hsz
  clear hz
  refine lv_aload_n hx hb dX6_init_37 rfl (lv_at hl 0 rfl) ?_
  refine xr_new (ci := 0) (fs := [.null]) (C := RX0) (T := TX0) (N := 1) hx hb hts (by decide +kernel) tyX0 tyX0_ok hown (hts (.classLink RX6 26 RX0) (by decide +kernel)) (hts (.instantiable RX0 1) (by decide +kernel)) (hts (.initialized RX0) (by decide +kernel)) hK.1 hS rfl (fun j hj => by rcases (show j = 0 by omega) with rfl <;> rfl) (Nat.le_of_ble_eq_true rfl) (Nat.le_of_ble_eq_true rfl) dX6_init_38 (fun H hz hkp hQ hS => ?_)
  refine W.widen (k := 12) (n := 149) (Nat.le_of_ble_eq_true rfl) (Nat.le_of_ble_eq_true rfl) ?_
  rw [hsz] at hQ hz hkp ⊢
  replace hPr := hPr.kept (hkp _ (by omega)) (hkp _ (by omega))
  replace hT0 := hT0.kept (fun q hq1 hq2 hq3 => hkp q (by omega))
  replace hT := hT.kept (fun q hq1 hq2 hq3 => hkp q (by omega))
  replace hRt := hRt.kept (fun q hq1 hq2 hq3 => hkp q (by omega))
  replace hO := hO.kept (hkp _ (by omega))
  replace hsz := hz
  refine lv_dup hx hb dX6_init_41 rfl ?_
  refine xr_INv (rest := [.ref (a + 12), .ref a]) ⟨hx, hb, hml, hown, hts⟩ (KK_ok g) hK (c_X0_init l g H (a + 12) hQ hsz) ⟨va_cnB 0 hts gX6_init_X0_init_n28 rfl rfl rfl (hK.2.2.1 (RX6, 28, yX0_init) (by decide +kernel)) (hts (.initialized RX0) (by decide +kernel)) (by decide +kernel) ⟨Nat.le_of_ble_eq_true rfl, Nat.le_of_ble_eq_true rfl⟩, rfl, (hts (.instanceMethod yX0_init) (by decide +kernel))⟩ rfl hl.1 rfl (Nat.le_of_ble_eq_true rfl) dX6_init_42 ⟨Nat.le_of_ble_eq_true rfl, Nat.le_of_ble_eq_true rfl⟩ hS (fun q h => by have h : q = a + 12 ∨ a + 12 + 1 ≤ q := h; show q = a ∨ a + 1 ≤ q; omega) (fun _ H locs hq hz hkp hS => ?_)
  refine W.widen (k := 13) (n := 153) (Nat.le_of_ble_eq_true rfl) (Nat.le_of_ble_eq_true rfl) ?_
  replace hkp := fun (q : Nat) h1 (h2 : ¬ (q = a + 12 ∨ a + 12 + 1 ≤ q)) => hkp q h1 h2
  clear hz
  replace hPr := hPr.kept (hkp _ hPr.l1 (by omega)) (hkp _ hPr.l2 (by omega))
  replace hT0 := hT0.kept (fun q hq1 hq2 hq3 => hkp q hq1 (by omega))
  replace hT := hT.kept (fun q hq1 hq2 hq3 => hkp q hq1 (by omega))
  replace hRt := hRt.kept (fun q hq1 hq2 hq3 => hkp q hq1 (by omega))
  replace hO := hO.kept (hkp _ hO.lt (by omega))
  obtain ⟨hLk, hsz⟩ := hq
  refine xr_putF (ci := 6) (v := .ref (a + 12)) (ty := .object "SharesDesk$Natural") (C := RX6) (T := TX6) (N := 7) hx hb hts (by decide +kernel) tyX6 tyX6_ok nmX6 hown hK.1 hO hS (Or.inl rfl) rfl 3 (by decide) (hts (.fieldLink RX6 29 "SharesDesk" "lack" "LSharesDesk$Natural;") (by decide +kernel)) rfl hnm rfl (by decide +kernel) rfl rfl (Nat.le_of_ble_eq_true rfl) dX6_init_45 (fun H locs hz hkp hO hS => ?_)
  replace hPr := hPr.kept (hkp _ (by omega)) (hkp _ (by omega))
  replace hT0 := hT0.kept (fun q hq1 hq2 hq3 => hkp q (by omega))
  replace hT := hT.kept (fun q hq1 hq2 hq3 => hkp q (by omega))
  replace hRt := hRt.kept (fun q hq1 hq2 hq3 => hkp q (by omega))
  replace hLk := hLk.kept (hkp _ (by omega)) (hkp _ (by omega))
  replace hsz := hz.trans hsz
  clear hz
  refine lv_aload_n hx hb dX6_init_48 rfl (lv_at hl 0 rfl) ?_
  refine xr_new (ci := 4) (fs := [.int 0, .null, .int 0, .null, .null]) (C := RX4) (T := TX4) (N := 5) hx hb hts (by decide +kernel) tyX4 tyX4_ok hown (hts (.classLink RX6 33 RX4) (by decide +kernel)) (hts (.instantiable RX4 5) (by decide +kernel)) (hts (.initialized RX4) (by decide +kernel)) hK.1 hS rfl (fun j hj => by rcases (show j = 0 ∨ j = 1 ∨ j = 2 ∨ j = 3 ∨ j = 4 by omega) with rfl | rfl | rfl | rfl | rfl <;> rfl) (Nat.le_of_ble_eq_true rfl) (Nat.le_of_ble_eq_true rfl) dX6_init_49 (fun H hz hkp hQ hS => ?_)
  refine W.widen (k := 14) (n := 158) (Nat.le_of_ble_eq_true rfl) (Nat.le_of_ble_eq_true rfl) ?_
  rw [hsz] at hQ hz hkp ⊢
  replace hPr := hPr.kept (hkp _ (by omega)) (hkp _ (by omega))
  replace hT0 := hT0.kept (fun q hq1 hq2 hq3 => hkp q (by omega))
  replace hT := hT.kept (fun q hq1 hq2 hq3 => hkp q (by omega))
  replace hRt := hRt.kept (fun q hq1 hq2 hq3 => hkp q (by omega))
  replace hLk := hLk.kept (hkp _ (by omega)) (hkp _ (by omega))
  replace hO := hO.kept (hkp _ (by omega))
  replace hsz := hz
  refine lv_dup hx hb dX6_init_52 rfl ?_
  refine xr_INv (rest := [.ref (a + 14), .ref a]) ⟨hx, hb, hml, hown, hts⟩ (KK_ok g) hK (c_X4_init l g H (a + 14) hQ hsz) ⟨va_cnB 0 hts gX6_init_X4_init_n35 rfl rfl rfl (hK.2.2.1 (RX6, 35, yX4_init) (by decide +kernel)) (hts (.initialized RX4) (by decide +kernel)) (by decide +kernel) ⟨Nat.le_of_ble_eq_true rfl, Nat.le_of_ble_eq_true rfl⟩, rfl, (hts (.instanceMethod yX4_init) (by decide +kernel))⟩ rfl hl.1 rfl (Nat.le_of_ble_eq_true rfl) dX6_init_53 ⟨Nat.le_of_ble_eq_true rfl, Nat.le_of_ble_eq_true rfl⟩ hS (fun q h => by have h : q = a + 14 ∨ a + 14 + 1 ≤ q := h; show q = a ∨ a + 1 ≤ q; omega) (fun _ H locs hq hz hkp hS => ?_)
  refine W.widen (k := 18) (n := 1613) (Nat.le_of_ble_eq_true rfl) (Nat.le_of_ble_eq_true rfl) ?_
  replace hkp := fun (q : Nat) h1 (h2 : ¬ (q = a + 14 ∨ a + 14 + 1 ≤ q)) => hkp q h1 h2
  clear hz
  replace hPr := hPr.kept (hkp _ hPr.l1 (by omega)) (hkp _ hPr.l2 (by omega))
  replace hT0 := hT0.kept (fun q hq1 hq2 hq3 => hkp q hq1 (by omega))
  replace hT := hT.kept (fun q hq1 hq2 hq3 => hkp q hq1 (by omega))
  replace hRt := hRt.kept (fun q hq1 hq2 hq3 => hkp q hq1 (by omega))
  replace hLk := hLk.kept (hkp _ hLk.1.lt (by omega)) (hkp _ hLk.2.1.lt (by omega))
  replace hO := hO.kept (hkp _ hO.lt (by omega))
  obtain ⟨hSl, hsz⟩ := hq
  refine xr_putF (ci := 6) (v := .ref (a + 14)) (ty := .object "SharesDesk$Slip") (C := RX6) (T := TX6) (N := 7) hx hb hts (by decide +kernel) tyX6 tyX6_ok nmX6 hown hK.1 hO hS (Or.inl rfl) rfl 4 (by decide) (hts (.fieldLink RX6 36 "SharesDesk" "slip" "LSharesDesk$Slip;") (by decide +kernel)) rfl hnm rfl (by decide +kernel) rfl rfl (Nat.le_of_ble_eq_true rfl) dX6_init_56 (fun H locs hz hkp hO hS => ?_)
  replace hPr := hPr.kept (hkp _ (by omega)) (hkp _ (by omega))
  replace hT0 := hT0.kept (fun q hq1 hq2 hq3 => hkp q (by omega))
  replace hT := hT.kept (fun q hq1 hq2 hq3 => hkp q (by omega))
  replace hRt := hRt.kept (fun q hq1 hq2 hq3 => hkp q (by omega))
  replace hLk := hLk.kept (hkp _ (by omega)) (hkp _ (by omega))
  replace hSl := hSl.kept (fun q hq1 hq2 hq3 => hkp q (by omega))
  replace hsz := hz.trans hsz
  clear hz
  refine lv_aload_n hx hb dX6_init_59 rfl (lv_at hl 0 rfl) ?_
  refine xr_new (ci := 1) (fs := [.null, .null, .null, .null, .null, .null, .int 0, .null, .int 0, .int 0, .int 0, .null, .null, .int 0, .null, .null]) (C := RX1) (T := TX1) (N := 16) hx hb hts (by decide +kernel) tyX1 tyX1_ok hown (hts (.classLink RX6 40 RX1) (by decide +kernel)) (hts (.instantiable RX1 16) (by decide +kernel)) (hts (.initialized RX1) (by decide +kernel)) hK.1 hS rfl (fun j hj => by rcases (show j = 0 ∨ j = 1 ∨ j = 2 ∨ j = 3 ∨ j = 4 ∨ j = 5 ∨ j = 6 ∨ j = 7 ∨ j = 8 ∨ j = 9 ∨ j = 10 ∨ j = 11 ∨ j = 12 ∨ j = 13 ∨ j = 14 ∨ j = 15 by omega) with rfl | rfl | rfl | rfl | rfl | rfl | rfl | rfl | rfl | rfl | rfl | rfl | rfl | rfl | rfl | rfl <;> rfl) (Nat.le_of_ble_eq_true rfl) (Nat.le_of_ble_eq_true rfl) dX6_init_60 (fun H hz hkp hQ hS => ?_)
  refine W.widen (k := 19) (n := 1629) (Nat.le_of_ble_eq_true rfl) (Nat.le_of_ble_eq_true rfl) ?_
  rw [hsz] at hQ hz hkp ⊢
  replace hPr := hPr.kept (hkp _ (by omega)) (hkp _ (by omega))
  replace hT0 := hT0.kept (fun q hq1 hq2 hq3 => hkp q (by omega))
  replace hT := hT.kept (fun q hq1 hq2 hq3 => hkp q (by omega))
  replace hRt := hRt.kept (fun q hq1 hq2 hq3 => hkp q (by omega))
  replace hLk := hLk.kept (hkp _ (by omega)) (hkp _ (by omega))
  replace hSl := hSl.kept (fun q hq1 hq2 hq3 => hkp q (by omega))
  replace hO := hO.kept (hkp _ (by omega))
  replace hsz := hz
  refine lv_dup hx hb dX6_init_63 rfl ?_
  refine lv_aload_n hx hb dX6_init_64 rfl (lv_at hl 0 rfl) ?_
  refine va_get (D := g.1) (ci := 6) (v := .ref (a + 4)) (C := RX6) (T := TX6) (N := 7) hx hb hts (by decide +kernel) hown hK.1 (xr_one hO) 0 rfl rfl 1 (by decide) (hts (.fieldLink RX6 16 "SharesDesk" "past" "LSharesDesk$Town;") (by decide +kernel)) (fun _ h9 => h9) rfl dX6_init_65 ?_
  refine xr_Iv (rest := [.ref (a + 19), .ref a]) ⟨hx, hb, hml, hown, hts⟩ (KK_ok g) hK (c_X1_init l g H (a + 19) (a + 4) hQ hsz) (cwI 1 hts gX6_init_X1_init rfl rfl rfl (hts (.initialized RX1) (by decide +kernel)) (hts (.methodLink RX6 42 yX1_init) (by decide +kernel)) (hts (.instanceMethod yX1_init) (by decide +kernel)) rfl (by decide +kernel) ⟨Nat.le_of_ble_eq_true rfl, Nat.le_of_ble_eq_true rfl⟩) rfl hl.1 rfl (Nat.le_of_ble_eq_true rfl) dX6_init_68 ⟨Nat.le_of_ble_eq_true rfl, Nat.le_of_ble_eq_true rfl⟩ hS (fun q h => by have h : q = a + 19 ∨ a + 19 + 1 ≤ q := h; show q = a ∨ a + 1 ≤ q; omega) (fun _ H locs hq hz hkp hS => ?_)
  refine W.widen (k := 298) (n := 2552) (Nat.le_of_ble_eq_true rfl) (Nat.le_of_ble_eq_true rfl) ?_
  replace hkp := fun (q : Nat) h1 (h2 : ¬ (q = a + 19 ∨ a + 19 + 1 ≤ q)) => hkp q h1 h2
  clear hz
  replace hPr := hPr.kept (hkp _ hPr.l1 (by omega)) (hkp _ hPr.l2 (by omega))
  replace hT0 := hT0.kept (fun q hq1 hq2 hq3 => hkp q hq1 (by omega))
  replace hT := hT.kept (fun q hq1 hq2 hq3 => hkp q hq1 (by omega))
  replace hRt := hRt.kept (fun q hq1 hq2 hq3 => hkp q hq1 (by omega))
  replace hLk := hLk.kept (hkp _ hLk.1.lt (by omega)) (hkp _ hLk.2.1.lt (by omega))
  replace hSl := hSl.kept (fun q hq1 hq2 hq3 => hkp q hq1 (by omega))
  replace hO := hO.kept (hkp _ hO.lt (by omega))
  have hP : PhAt g H (a + 19) (a + 4) 0 ((0, 0, 0, 0, 0, fun _ => 0, fun _ => 0, fun _ => 0, fun _ => 0, fun _ => 0, fun _ => 0, fun _ => 0) : PSt) := ⟨0, a + 19 + 10, a + 19 + 17, 0, 0, 0, 0, Or.inr ⟨rfl, rfl⟩, hq.1⟩
  replace hsz := hq.2
  refine xr_put (ci := 6) (v := .ref (a + 19)) (ty := .object "SharesDesk$Phase") (C := RX6) (T := TX6) (N := 7) hx hb hts (by decide +kernel) tyX6 tyX6_ok nmX6 hown hK.1 hO hS (Or.inl rfl) rfl 5 (by decide) (hts (.fieldLink RX6 45 "SharesDesk" "result" "LSharesDesk$Phase;") (by decide +kernel)) rfl (by decide +kernel) rfl rfl (Nat.le_of_ble_eq_true rfl) dX6_init_71 (fun H locs hz hkp hO hS => ?_)
  replace hPr := hPr.kept (hkp _ (by omega)) (hkp _ (by omega))
  replace hT0 := hT0.kept (fun q hq1 hq2 hq3 => hkp q (by omega))
  replace hT := hT.kept (fun q hq1 hq2 hq3 => hkp q (by omega))
  replace hRt := hRt.kept (fun q hq1 hq2 hq3 => hkp q (by omega))
  replace hLk := hLk.kept (hkp _ (by omega)) (hkp _ (by omega))
  replace hSl := hSl.kept (fun q hq1 hq2 hq3 => hkp q (by omega))
  replace hP := hP.kept (fun q hq1 hq2 hq3 => hkp q (by omega))
  replace hsz := hz.trans hsz
  clear hz
  refine lv_aload_n hx hb dX6_init_74 rfl (lv_at hl 0 rfl) ?_
  refine xr_new (ci := 1) (fs := [.null, .null, .null, .null, .null, .null, .int 0, .null, .int 0, .int 0, .int 0, .null, .null, .int 0, .null, .null]) (C := RX1) (T := TX1) (N := 16) hx hb hts (by decide +kernel) tyX1 tyX1_ok hown (hts (.classLink RX6 40 RX1) (by decide +kernel)) (hts (.instantiable RX1 16) (by decide +kernel)) (hts (.initialized RX1) (by decide +kernel)) hK.1 hS rfl (fun j hj => by rcases (show j = 0 ∨ j = 1 ∨ j = 2 ∨ j = 3 ∨ j = 4 ∨ j = 5 ∨ j = 6 ∨ j = 7 ∨ j = 8 ∨ j = 9 ∨ j = 10 ∨ j = 11 ∨ j = 12 ∨ j = 13 ∨ j = 14 ∨ j = 15 by omega) with rfl | rfl | rfl | rfl | rfl | rfl | rfl | rfl | rfl | rfl | rfl | rfl | rfl | rfl | rfl | rfl <;> rfl) (Nat.le_of_ble_eq_true rfl) (Nat.le_of_ble_eq_true rfl) dX6_init_75 (fun H hz hkp hQ hS => ?_)
  refine W.widen (k := 299) (n := 2568) (Nat.le_of_ble_eq_true rfl) (Nat.le_of_ble_eq_true rfl) ?_
  rw [hsz] at hQ hz hkp ⊢
  replace hPr := hPr.kept (hkp _ (by omega)) (hkp _ (by omega))
  replace hT0 := hT0.kept (fun q hq1 hq2 hq3 => hkp q (by omega))
  replace hT := hT.kept (fun q hq1 hq2 hq3 => hkp q (by omega))
  replace hRt := hRt.kept (fun q hq1 hq2 hq3 => hkp q (by omega))
  replace hLk := hLk.kept (hkp _ (by omega)) (hkp _ (by omega))
  replace hSl := hSl.kept (fun q hq1 hq2 hq3 => hkp q (by omega))
  replace hP := hP.kept (fun q hq1 hq2 hq3 => hkp q (by omega))
  replace hO := hO.kept (hkp _ (by omega))
  replace hsz := hz
  refine lv_dup hx hb dX6_init_78 rfl ?_
  refine lv_aload_n hx hb dX6_init_79 rfl (lv_at hl 0 rfl) ?_
  refine va_get (D := g.1) (ci := 6) (v := .ref (a + 4)) (C := RX6) (T := TX6) (N := 7) hx hb hts (by decide +kernel) hown hK.1 (xr_one hO) 0 rfl rfl 1 (by decide) (hts (.fieldLink RX6 16 "SharesDesk" "past" "LSharesDesk$Town;") (by decide +kernel)) (fun _ h9 => h9) rfl dX6_init_80 ?_
  refine xr_Iv (rest := [.ref (a + 299), .ref a]) ⟨hx, hb, hml, hown, hts⟩ (KK_ok g) hK (c_X1_init l g H (a + 299) (a + 4) hQ hsz) (cwI 1 hts gX6_init_X1_init rfl rfl rfl (hts (.initialized RX1) (by decide +kernel)) (hts (.methodLink RX6 42 yX1_init) (by decide +kernel)) (hts (.instanceMethod yX1_init) (by decide +kernel)) rfl (by decide +kernel) ⟨Nat.le_of_ble_eq_true rfl, Nat.le_of_ble_eq_true rfl⟩) rfl hl.1 rfl (Nat.le_of_ble_eq_true rfl) dX6_init_83 ⟨Nat.le_of_ble_eq_true rfl, Nat.le_of_ble_eq_true rfl⟩ hS (fun q h => by have h : q = a + 299 ∨ a + 299 + 1 ≤ q := h; show q = a ∨ a + 1 ≤ q; omega) (fun _ H locs hq hz hkp hS => ?_)
  refine W.widen (k := 578) (n := 3491) (Nat.le_of_ble_eq_true rfl) (Nat.le_of_ble_eq_true rfl) ?_
  replace hkp := fun (q : Nat) h1 (h2 : ¬ (q = a + 299 ∨ a + 299 + 1 ≤ q)) => hkp q h1 h2
  clear hz
  replace hPr := hPr.kept (hkp _ hPr.l1 (by omega)) (hkp _ hPr.l2 (by omega))
  replace hT0 := hT0.kept (fun q hq1 hq2 hq3 => hkp q hq1 (by omega))
  replace hT := hT.kept (fun q hq1 hq2 hq3 => hkp q hq1 (by omega))
  replace hRt := hRt.kept (fun q hq1 hq2 hq3 => hkp q hq1 (by omega))
  replace hLk := hLk.kept (hkp _ hLk.1.lt (by omega)) (hkp _ hLk.2.1.lt (by omega))
  replace hSl := hSl.kept (fun q hq1 hq2 hq3 => hkp q hq1 (by omega))
  replace hP := hP.kept (fun q hq1 hq2 hq3 => hkp q hq1 (by omega))
  replace hO := hO.kept (hkp _ hO.lt (by omega))
  have hP2 : PhAt g H (a + 299) (a + 4) 0 ((0, 0, 0, 0, 0, fun _ => 0, fun _ => 0, fun _ => 0, fun _ => 0, fun _ => 0, fun _ => 0, fun _ => 0) : PSt) := ⟨0, a + 299 + 10, a + 299 + 17, 0, 0, 0, 0, Or.inr ⟨rfl, rfl⟩, hq.1⟩
  replace hsz := hq.2
  refine xr_put (ci := 6) (v := .ref (a + 299)) (ty := .object "SharesDesk$Phase") (C := RX6) (T := TX6) (N := 7) hx hb hts (by decide +kernel) tyX6 tyX6_ok nmX6 hown hK.1 hO hS (Or.inl rfl) rfl 6 (by decide) (hts (.fieldLink RX6 49 "SharesDesk" "trial" "LSharesDesk$Phase;") (by decide +kernel)) rfl (by decide +kernel) rfl rfl (Nat.le_of_ble_eq_true rfl) dX6_init_86 (fun H locs hz hkp hO hS => ?_)
  replace hPr := hPr.kept (hkp _ (by omega)) (hkp _ (by omega))
  replace hT0 := hT0.kept (fun q hq1 hq2 hq3 => hkp q (by omega))
  replace hT := hT.kept (fun q hq1 hq2 hq3 => hkp q (by omega))
  replace hRt := hRt.kept (fun q hq1 hq2 hq3 => hkp q (by omega))
  replace hLk := hLk.kept (hkp _ (by omega)) (hkp _ (by omega))
  replace hSl := hSl.kept (fun q hq1 hq2 hq3 => hkp q (by omega))
  replace hP := hP.kept (fun q hq1 hq2 hq3 => hkp q (by omega))
  replace hP2 := hP2.kept (fun q hq1 hq2 hq3 => hkp q (by omega))
  replace hsz := hz.trans hsz
  clear hz
  exact xr_vret hx hb hr hlocks hS ⟨⟨a + 19, a + 299, 0, 0, 0, 0, _, Or.inl ⟨rfl, rfl⟩, hO, hT0, hT, hRt, hLk, hSl, hP, hP2, hPr, hp1, hp2⟩, hsz⟩ dX6_init_89
