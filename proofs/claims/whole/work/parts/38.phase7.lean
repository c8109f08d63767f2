/-! what a voter paid; what is missing -/
def payV (f : Nat) (emp ap pik : Nat → Nat) (v r : Nat) : Value := if emp v < r ∨ (ap v).testBit (pik r) = false then .null else if r = emp v then .ref (f + 26 + 4 * v) else .ref (f + 216 + 4 * r)
set_option maxHeartbeats 400000 in
set_option maxRecDepth 100000 in
theorem c_X1_payment_n (l : Launch) (g : WG) (H0 : Heap) (f v : Nat) : Ctr l (KK g) yX1_payment wsX1_payment { frames := 1, cells := 0, slots := 0, locals := 22 } [.ref f, .int (nI v), .int (-1)] H0 eR (fun z H => z = .null ∧ H = H0) (fun _ => False) := by
  refine xr_enter (cc := cX1_payment) (maxL := 3) (ret := (some (.object "SharesDesk$Natural"))) (by decide) rfl (Nat.le_of_ble_eq_true rfl) ?_
  intro pgm env s mid below meth cde hx hb hr hml hts hown hlocks hnm hH hK ls hl
  subst hH
  have hl : lv_has ls 3 [(0, .ref f), (1, .int (nI v)), (2, .int (-1))] := hl
  have hS : va_S (fun _ => False) s.heap s.heap [] := va_S.rf
  refine lv_iload_n hx hb dX1_payment_0 rfl (lv_at hl 2 rfl) ?_
  refine lv_iconst (v := (-1)) hx hb dX1_payment_1 (by decide) ?_
  refine lv_icmp_eq (tgt := 32) hx hb dX1_payment_2 (by decide) (fun hc => ?_) (fun hc => ?_)
  · clear hc
    refine lv_null hx hb dX1_payment_32 ?_
    exact xr_aret hx hb hr (Or.inl ⟨_, rfl⟩) (Or.inl rfl) hlocks hS ⟨rfl, rfl⟩ dX1_payment_33
  · exact absurd rfl hc
set_option maxHeartbeats 400000 in
set_option maxRecDepth 100000 in
theorem c_X1_payment (l : Launch) (g : WG) (H0 : Heap) (t : Nat) (c : Nat → Nat) (vs : Nat) (ap : Nat → Nat) (bu : Nat) (hT : TownAt g H0 t c vs ap bu) (f pc pk ps co op bs tr : Nat) (hO : obj g H0 f 1 (phF f t pc pk ps co op bs tr)) (hft : t + 3 ≤ f ∨ f + 280 ≤ t) (emp las rat pik : Nat → Nat) (hEm : xr_ia H0 (f + 5) (gI g) 48 (fun z9 => nI (emp z9))) (hem : ∀ v, v < 48 → emp v ≤ 16) (hLa : PoolAt g H0 (f + 4) (f + 26) 48 las) (hRa : PoolAt g H0 (f + 8) (f + 216) 16 rat) (hPi : xr_ia H0 (f + 7) (gI g) 16 (fun z9 => nI (pik z9))) (v r : Nat) (hv : v < 48) (hr16 : r < 16) (hpik : pik r < 16) : Ctr l (KK g) yX1_payment wsX1_payment { frames := 1, cells := 0, slots := 0, locals := 22 } [.ref f, .int (nI v), .int (nI r)] H0 eR (fun z H => z = payV f emp ap pik v r ∧ H = H0) (fun _ => False) := by
  refine xr_enter (cc := cX1_payment) (maxL := 3) (ret := (some (.object "SharesDesk$Natural"))) (by decide) rfl (Nat.le_of_ble_eq_true rfl) ?_
  intro pgm env s mid below meth cde hx hb hr hml hts hown hlocks hnm hH hK ls hl
  subst hH
  have hl : lv_has ls 3 [(0, .ref f), (1, .int (nI v)), (2, .int (nI r))] := hl
  have hS : va_S (fun _ => False) s.heap s.heap [] := va_S.rf
  have hev := hem v hv
  refine lv_iload_n hx hb dX1_payment_0 rfl (lv_at hl 2 rfl) ?_
  refine lv_iconst (v := (-1)) hx hb dX1_payment_1 (by decide) ?_
  refine lv_icmp_eq (tgt := 32) hx hb dX1_payment_2 (by decide) (fun hc => ?_) (fun hc => ?_)
  · exact absurd hc (nI_m1 (by omega))
  · clear hc
    refine lv_iload_n hx hb dX1_payment_5 rfl (lv_at hl 2 rfl) ?_
    refine lv_aload_n hx hb dX1_payment_6 rfl (lv_at hl 0 rfl) ?_
    refine va_get (D := g.1) (ci := 1) (v := .ref (f + 5)) (C := RX1) (T := TX1) (N := 16) hx hb hts (by decide +kernel) hown hK.1 (xr_one hO) 0 rfl rfl 4 (by decide) (hts (.fieldLink RX1 25 "SharesDesk$Phase" "emptiedIn" "[I") (by decide +kernel)) (fun _ h9 => h9) rfl dX1_payment_7 ?_
    refine lv_iload_n hx hb dX1_payment_10 rfl (lv_at hl 1 rfl) ?_
    refine xr_rd hx hb hK hEm hv (by decide) dX1_payment_11 ?_
    refine lv_icmp_gt (tgt := 32) hx hb dX1_payment_12 (by decide) (fun hc => ?_) (fun hc => ?_)
    · have h8 : emp v < r := (nI_ltI (by omega) (by omega)).mp hc
      refine lv_null hx hb dX1_payment_32 ?_
      exact xr_aret hx hb hr (Or.inl ⟨_, rfl⟩) (Or.inl rfl) hlocks hS ⟨by unfold payV; rw [if_pos (Or.inl h8)], rfl⟩ dX1_payment_33
    · have h8 : ¬ emp v < r := fun q => hc (nI_lt q (by omega))
      refine lv_aload_n hx hb dX1_payment_15 rfl (lv_at hl 0 rfl) ?_
      refine va_get (D := g.1) (ci := 1) (v := .ref t) (C := RX1) (T := TX1) (N := 16) hx hb hts (by decide +kernel) hown hK.1 (xr_one hO) 0 rfl rfl 0 (by decide) (hts (.fieldLink RX1 51 "SharesDesk$Phase" "town" "LSharesDesk$Town;") (by decide +kernel)) (fun _ h9 => h9) rfl dX1_payment_16 ?_
      refine lv_iload_n hx hb dX1_payment_19 rfl (lv_at hl 1 rfl) ?_
      refine lv_aload_n hx hb dX1_payment_20 rfl (lv_at hl 0 rfl) ?_
      refine va_get (D := g.1) (ci := 1) (v := .ref (f + 7)) (C := RX1) (T := TX1) (N := 16) hx hb hts (by decide +kernel) hown hK.1 (xr_one hO) 0 rfl rfl 7 (by decide) (hts (.fieldLink RX1 32 "SharesDesk$Phase" "picks" "[I") (by decide +kernel)) (fun _ h9 => h9) rfl dX1_payment_21 ?_
      refine lv_iload_n hx hb dX1_payment_24 rfl (lv_at hl 2 rfl) ?_
      refine xr_rd hx hb hK hPi hr16 (by decide) dX1_payment_25 ?_
      refine xr_Vi (rest := []) ⟨hx, hb, hml, hown, hts⟩ (KK_ok g) hK (c_X5_approves l g s.heap t c vs ap bu hT v (pik r) hv hpik) (cwV 2 hts gX1_payment_X5_approves rfl rfl rfl (by decide +kernel) ⟨Nat.le_of_ble_eq_true rfl, Nat.le_of_ble_eq_true rfl⟩) (xr_rec hK hT.1 rfl) rfl hl.1 rfl (Nat.le_of_ble_eq_true rfl) dX1_payment_26 ⟨Nat.le_of_ble_eq_true rfl, Nat.le_of_ble_eq_true rfl⟩ hS (fun q h => h.elim) (fun r H locs hq hz hkp hS9 => ?_)
      obtain ⟨rfl, rfl⟩ := hq
      have hS := hS9
      refine lv_if_ne (tgt := 34) hx hb dX1_payment_29 (by decide) (fun h5 => ?_) (fun h5 => ?_)
      · have h6 := b2i_n0.mp h5
        have h7 : ¬ (emp v < r ∨ (ap v).testBit (pik r) = false) := fun q => q.elim h8 (fun q => by rw [h6] at q; cases q)
        refine lv_iload_n hx hb dX1_payment_34 rfl (lv_at hl 2 rfl) ?_
        refine lv_aload_n hx hb dX1_payment_35 rfl (lv_at hl 0 rfl) ?_
        refine va_get (D := g.1) (ci := 1) (v := .ref (f + 5)) (C := RX1) (T := TX1) (N := 16) hx hb hts (by decide +kernel) hown hK.1 (xr_one hO) 0 rfl rfl 4 (by decide) (hts (.fieldLink RX1 25 "SharesDesk$Phase" "emptiedIn" "[I") (by decide +kernel)) (fun _ h9 => h9) rfl dX1_payment_36 ?_
        refine lv_iload_n hx hb dX1_payment_39 rfl (lv_at hl 1 rfl) ?_
        refine xr_rd hx hb hK hEm hv (by decide) dX1_payment_40 ?_
        refine lv_icmp_ne (tgt := 53) hx hb dX1_payment_41 (by decide) (fun h9 => ?_) (fun h9 => ?_)
        · have h10 : ¬ r = emp v := fun q => h9 (by rw [q])
          refine lv_aload_n hx hb dX1_payment_53 rfl (lv_at hl 0 rfl) ?_
          refine va_get (D := g.1) (ci := 1) (v := .ref (f + 8)) (C := RX1) (T := TX1) (N := 16) hx hb hts (by decide +kernel) hown hK.1 (xr_one hO) 0 rfl rfl 11 (by decide) (hts (.fieldLink RX1 35 "SharesDesk$Phase" "rates" "[LSharesDesk$Natural;") (by decide +kernel)) (fun _ h9 => h9) rfl dX1_payment_54 ?_
          refine lv_iload_n hx hb dX1_payment_57 rfl (lv_at hl 2 rfl) ?_
          refine xr_pl hx hb hK hRa hr16 (by decide) dX1_payment_58 ?_
          exact xr_aret hx hb hr (Or.inl ⟨_, rfl⟩) (Or.inr ⟨_, rfl⟩) hlocks hS ⟨by unfold payV; rw [if_neg h7, if_neg h10], rfl⟩ dX1_payment_59
        · have h10 : r = emp v := (nI_inj (by omega) (by omega)).mp h9
          refine lv_aload_n hx hb dX1_payment_44 rfl (lv_at hl 0 rfl) ?_
          refine va_get (D := g.1) (ci := 1) (v := .ref (f + 4)) (C := RX1) (T := TX1) (N := 16) hx hb hts (by decide +kernel) hown hK.1 (xr_one hO) 0 rfl rfl 3 (by decide) (hts (.fieldLink RX1 22 "SharesDesk$Phase" "lastPays" "[LSharesDesk$Natural;") (by decide +kernel)) (fun _ h9 => h9) rfl dX1_payment_45 ?_
          refine lv_iload_n hx hb dX1_payment_48 rfl (lv_at hl 1 rfl) ?_
          refine xr_pl hx hb hK hLa hv (by decide) dX1_payment_49 ?_
          refine lv_goto (tgt := 59) hx hb dX1_payment_50 (by decide) ?_
          exact xr_aret hx hb hr (Or.inl ⟨_, rfl⟩) (Or.inr ⟨_, rfl⟩) hlocks hS ⟨by unfold payV; rw [if_neg h7, if_pos h10], rfl⟩ dX1_payment_59
      · have h6 := b2i_0.mp h5
        refine lv_null hx hb dX1_payment_32 ?_
        exact xr_aret hx hb hr (Or.inl ⟨_, rfl⟩) (Or.inl rfl) hlocks hS ⟨by unfold payV; rw [if_pos (Or.inr h6)], rfl⟩ dX1_payment_33
set_option maxHeartbeats 400000 in
set_option maxRecDepth 100000 in
theorem c_X1_measureLack (l : Launch) (g : WG) (H0 : Heap) (t : Nat) (c : Nat → Nat) (vs : Nat) (ap : Nat → Nat) (bu : Nat) (hT : TownAt g H0 t c vs ap bu) (f pc pk ps co op bs tr : Nat) (hO : obj g H0 f 1 (phF f t pc pk ps co op bs tr)) (hft : t + 3 ≤ f ∨ f + 280 ≤ t) (pay : Nat → Nat) (hpc : pc ≤ 48) (hpay : ∀ i, i < pc → pay i < 48) (hPy : xr_ia H0 (f + 6) (gI g) 48 (fun z9 => nI (pay z9))) (B : Nat) (hBa : NatAt g H0 (f + 1) B) (pur : Nat → Nat) (hPu : PoolAt g H0 (f + 3) (f + 24) 48 pur) (lk x0 : Nat) (hLk : NatAt g H0 lk x0) (hlf : lk + 2 ≤ f ∨ f + 280 ≤ lk) (hlt : lk + 2 ≤ t ∨ t + 3 ≤ lk) (hBb : B * 48000000 < 2 ^ 128) (p0 : Nat) (hp : p0 < 16) (hsum : (supL pur pay ap p0 pc 0).sum ≤ B * c p0) : Ctr l (KK g) yX1_measureLack wsX1_measureLack { frames := 2, cells := 0, slots := 0, locals := 61 } [.ref f, .int (nI p0), .ref lk] H0 eV (fun _ H => NatAt g H lk (B * c p0 - (supL pur pay ap p0 pc 0).sum)) (fun q => q = lk + 1) := by
  refine xr_enter (cc := cX1_measureLack) (maxL := 4) (ret := none) (by decide) rfl (Nat.le_of_ble_eq_true rfl) ?_
  intro pgm env s mid below meth cde hx hb hr hml hts hown hlocks hnm hH hK ls hl
  subst hH
  have hl : lv_has ls 4 [(0, .ref f), (1, .int (nI p0)), (2, .ref lk)] := hl
  have hS : va_S (fun q => q = lk + 1) s.heap s.heap [] := va_S.rf
  have hcp := hT.2.2.2.1 p0 hp
  have hBc : B * c p0 < 2 ^ 128 := Nat.lt_of_le_of_lt (Nat.mul_le_mul_left B (show c p0 ≤ 48000000 by omega)) hBb
  have loop : ∀ (n i x : Nat), i + n = pc → (supL pur pay ap p0 n i).sum ≤ x → x - (supL pur pay ap p0 n i).sum = B * c p0 - (supL pur pay ap p0 pc 0).sum → ∀ (H : Heap) (locs : List Loc), obj g H f 1 (phF f t pc pk ps co op bs tr) → TownAt g H t c vs ap bu → xr_ia H (f + 6) (gI g) 48 (fun z9 => nI (pay z9)) → PoolAt g H (f + 3) (f + 24) 48 pur → NatAt g H lk x → va_S (fun q => q = lk + 1) s.heap H locs → ∀ ls : Array Slot, lv_has ls 4 [(3, .int (nI i)), (0, .ref f), (1, .int (nI p0)), (2, .ref lk)] → W pgm l env { frames := 2, cells := 0, slots := 0, locals := 61 } s mid ([.ref f, .int (nI p0), .ref lk] : List Value).toArray below meth cde H locs 0 0 (MQ below (xr_Post eV (fun _ H => NatAt g H lk (B * c p0 - (supL pur pay ap p0 pc 0).sum)) (fun q => q = lk + 1)) ([.ref f, .int (nI p0), .ref lk] : List Value).toArray s ({ frames := 2, cells := 0, slots := 0, locals := 61 } : Room).cells ({ frames := 2, cells := 0, slots := 0, locals := 61 } : Room).slots (fun q => q = lk + 1)) (F0 mid 23 ls []) := by
    intro n
    induction n with
    | zero =>
      intro i x h1 h2 h3 H locs hO hT hPy hPu hLk hS ls hl
      refine lv_iload_n hx hb dX1_measureLack_23 rfl (lv_at hl 0 rfl) ?_
      refine lv_aload_n hx hb dX1_measureLack_24 rfl (lv_at hl 1 rfl) ?_
      refine va_get (D := g.1) (ci := 1) (v := .int (nI pc)) (C := RX1) (T := TX1) (N := 16) hx hb hts (by decide +kernel) hown hK.1 (xr_one hO) 0 rfl rfl 6 (by decide) (hts (.fieldLink RX1 118 "SharesDesk$Phase" "payerCount" "I") (by decide +kernel)) (fun _ h9 => h9) rfl dX1_measureLack_25 ?_
      refine lv_icmp_ge (tgt := 69) hx hb dX1_measureLack_28 (by decide) (fun hc => ?_) (fun hc => ?_)
      · clear hc
        have h3 : x - 0 = B * c p0 - (supL pur pay ap p0 pc 0).sum := h3
        rw [Nat.sub_zero] at h3
        exact xr_vret hx hb hr hlocks hS (by rw [← h3]; exact hLk) dX1_measureLack_69
      · exact absurd (nI_le (show pc ≤ i by omega) (by omega)) hc
    | succ n ih =>
      intro i x h1 h2 h3 H locs hO hT hPy hPu hLk hS ls hl
      refine lv_iload_n hx hb dX1_measureLack_23 rfl (lv_at hl 0 rfl) ?_
      refine lv_aload_n hx hb dX1_measureLack_24 rfl (lv_at hl 1 rfl) ?_
      refine va_get (D := g.1) (ci := 1) (v := .int (nI pc)) (C := RX1) (T := TX1) (N := 16) hx hb hts (by decide +kernel) hown hK.1 (xr_one hO) 0 rfl rfl 6 (by decide) (hts (.fieldLink RX1 118 "SharesDesk$Phase" "payerCount" "I") (by decide +kernel)) (fun _ h9 => h9) rfl dX1_measureLack_25 ?_
      refine lv_icmp_ge (tgt := 69) hx hb dX1_measureLack_28 (by decide) (fun hc => ?_) (fun hc => ?_)
      · exact absurd ((nI_leI (by omega) (by omega)).mp hc) (by omega)
      · clear hc
        have hv := hpay i (by omega)
        refine lv_aload_n hx hb dX1_measureLack_31 rfl (lv_at hl 1 rfl) ?_
        refine va_get (D := g.1) (ci := 1) (v := .ref t) (C := RX1) (T := TX1) (N := 16) hx hb hts (by decide +kernel) hown hK.1 (xr_one hO) 0 rfl rfl 0 (by decide) (hts (.fieldLink RX1 51 "SharesDesk$Phase" "town" "LSharesDesk$Town;") (by decide +kernel)) (fun _ h9 => h9) rfl dX1_measureLack_32 ?_
        refine lv_aload_n hx hb dX1_measureLack_35 rfl (lv_at hl 1 rfl) ?_
        refine va_get (D := g.1) (ci := 1) (v := .ref (f + 6)) (C := RX1) (T := TX1) (N := 16) hx hb hts (by decide +kernel) hown hK.1 (xr_one hO) 0 rfl rfl 5 (by decide) (hts (.fieldLink RX1 29 "SharesDesk$Phase" "payers" "[I") (by decide +kernel)) (fun _ h9 => h9) rfl dX1_measureLack_36 ?_
        refine lv_iload_n hx hb dX1_measureLack_39 rfl (lv_at hl 0 rfl) ?_
        refine xr_rd hx hb hK hPy (show i < 48 by omega) (by decide) dX1_measureLack_40 ?_
        refine lv_iload_n hx hb dX1_measureLack_41 rfl (lv_at hl 2 rfl) ?_
        refine xr_Vi (rest := []) ⟨hx, hb, hml, hown, hts⟩ (KK_ok g) hK (c_X5_approves l g H t c vs ap bu hT (pay i) p0 hv hp) (cwV 2 hts gX1_measureLack_X5_approves rfl rfl rfl (by decide +kernel) ⟨Nat.le_of_ble_eq_true rfl, Nat.le_of_ble_eq_true rfl⟩) (xr_rec hK hT.1 rfl) rfl hl.1 rfl (Nat.le_of_ble_eq_true rfl) dX1_measureLack_42 ⟨Nat.le_of_ble_eq_true rfl, Nat.le_of_ble_eq_true rfl⟩ hS (fun q h => h.elim) (fun r H locs hq hz hkp hS9 => ?_)
        obtain ⟨rfl, rfl⟩ := hq
        have hS := hS9
        refine lv_if_eq (tgt := 63) hx hb dX1_measureLack_45 (by decide) (fun hc => ?_) (fun hc => ?_)
        · have h8 := b2i_0.mp hc
          rw [supL_n h8] at h2 h3
          refine lv_iinc (v := nI (i + 1)) (lv' := [(3, .int (nI (i + 1))), (0, .ref f), (1, .int (nI p0)), (2, .ref lk)]) hx hb dX1_measureLack_63 hl (k := 0) rfl (nI_1 i) (by decide) rfl (fun ls hl => ?_)
          refine lv_goto (tgt := 23) hx hb dX1_measureLack_66 (by decide) ?_
          exact ih (i + 1) x (by omega) h2 h3 H locs hO hT hPy hPu hLk hS ls (lv_sub hl [0, 1, 2, 3] rfl)
        · have h8 := b2i_n0.mp hc
          rw [supL_y h8, List.sum_cons] at h2 h3
          refine lv_aload_n hx hb dX1_measureLack_48 rfl (lv_at hl 3 rfl) ?_
          refine lv_aload_n hx hb dX1_measureLack_49 rfl (lv_at hl 1 rfl) ?_
          refine va_get (D := g.1) (ci := 1) (v := .ref (f + 3)) (C := RX1) (T := TX1) (N := 16) hx hb hts (by decide +kernel) hown hK.1 (xr_one hO) 0 rfl rfl 2 (by decide) (hts (.fieldLink RX1 18 "SharesDesk$Phase" "purses" "[LSharesDesk$Natural;") (by decide +kernel)) (fun _ h9 => h9) rfl dX1_measureLack_50 ?_
          refine lv_aload_n hx hb dX1_measureLack_53 rfl (lv_at hl 1 rfl) ?_
          refine va_get (D := g.1) (ci := 1) (v := .ref (f + 6)) (C := RX1) (T := TX1) (N := 16) hx hb hts (by decide +kernel) hown hK.1 (xr_one hO) 0 rfl rfl 5 (by decide) (hts (.fieldLink RX1 29 "SharesDesk$Phase" "payers" "[I") (by decide +kernel)) (fun _ h9 => h9) rfl dX1_measureLack_54 ?_
          refine lv_iload_n hx hb dX1_measureLack_57 rfl (lv_at hl 0 rfl) ?_
          refine xr_rd hx hb hK hPy (show i < 48 by omega) (by decide) dX1_measureLack_58 ?_
          refine xr_pl hx hb hK hPu hv (by decide) dX1_measureLack_59 ?_
          refine xr_Vv (rest := []) ⟨hx, hb, hml, hown, hts⟩ (KK_ok g) hK (c_X0_minus l g H lk (f + 24 + 4 * pay i) x (pur (pay i)) hLk (hPu.2 _ hv) (by omega) (by omega) (by omega)) (cwV 1 hts gX1_measureLack_X0_minus rfl rfl rfl (by decide +kernel) ⟨Nat.le_of_ble_eq_true rfl, Nat.le_of_ble_eq_true rfl⟩) (xr_rec hK hLk.1 rfl) rfl hl.1 rfl (Nat.le_of_ble_eq_true rfl) dX1_measureLack_60 ⟨Nat.le_of_ble_eq_true rfl, Nat.le_of_ble_eq_true rfl⟩ hS (fun q h => h) (fun _ H locs hq hz hkp hS => ?_)
          replace hkp := fun (q : Nat) h1 (h2 : ¬ (q = lk + 1)) => hkp q h1 h2
          replace hO := hO.kept (hkp _ hO.lt (by omega))
          replace hT := hT.kept (fun q hq1 hq2 hq3 => hkp q hq1 (by omega))
          replace hPy := hPy.kept (hkp _ hPy.lt (by omega))
          replace hPu := hPu.kept (hkp _ hPu.1.lt (by omega)) (fun v hv => hkp _ (hPu.2 v hv).1.lt (by omega)) (fun v hv => hkp _ (hPu.2 v hv).2.1.lt (by omega))
          have hLk : NatAt g H lk (x - pur (pay i)) := hq
          refine lv_iinc (v := nI (i + 1)) (lv' := [(3, .int (nI (i + 1))), (0, .ref f), (1, .int (nI p0)), (2, .ref lk)]) hx hb dX1_measureLack_63 hl (k := 0) rfl (nI_1 i) (by decide) rfl (fun ls hl => ?_)
          refine lv_goto (tgt := 23) hx hb dX1_measureLack_66 (by decide) ?_
          exact ih (i + 1) _ (by omega) (by omega) (by omega) H locs hO hT hPy hPu hLk hS ls (lv_sub hl [0, 1, 2, 3] rfl)
  refine lv_aload_n hx hb dX1_measureLack_0 rfl (lv_at hl 2 rfl) ?_
  refine lv_aload_n hx hb dX1_measureLack_1 rfl (lv_at hl 0 rfl) ?_
  refine va_get (D := g.1) (ci := 1) (v := .ref (f + 1)) (C := RX1) (T := TX1) (N := 16) hx hb hts (by decide +kernel) hown hK.1 (xr_one hO) 0 rfl rfl 1 (by decide) (hts (.fieldLink RX1 12 "SharesDesk$Phase" "base" "LSharesDesk$Natural;") (by decide +kernel)) (fun _ h9 => h9) rfl dX1_measureLack_2 ?_
  refine xr_Vv (rest := []) ⟨hx, hb, hml, hown, hts⟩ (KK_ok g) hK (c_X0_copy l g s.heap lk (f + 1) x0 B hLk hBa (by omega)) (cwV 1 hts gX1_measureLack_X0_copy rfl rfl rfl (by decide +kernel) ⟨Nat.le_of_ble_eq_true rfl, Nat.le_of_ble_eq_true rfl⟩) (xr_rec hK hLk.1 rfl) rfl hl.1 rfl (Nat.le_of_ble_eq_true rfl) dX1_measureLack_5 ⟨Nat.le_of_ble_eq_true rfl, Nat.le_of_ble_eq_true rfl⟩ hS (fun q h => h) (fun _ H locs hq hz hkp hS => ?_)
  replace hkp := fun (q : Nat) h1 (h2 : ¬ (q = lk + 1)) => hkp q h1 h2
  replace hO := hO.kept (hkp _ hO.lt (by omega))
  replace hT := hT.kept (fun q hq1 hq2 hq3 => hkp q hq1 (by omega))
  replace hPy := hPy.kept (hkp _ hPy.lt (by omega))
  replace hPu := hPu.kept (hkp _ hPu.1.lt (by omega)) (fun v hv => hkp _ (hPu.2 v hv).1.lt (by omega)) (fun v hv => hkp _ (hPu.2 v hv).2.1.lt (by omega))
  have hLk : NatAt g H lk B := hq
  refine lv_aload_n hx hb dX1_measureLack_8 rfl (lv_at hl 2 rfl) ?_
  refine lv_aload_n hx hb dX1_measureLack_9 rfl (lv_at hl 0 rfl) ?_
  refine va_get (D := g.1) (ci := 1) (v := .ref t) (C := RX1) (T := TX1) (N := 16) hx hb hts (by decide +kernel) hown hK.1 (xr_one hO) 0 rfl rfl 0 (by decide) (hts (.fieldLink RX1 51 "SharesDesk$Phase" "town" "LSharesDesk$Town;") (by decide +kernel)) (fun _ h9 => h9) rfl dX1_measureLack_10 ?_
  refine va_get (D := g.1) (ci := 5) (v := .ref (t + 1)) (C := RX5) (T := TX5) (N := 4) hx hb hts (by decide +kernel) hown hK.1 (xr_one hT.1) 0 rfl rfl 0 (by decide) (hts (.fieldLink RX1 112 "SharesDesk$Town" "costs" "[I") (by decide +kernel)) (fun _ h9 => h9) rfl dX1_measureLack_13 ?_
  refine lv_iload_n hx hb dX1_measureLack_16 rfl (lv_at hl 1 rfl) ?_
  refine xr_rd hx hb hK hT.2.1 hp (by decide) dX1_measureLack_17 ?_
  refine xr_Vv (rest := []) ⟨hx, hb, hml, hown, hts⟩ (KK_ok g) hK (c_X0_times l g H lk B (c p0) hLk (by omega) hBc) (cwV 1 hts gX1_measureLack_X0_times rfl rfl rfl (by decide +kernel) ⟨Nat.le_of_ble_eq_true rfl, Nat.le_of_ble_eq_true rfl⟩) (xr_rec hK hLk.1 rfl) rfl hl.1 rfl (Nat.le_of_ble_eq_true rfl) dX1_measureLack_18 ⟨Nat.le_of_ble_eq_true rfl, Nat.le_of_ble_eq_true rfl⟩ hS (fun q h => h) (fun _ H locs hq hz hkp hS => ?_)
  replace hkp := fun (q : Nat) h1 (h2 : ¬ (q = lk + 1)) => hkp q h1 h2
  replace hO := hO.kept (hkp _ hO.lt (by omega))
  replace hT := hT.kept (fun q hq1 hq2 hq3 => hkp q hq1 (by omega))
  replace hPy := hPy.kept (hkp _ hPy.lt (by omega))
  replace hPu := hPu.kept (hkp _ hPu.1.lt (by omega)) (fun v hv => hkp _ (hPu.2 v hv).1.lt (by omega)) (fun v hv => hkp _ (hPu.2 v hv).2.1.lt (by omega))
  have hLk : NatAt g H lk (B * c p0) := hq
  refine lv_iconst (v := 0) hx hb dX1_measureLack_21 (by decide) ?_
  refine xr_ti (x' := nI 0) rfl ?_
  refine lv_istore_n (lv' := [(3, .int (nI 0)), (0, .ref f), (1, .int (nI p0)), (2, .ref lk)]) hx hb dX1_measureLack_22 rfl hl (by decide) rfl (fun ls hl => ?_)
  exact loop pc 0 _ (by omega) hsum rfl H locs hO hT hPy hPu hLk hS ls (lv_sub hl [0, 1, 2, 3] rfl)
