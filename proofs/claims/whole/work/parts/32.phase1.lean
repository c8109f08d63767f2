/-- the round in which i0 was chosen, or -1 -/
def rndF (pik : Nat → Nat) (i0 : Int32) : Nat → Nat → Int32
  | 0, _ => -1
  | n + 1, i => if nI (pik i) = i0 then nI i else rndF pik i0 n (i + 1)
def rnd (pik : Nat → Nat) (pk : Nat) (i0 : Int32) : Int32 := rndF pik i0 pk 0
theorem rndF_no {pik : Nat → Nat} {i0 : Int32} : ∀ n i, (∀ j, i ≤ j → j < i + n → nI (pik j) ≠ i0) → rndF pik i0 n i = -1
  | 0, _, _ => rfl
  | n + 1, i, h => by
    rw [rndF, if_neg (h i (Nat.le_refl i) (by omega))]
    exact rndF_no n (i + 1) (fun j a b => h j (by omega) (by omega))
theorem rndF_yes {pik : Nat → Nat} {i0 : Int32} {r : Nat} : ∀ n i, i ≤ r → r < i + n → (∀ j, i ≤ j → j < r → nI (pik j) ≠ i0) → nI (pik r) = i0 → rndF pik i0 n i = nI r
  | 0, i, h1, h2, _, _ => absurd h2 (by omega)
  | n + 1, i, h1, h2, h3, h4 => by
    rw [rndF]
    by_cases e : i = r
    · rw [e, if_pos h4]
    · rw [if_neg (h3 i (Nat.le_refl i) (by omega))]
      exact rndF_yes n (i + 1) (by omega) (by omega) (fun j a b => h3 j (by omega) b) h4
theorem rnd_no {pik : Nat → Nat} {pk : Nat} {i0 : Int32} (h : ∀ j, j < pk → nI (pik j) ≠ i0) : rnd pik pk i0 = -1 := rndF_no pk 0 (fun j _ b => h j (by omega))
theorem rnd_yes {pik : Nat → Nat} {pk r : Nat} {i0 : Int32} (h : ∀ j, j < r → nI (pik j) ≠ i0) (hr : r < pk) (h4 : nI (pik r) = i0) : rnd pik pk i0 = nI r := rndF_yes pk 0 (by omega) (by omega) (fun j _ b => h j b) h4
set_option maxHeartbeats 400000 in
set_option maxRecDepth 100000 in
theorem c_X1_countPayers (l : Launch) (g : WG) (H0 : Heap) (t : Nat) (c : Nat → Nat) (vs : Nat) (ap : Nat → Nat) (bu : Nat) (hT : TownAt g H0 t c vs ap bu) (f pc pk ps co op bs tr : Nat) (hO : obj g H0 f 1 (phF f t pc pk ps co op bs tr)) (hft : t + 3 ≤ f ∨ f + 280 ≤ t) (pay : Nat → Nat) (hpc : pc ≤ 48) (hpay : ∀ i, i < pc → pay i < 48) (hPy : xr_ia H0 (f + 6) (gI g) 48 (fun i => nI (pay i))) (pur : Nat → Nat) (p0 : Nat) (hp : p0 < 16) : Ctr l (KK g) yX1_countPayers wsX1_countPayers { frames := 1, cells := 0, slots := 0, locals := 22 } [.ref f, .int (nI p0)] H0 eI (fun r H => r = nI (supL pur pay ap p0 pc 0).length ∧ H = H0) (fun _ => False) := by
  refine xr_enter (cc := cX1_countPayers) (maxL := 4) (ret := (some .int)) (by decide) rfl (Nat.le_of_ble_eq_true rfl) ?_
  intro pgm env s mid below meth cde hx hb hr hml hts hown hlocks hnm hH hK ls hl
  subst hH
  have hl : lv_has ls 4 [(0, .ref f), (1, .int (nI p0))] := hl
  have hS : va_S (fun _ => False) s.heap s.heap [] := va_S.rf
  have loop : ∀ (n i k : Nat), i + n = pc → k + (supL pur pay ap p0 n i).length = (supL pur pay ap p0 pc 0).length → ∀ (locs : List Loc), va_S (fun _ => False) s.heap s.heap locs → ∀ ls : Array Slot, lv_has ls 4 [(3, .int (nI i)), (2, .int (nI k)), (0, .ref f), (1, .int (nI p0))] → W pgm l env { frames := 1, cells := 0, slots := 0, locals := 22 } s mid ([.ref f, .int (nI p0)] : List Value).toArray below meth cde s.heap locs 0 0 (MQ below (xr_Post eI (fun r H => r = nI (supL pur pay ap p0 pc 0).length ∧ H = s.heap) (fun _ => False)) ([.ref f, .int (nI p0)] : List Value).toArray s ({ frames := 1, cells := 0, slots := 0, locals := 22 } : Room).cells ({ frames := 1, cells := 0, slots := 0, locals := 22 } : Room).slots (fun _ => False)) (F0 mid 4 ls []) := by
    intro n
    induction n with
    | zero =>
      intro i k h1 h2 locs hS ls hl
      refine lv_iload_n hx hb dX1_countPayers_4 rfl (lv_at hl 0 rfl) ?_
      refine lv_aload_n hx hb dX1_countPayers_5 rfl (lv_at hl 2 rfl) ?_
      refine va_get (D := g.1) (ci := 1) (v := .int (nI pc)) (C := RX1) (T := TX1) (N := 16) hx hb hts (by decide +kernel) hown hK.1 (xr_one hO) 0 rfl rfl 6 (by decide) (hts (.fieldLink RX1 118 "SharesDesk$Phase" "payerCount" "I") (by decide +kernel)) (fun _ h9 => h9) rfl dX1_countPayers_6 ?_
      refine lv_icmp_ge (tgt := 38) hx hb dX1_countPayers_9 (by decide) (fun hc => ?_) (fun hc => ?_)
      · clear hc
        refine lv_iload_n hx hb dX1_countPayers_38 rfl (lv_at hl 1 rfl) ?_
        exact xr_iret hx hb hr hlocks hS ⟨by rw [← h2]; rfl, rfl⟩ dX1_countPayers_39
      · exact absurd (nI_le (show pc ≤ i by omega) (by omega)) hc
    | succ n ih =>
      intro i k h1 h2 locs hS ls hl
      refine lv_iload_n hx hb dX1_countPayers_4 rfl (lv_at hl 0 rfl) ?_
      refine lv_aload_n hx hb dX1_countPayers_5 rfl (lv_at hl 2 rfl) ?_
      refine va_get (D := g.1) (ci := 1) (v := .int (nI pc)) (C := RX1) (T := TX1) (N := 16) hx hb hts (by decide +kernel) hown hK.1 (xr_one hO) 0 rfl rfl 6 (by decide) (hts (.fieldLink RX1 118 "SharesDesk$Phase" "payerCount" "I") (by decide +kernel)) (fun _ h9 => h9) rfl dX1_countPayers_6 ?_
      refine lv_icmp_ge (tgt := 38) hx hb dX1_countPayers_9 (by decide) (fun hc => ?_) (fun hc => ?_)
      · exact absurd ((nI_leI (by omega) (by omega)).mp hc) (by omega)
      · clear hc
        have hv := hpay i (by omega)
        refine lv_aload_n hx hb dX1_countPayers_12 rfl (lv_at hl 2 rfl) ?_
        refine va_get (D := g.1) (ci := 1) (v := .ref t) (C := RX1) (T := TX1) (N := 16) hx hb hts (by decide +kernel) hown hK.1 (xr_one hO) 0 rfl rfl 0 (by decide) (hts (.fieldLink RX1 51 "SharesDesk$Phase" "town" "LSharesDesk$Town;") (by decide +kernel)) (fun _ h9 => h9) rfl dX1_countPayers_13 ?_
        refine lv_aload_n hx hb dX1_countPayers_16 rfl (lv_at hl 2 rfl) ?_
        refine va_get (D := g.1) (ci := 1) (v := .ref (f + 6)) (C := RX1) (T := TX1) (N := 16) hx hb hts (by decide +kernel) hown hK.1 (xr_one hO) 0 rfl rfl 5 (by decide) (hts (.fieldLink RX1 29 "SharesDesk$Phase" "payers" "[I") (by decide +kernel)) (fun _ h9 => h9) rfl dX1_countPayers_17 ?_
        refine lv_iload_n hx hb dX1_countPayers_20 rfl (lv_at hl 0 rfl) ?_
        refine xr_rd hx hb hK hPy (show i < 48 by omega) (by decide) dX1_countPayers_21 ?_
        refine lv_iload_n hx hb dX1_countPayers_22 rfl (lv_at hl 3 rfl) ?_
        refine xr_Vi (rest := []) ⟨hx, hb, hml, hown, hts⟩ (KK_ok g) hK (c_X5_approves l g s.heap t c vs ap bu hT (pay i) p0 hv hp) (cwV 2 hts gX1_countPayers_X5_approves rfl rfl rfl (by decide +kernel) ⟨Nat.le_of_ble_eq_true rfl, Nat.le_of_ble_eq_true rfl⟩) (xr_rec hK hT.1 rfl) rfl hl.1 rfl (Nat.le_of_ble_eq_true rfl) dX1_countPayers_23 ⟨Nat.le_of_ble_eq_true rfl, Nat.le_of_ble_eq_true rfl⟩ hS (fun q h => h.elim) (fun r H locs hq hz hkp hS9 => ?_)
        obtain ⟨rfl, rfl⟩ := hq
        have hS := hS9
        refine lv_if_eq (tgt := 32) hx hb dX1_countPayers_26 (by decide) (fun hc => ?_) (fun hc => ?_)
        · have h8 := b2i_0.mp hc
          rw [supL_n h8] at h2
          refine lv_iinc (v := nI (i + 1)) (lv' := [(3, .int (nI (i + 1))), (2, .int (nI k)), (0, .ref f), (1, .int (nI p0))]) hx hb dX1_countPayers_32 hl (k := 0) rfl (nI_1 i) (by decide) rfl (fun ls hl => ?_)
          refine lv_goto (tgt := 4) hx hb dX1_countPayers_35 (by decide) ?_
          exact ih (i + 1) k (by omega) h2 locs hS ls (lv_sub hl [0, 1, 2, 3] rfl)
        · have h8 := b2i_n0.mp hc
          rw [supL_y h8, List.length_cons] at h2
          refine lv_iinc (v := nI (k + 1)) (lv' := [(2, .int (nI (k + 1))), (3, .int (nI i)), (0, .ref f), (1, .int (nI p0))]) hx hb dX1_countPayers_29 hl (k := 1) rfl (nI_1 k) (by decide) rfl (fun ls hl => ?_)
          refine lv_iinc (v := nI (i + 1)) (lv' := [(3, .int (nI (i + 1))), (2, .int (nI (k + 1))), (0, .ref f), (1, .int (nI p0))]) hx hb dX1_countPayers_32 hl (k := 1) rfl (nI_1 i) (by decide) rfl (fun ls hl => ?_)
          refine lv_goto (tgt := 4) hx hb dX1_countPayers_35 (by decide) ?_
          exact ih (i + 1) (k + 1) (by omega) (by omega) locs hS ls (lv_sub hl [0, 1, 2, 3] rfl)
  refine lv_iconst (v := 0) hx hb dX1_countPayers_0 (by decide) ?_
  refine xr_ti (x' := nI 0) rfl ?_
  refine lv_istore_n (lv' := [(2, .int (nI 0)), (0, .ref f), (1, .int (nI p0))]) hx hb dX1_countPayers_1 rfl hl (by decide) rfl (fun ls hl => ?_)
  refine lv_iconst (v := 0) hx hb dX1_countPayers_2 (by decide) ?_
  refine xr_ti (x' := nI 0) rfl ?_
  refine lv_istore_n (lv' := [(3, .int (nI 0)), (2, .int (nI 0)), (0, .ref f), (1, .int (nI p0))]) hx hb dX1_countPayers_3 rfl hl (by decide) rfl (fun ls hl => ?_)
  exact loop pc 0 0 (by omega) (by omega) [] hS ls (lv_sub hl [0, 1, 2, 3] rfl)
set_option maxHeartbeats 400000 in
set_option maxRecDepth 100000 in
theorem c_X1_overspends (l : Launch) (g : WG) (H0 : Heap) (t : Nat) (c : Nat → Nat) (vs : Nat) (ap : Nat → Nat) (bu : Nat) (hT : TownAt g H0 t c vs ap bu) (f pc pk ps co op bs tr : Nat) (hO : obj g H0 f 1 (phF f t pc pk ps co op bs tr)) (hft : t + 3 ≤ f ∨ f + 280 ≤ t) (hco : co < 2 ^ 31) : Ctr l (KK g) yX1_overspends wsX1_overspends { frames := 0, cells := 0, slots := 0, locals := 0 } [.ref f] H0 eI (fun r H => r = b2i (decide (bu < co)) ∧ H = H0) (fun _ => False) := by
  refine xr_enter (cc := cX1_overspends) (maxL := 1) (ret := (some .boolean)) (by decide) rfl (Nat.le_of_ble_eq_true rfl) ?_
  intro pgm env s mid below meth cde hx hb hr hml hts hown hlocks hnm hH hK ls hl
  subst hH
  have hl : lv_has ls 1 [(0, .ref f)] := hl
  have hS : va_S (fun _ => False) s.heap s.heap [] := va_S.rf
  have hbu := hT.2.2.2.2.2.2.2
  refine lv_aload_n hx hb dX1_overspends_0 rfl (lv_at hl 0 rfl) ?_
  refine va_get (D := g.1) (ci := 1) (v := .int (nI co)) (C := RX1) (T := TX1) (N := 16) hx hb hts (by decide +kernel) hown hK.1 (xr_one hO) 0 rfl rfl 10 (by decide) (hts (.fieldLink RX1 66 "SharesDesk$Phase" "cost" "I") (by decide +kernel)) (fun _ h9 => h9) rfl dX1_overspends_1 ?_
  refine lv_aload_n hx hb dX1_overspends_4 rfl (lv_at hl 0 rfl) ?_
  refine va_get (D := g.1) (ci := 1) (v := .ref t) (C := RX1) (T := TX1) (N := 16) hx hb hts (by decide +kernel) hown hK.1 (xr_one hO) 0 rfl rfl 0 (by decide) (hts (.fieldLink RX1 51 "SharesDesk$Phase" "town" "LSharesDesk$Town;") (by decide +kernel)) (fun _ h9 => h9) rfl dX1_overspends_5 ?_
  refine va_get (D := g.1) (ci := 5) (v := .int (nI bu)) (C := RX5) (T := TX5) (N := 4) hx hb hts (by decide +kernel) hown hK.1 (xr_one hT.1) 0 rfl rfl 3 (by decide) (hts (.fieldLink RX1 92 "SharesDesk$Town" "budget" "I") (by decide +kernel)) (fun _ h9 => h9) rfl dX1_overspends_8 ?_
  refine lv_icmp_le (tgt := 18) hx hb dX1_overspends_11 (by decide) (fun hc => ?_) (fun hc => ?_)
  · have h8 : ¬ bu < co := fun q => absurd ((nI_leI hco (by omega)).mp hc) (by omega)
    refine lv_iconst (v := 0) hx hb dX1_overspends_18 (by decide) ?_
    exact xr_zret hx hb hr rfl hlocks hS ⟨by rw [decide_eq_false h8]; rfl, rfl⟩ dX1_overspends_19
  · have h8 : bu < co := Nat.lt_of_not_le fun q => hc (nI_le q (by omega))
    refine lv_iconst (v := 1) hx hb dX1_overspends_14 (by decide) ?_
    refine lv_goto (tgt := 19) hx hb dX1_overspends_15 (by decide) ?_
    exact xr_zret hx hb hr rfl hlocks hS ⟨by rw [decide_eq_true h8]; rfl, rfl⟩ dX1_overspends_19
set_option maxHeartbeats 400000 in
set_option maxRecDepth 100000 in
theorem c_X1_swapShares (l : Launch) (g : WG) (H0 : Heap) (t : Nat) (f pc pk ps co op bs tr : Nat) (hO : obj g H0 f 1 (phF f t pc pk ps co op bs tr)) : Ctr l (KK g) yX1_swapShares wsX1_swapShares { frames := 0, cells := 0, slots := 0, locals := 0 } [.ref f] H0 eV (fun _ H => obj g H f 1 (phF f t pc pk ps co op tr bs)) (fun q => q = f) := by
  refine xr_enter (cc := cX1_swapShares) (maxL := 2) (ret := none) (by decide) rfl (Nat.le_of_ble_eq_true rfl) ?_
  intro pgm env s mid below meth cde hx hb hr hml hts hown hlocks hnm hH hK ls hl
  subst hH
  have hl : lv_has ls 2 [(0, .ref f)] := hl
  have hS : va_S (fun q => q = f) s.heap s.heap [] := va_S.rf
  refine lv_aload_n hx hb dX1_swapShares_0 rfl (lv_at hl 0 rfl) ?_
  refine va_get (D := g.1) (ci := 1) (v := .ref bs) (C := RX1) (T := TX1) (N := 16) hx hb hts (by decide +kernel) hown hK.1 (xr_one hO) 0 rfl rfl 14 (by decide) (hts (.fieldLink RX1 44 "SharesDesk$Phase" "best" "LSharesDesk$Share;") (by decide +kernel)) (fun _ h9 => h9) rfl dX1_swapShares_1 ?_
  refine lv_astore_n (lv' := [(1, .ref bs), (0, .ref f)]) hx hb dX1_swapShares_4 rfl hl (by decide) rfl (fun ls hl => ?_)
  refine lv_aload_n hx hb dX1_swapShares_5 rfl (lv_at hl 1 rfl) ?_
  refine lv_aload_n hx hb dX1_swapShares_6 rfl (lv_at hl 1 rfl) ?_
  refine va_get (D := g.1) (ci := 1) (v := .ref tr) (C := RX1) (T := TX1) (N := 16) hx hb hts (by decide +kernel) hown hK.1 (xr_one hO) 0 rfl rfl 15 (by decide) (hts (.fieldLink RX1 48 "SharesDesk$Phase" "tried" "LSharesDesk$Share;") (by decide +kernel)) (fun _ h9 => h9) rfl dX1_swapShares_7 ?_
  refine xr_put (ci := 1) (v := .ref tr) (ty := .object "SharesDesk$Share") (C := RX1) (T := TX1) (N := 16) hx hb hts (by decide +kernel) tyX1 tyX1_ok nmX1 hown hK.1 hO hS rfl rfl 14 (by decide) (hts (.fieldLink RX1 44 "SharesDesk$Phase" "best" "LSharesDesk$Share;") (by decide +kernel)) rfl (by decide +kernel) rfl rfl (Nat.le_of_ble_eq_true rfl) dX1_swapShares_10 (fun H locs hz hkp hO hS => ?_)
  refine lv_aload_n hx hb dX1_swapShares_13 rfl (lv_at hl 1 rfl) ?_
  refine lv_aload_n hx hb dX1_swapShares_14 rfl (lv_at hl 0 rfl) ?_
  refine xr_put (ci := 1) (v := .ref bs) (ty := .object "SharesDesk$Share") (C := RX1) (T := TX1) (N := 16) hx hb hts (by decide +kernel) tyX1 tyX1_ok nmX1 hown hK.1 hO hS rfl rfl 15 (by decide) (hts (.fieldLink RX1 48 "SharesDesk$Phase" "tried" "LSharesDesk$Share;") (by decide +kernel)) rfl (by decide +kernel) rfl rfl (Nat.le_of_ble_eq_true rfl) dX1_swapShares_15 (fun H locs hz hkp hO hS => ?_)
  exact xr_vret hx hb hr hlocks hS hO dX1_swapShares_18
set_option maxHeartbeats 400000 in
set_option maxRecDepth 100000 in
theorem c_X1_roundOf (l : Launch) (g : WG) (H0 : Heap) (t : Nat) (f pc pk ps co op bs tr : Nat) (hO : obj g H0 f 1 (phF f t pc pk ps co op bs tr)) (pik : Nat → Nat) (hpk : pk ≤ 16) (hpik : ∀ i, i < pk → pik i < 16) (hPi : xr_ia H0 (f + 7) (gI g) 16 (fun i => nI (pik i))) (i0 : Int32) : Ctr l (KK g) yX1_roundOf wsX1_roundOf { frames := 0, cells := 0, slots := 0, locals := 0 } [.ref f, .int i0] H0 eI (fun r H => r = rnd pik pk i0 ∧ H = H0) (fun _ => False) := by
  refine xr_enter (cc := cX1_roundOf) (maxL := 3) (ret := (some .int)) (by decide) rfl (Nat.le_of_ble_eq_true rfl) ?_
  intro pgm env s mid below meth cde hx hb hr hml hts hown hlocks hnm hH hK ls hl
  subst hH
  have hl : lv_has ls 3 [(0, .ref f), (1, .int i0)] := hl
  have hS : va_S (fun _ => False) s.heap s.heap [] := va_S.rf
  have loop : ∀ (n i : Nat), i + n = pk → (∀ j, j < i → nI (pik j) ≠ i0) → ∀ ls : Array Slot, lv_has ls 3 [(2, .int (nI i)), (0, .ref f), (1, .int i0)] → W pgm l env { frames := 0, cells := 0, slots := 0, locals := 0 } s mid ([.ref f, .int i0] : List Value).toArray below meth cde s.heap [] 0 0 (MQ below (xr_Post eI (fun r H => r = rnd pik pk i0 ∧ H = s.heap) (fun _ => False)) ([.ref f, .int i0] : List Value).toArray s ({ frames := 0, cells := 0, slots := 0, locals := 0 } : Room).cells ({ frames := 0, cells := 0, slots := 0, locals := 0 } : Room).slots (fun _ => False)) (F0 mid 2 ls []) := by
    intro n
    induction n with
    | zero =>
      intro i h1 h2 ls hl
      refine lv_iload_n hx hb dX1_roundOf_2 rfl (lv_at hl 0 rfl) ?_
      refine lv_aload_n hx hb dX1_roundOf_3 rfl (lv_at hl 1 rfl) ?_
      refine va_get (D := g.1) (ci := 1) (v := .int (nI pk)) (C := RX1) (T := TX1) (N := 16) hx hb hts (by decide +kernel) hown hK.1 (xr_one hO) 0 rfl rfl 8 (by decide) (hts (.fieldLink RX1 59 "SharesDesk$Phase" "picked" "I") (by decide +kernel)) (fun _ h9 => h9) rfl dX1_roundOf_4 ?_
      refine lv_icmp_ge (tgt := 28) hx hb dX1_roundOf_7 (by decide) (fun hc => ?_) (fun hc => ?_)
      · clear hc
        refine lv_iconst (v := (-1)) hx hb dX1_roundOf_28 (by decide) ?_
        exact xr_iret hx hb hr hlocks hS ⟨(rnd_no (fun j hj => h2 j (by omega))).symm, rfl⟩ dX1_roundOf_29
      · exact absurd (nI_le (show pk ≤ i by omega) (by omega)) hc
    | succ n ih =>
      intro i h1 h2 ls hl
      refine lv_iload_n hx hb dX1_roundOf_2 rfl (lv_at hl 0 rfl) ?_
      refine lv_aload_n hx hb dX1_roundOf_3 rfl (lv_at hl 1 rfl) ?_
      refine va_get (D := g.1) (ci := 1) (v := .int (nI pk)) (C := RX1) (T := TX1) (N := 16) hx hb hts (by decide +kernel) hown hK.1 (xr_one hO) 0 rfl rfl 8 (by decide) (hts (.fieldLink RX1 59 "SharesDesk$Phase" "picked" "I") (by decide +kernel)) (fun _ h9 => h9) rfl dX1_roundOf_4 ?_
      refine lv_icmp_ge (tgt := 28) hx hb dX1_roundOf_7 (by decide) (fun hc => ?_) (fun hc => ?_)
      · exact absurd ((nI_leI (by omega) (by omega)).mp hc) (by omega)
      · clear hc
        refine lv_aload_n hx hb dX1_roundOf_10 rfl (lv_at hl 1 rfl) ?_
        refine va_get (D := g.1) (ci := 1) (v := .ref (f + 7)) (C := RX1) (T := TX1) (N := 16) hx hb hts (by decide +kernel) hown hK.1 (xr_one hO) 0 rfl rfl 7 (by decide) (hts (.fieldLink RX1 32 "SharesDesk$Phase" "picks" "[I") (by decide +kernel)) (fun _ h9 => h9) rfl dX1_roundOf_11 ?_
        refine lv_iload_n hx hb dX1_roundOf_14 rfl (lv_at hl 0 rfl) ?_
        refine xr_rd hx hb hK hPi (show i < 16 by omega) (by decide) dX1_roundOf_15 ?_
        refine lv_iload_n hx hb dX1_roundOf_16 rfl (lv_at hl 2 rfl) ?_
        refine lv_icmp_ne (tgt := 22) hx hb dX1_roundOf_17 (by decide) (fun hc => ?_) (fun hc => ?_)
        · have h9 := hc
          refine lv_iinc (v := nI (i + 1)) (lv' := [(2, .int (nI (i + 1))), (0, .ref f), (1, .int i0)]) hx hb dX1_roundOf_22 hl (k := 0) rfl (nI_1 i) (by decide) rfl (fun ls hl => ?_)
          refine lv_goto (tgt := 2) hx hb dX1_roundOf_25 (by decide) ?_
          exact ih (i + 1) (by omega) (fun j hj => if e : j = i then by rw [e]; exact hc else h2 j (by omega)) ls (lv_sub hl [0, 1, 2] rfl)
        · have h9 := hc
          refine lv_iload_n hx hb dX1_roundOf_20 rfl (lv_at hl 0 rfl) ?_
          exact xr_iret hx hb hr hlocks hS ⟨(rnd_yes h2 (by omega) hc).symm, rfl⟩ dX1_roundOf_21
  refine lv_iconst (v := 0) hx hb dX1_roundOf_0 (by decide) ?_
  refine xr_ti (x' := nI 0) rfl ?_
  refine lv_istore_n (lv' := [(2, .int (nI 0)), (0, .ref f), (1, .int i0)]) hx hb dX1_roundOf_1 rfl hl (by decide) rfl (fun ls hl => ?_)
  exact loop pk 0 (by omega) (fun j hj => absurd hj (Nat.not_lt_zero j)) ls (lv_sub hl [0, 1, 2] rfl)
