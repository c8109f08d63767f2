/-! paying -/
theorem nI_or2 {a i : Nat} (hi : i < 31) : nI a ||| nI (2 ^ i) = nI (a ||| 2 ^ i) := nI_or
def nPur (ap : Nat → Nat) (p k r v x : Nat) : Nat := if (ap v).testBit p = true then x * k - r else x * k
def payP (pur pay ap : Nat → Nat) (p k r : Nat) : Nat → Nat → Nat
  | 0 => pur
  | i + 1 => va_up (payP pur pay ap p k r i) (pay i) (nPur ap p k r (pay i) (pur (pay i)))
def payL (pur las pay ap : Nat → Nat) (p k r : Nat) : Nat → Nat → Nat
  | 0 => las
  | i + 1 => if (ap (pay i)).testBit p = true ∧ pur (pay i) * k ≤ r then va_up (payL pur las pay ap p k r i) (pay i) (pur (pay i) * k) else payL pur las pay ap p k r i
def payE (pur emp pay ap : Nat → Nat) (p k r rd : Nat) : Nat → Nat → Nat
  | 0 => emp
  | i + 1 => if (ap (pay i)).testBit p = true ∧ pur (pay i) * k ≤ r then va_up (payE pur emp pay ap p k r rd i) (pay i) rd else payE pur emp pay ap p k r rd i
def payC (pur pay ap : Nat → Nat) (p k r : Nat) : Nat → (Nat → Nat) × Nat
  | 0 => (pay, 0)
  | i + 1 => if nPur ap p k r (pay i) (pur (pay i)) = 0 then payC pur pay ap p k r i else (va_up (payC pur pay ap p k r i).1 (payC pur pay ap p k r i).2 (pay i), (payC pur pay ap p k r i).2 + 1)
theorem payP_ne {pur pay ap : Nat → Nat} {p k r v : Nat} : ∀ n, (∀ i, i < n → pay i ≠ v) → payP pur pay ap p k r n v = pur v
  | 0, _ => rfl
  | n + 1, h => by
    rw [payP, va_up_ne _ _ (fun q => h n (Nat.lt_succ_self n) q.symm)]
    exact payP_ne n (fun i hi => h i (by omega))
theorem payC_le {pur pay ap : Nat → Nat} {p k r : Nat} : ∀ n, (payC pur pay ap p k r n).2 ≤ n
  | 0 => Nat.le_refl 0
  | n + 1 => by
    have := payC_le (pur := pur) (pay := pay) (ap := ap) (p := p) (k := k) (r := r) n
    rw [payC]
    split
    · omega
    · show _ + 1 ≤ n + 1
      omega
theorem payC_ge {pur pay ap : Nat → Nat} {p k r : Nat} : ∀ n j, n ≤ j → (payC pur pay ap p k r n).1 j = pay j
  | 0, _, _ => rfl
  | n + 1, j, h => by
    have h1 := payC_le (pur := pur) (pay := pay) (ap := ap) (p := p) (k := k) (r := r) n
    rw [payC]
    split
    · exact payC_ge n j (by omega)
    · show va_up _ _ _ j = _
      rw [va_up_ne _ _ (by omega)]
      exact payC_ge n j (by omega)
theorem ia_up {f : Nat → Nat} {k x : Nat} : upd (fun i => nI (f i)) k (nI x) = fun i => nI (va_up f k x i) := by
  funext j
  by_cases e : j = k
  · subst e
    rw [upd_at, va_up_self]
  · rw [upd_ne e, va_up_ne _ _ e]
theorem cmpI_le0 {x y : Nat} (h : cmpI x y ≤ 0) : x ≤ y := by
  unfold cmpI at h
  by_cases h1 : x < y
  · omega
  · rw [if_neg h1] at h
    by_cases h2 : x = y
    · omega
    · rw [if_neg h2] at h
      exact absurd h (by decide)
theorem cmpI_0le {x y : Nat} (h : x ≤ y) : cmpI x y ≤ 0 := by
  unfold cmpI
  by_cases h1 : x < y
  · rw [if_pos h1]
    decide
  · rw [if_neg h1, if_pos (by omega)]
    decide
set_option maxHeartbeats 400000 in
set_option maxRecDepth 100000 in
theorem c_X1_charge (l : Launch) (g : WG) (H0 : Heap) (t : Nat) (f pc pk ps co op bs tr : Nat) (hO : obj g H0 f 1 (phF f t pc pk ps co op bs tr)) (pur las rat emp : Nat → Nat) (hPu : PoolAt g H0 (f + 3) (f + 24) 48 pur) (hLa : PoolAt g H0 (f + 4) (f + 26) 48 las) (hRa : PoolAt g H0 (f + 8) (f + 216) 16 rat) (hEm : xr_ia H0 (f + 5) (gI g) 48 (fun i => nI (emp i))) (v rd : Nat) (hv : v < 48) (hrd : rd < 16) : Ctr l (KK g) yX1_charge wsX1_charge { frames := 2, cells := 0, slots := 0, locals := 61 } [.ref f, .int (nI v), .int (nI rd)] H0 eV (fun _ H => PoolAt g H (f + 3) (f + 24) 48 (va_up pur v (pur v - rat rd)) ∧ PoolAt g H (f + 4) (f + 26) 48 (if pur v ≤ rat rd then va_up las v (pur v) else las) ∧ xr_ia H (f + 5) (gI g) 48 (fun i => nI ((if pur v ≤ rat rd then va_up emp v rd else emp) i))) (fun q => q = f + 5 ∨ q = f + 24 + 4 * v + 1 ∨ q = f + 26 + 4 * v + 1) := by
  refine xr_enter (cc := cX1_charge) (maxL := 3) (ret := none) (by decide) rfl (Nat.le_of_ble_eq_true rfl) ?_
  intro pgm env s mid below meth cde hx hb hr hml hts hown hlocks hnm hH hK ls hl
  subst hH
  have hl : lv_has ls 3 [(0, .ref f), (1, .int (nI v)), (2, .int (nI rd))] := hl
  have hS : va_S (fun q => q = f + 5 ∨ q = f + 24 + 4 * v + 1 ∨ q = f + 26 + 4 * v + 1) s.heap s.heap [] := va_S.rf
  refine lv_aload_n hx hb dX1_charge_0 rfl (lv_at hl 0 rfl) ?_
  refine va_get (D := g.1) (ci := 1) (v := .ref (f + 3)) (C := RX1) (T := TX1) (N := 16) hx hb hts (by decide +kernel) hown hK.1 (xr_one hO) 0 rfl rfl 2 (by decide) (hts (.fieldLink RX1 18 "SharesDesk$Phase" "purses" "[LSharesDesk$Natural;") (by decide +kernel)) (fun _ h9 => h9) rfl dX1_charge_1 ?_
  refine lv_iload_n hx hb dX1_charge_4 rfl (lv_at hl 1 rfl) ?_
  refine xr_pl hx hb hK hPu hv (by decide) dX1_charge_5 ?_
  refine lv_aload_n hx hb dX1_charge_6 rfl (lv_at hl 0 rfl) ?_
  refine va_get (D := g.1) (ci := 1) (v := .ref (f + 8)) (C := RX1) (T := TX1) (N := 16) hx hb hts (by decide +kernel) hown hK.1 (xr_one hO) 0 rfl rfl 11 (by decide) (hts (.fieldLink RX1 35 "SharesDesk$Phase" "rates" "[LSharesDesk$Natural;") (by decide +kernel)) (fun _ h9 => h9) rfl dX1_charge_7 ?_
  refine lv_iload_n hx hb dX1_charge_10 rfl (lv_at hl 2 rfl) ?_
  refine xr_pl hx hb hK hRa hrd (by decide) dX1_charge_11 ?_
  refine xr_Vi (rest := []) ⟨hx, hb, hml, hown, hts⟩ (KK_ok g) hK (c_X0_against l g s.heap (f + 24 + 4 * v) (f + 216 + 4 * rd) (pur v) (rat rd) (hPu.2 v hv) (hRa.2 rd hrd)) (cwV 1 hts gX1_charge_X0_against rfl rfl rfl (by decide +kernel) ⟨Nat.le_of_ble_eq_true rfl, Nat.le_of_ble_eq_true rfl⟩) (xr_rec hK (hPu.2 v hv).1 rfl) rfl hl.1 rfl (Nat.le_of_ble_eq_true rfl) dX1_charge_12 ⟨Nat.le_of_ble_eq_true rfl, Nat.le_of_ble_eq_true rfl⟩ hS (fun q h => h.elim) (fun r H locs hq hz hkp hS9 => ?_)
  obtain ⟨rfl, rfl⟩ := hq
  have hS := hS9
  refine lv_if_le (tgt := 34) hx hb dX1_charge_15 (by decide) (fun hc => ?_) (fun hc => ?_)
  · have h9 : pur v ≤ rat rd := cmpI_le0 hc
    refine lv_aload_n hx hb dX1_charge_34 rfl (lv_at hl 0 rfl) ?_
    refine va_get (D := g.1) (ci := 1) (v := .ref (f + 4)) (C := RX1) (T := TX1) (N := 16) hx hb hts (by decide +kernel) hown hK.1 (xr_one hO) 0 rfl rfl 3 (by decide) (hts (.fieldLink RX1 22 "SharesDesk$Phase" "lastPays" "[LSharesDesk$Natural;") (by decide +kernel)) (fun _ h9 => h9) rfl dX1_charge_35 ?_
    refine lv_iload_n hx hb dX1_charge_38 rfl (lv_at hl 1 rfl) ?_
    refine xr_pl hx hb hK hLa hv (by decide) dX1_charge_39 ?_
    refine lv_aload_n hx hb dX1_charge_40 rfl (lv_at hl 0 rfl) ?_
    refine va_get (D := g.1) (ci := 1) (v := .ref (f + 3)) (C := RX1) (T := TX1) (N := 16) hx hb hts (by decide +kernel) hown hK.1 (xr_one hO) 0 rfl rfl 2 (by decide) (hts (.fieldLink RX1 18 "SharesDesk$Phase" "purses" "[LSharesDesk$Natural;") (by decide +kernel)) (fun _ h9 => h9) rfl dX1_charge_41 ?_
    refine lv_iload_n hx hb dX1_charge_44 rfl (lv_at hl 1 rfl) ?_
    refine xr_pl hx hb hK hPu hv (by decide) dX1_charge_45 ?_
    refine xr_Vv (rest := []) ⟨hx, hb, hml, hown, hts⟩ (KK_ok g) hK (c_X0_copy l g s.heap (f + 26 + 4 * v) (f + 24 + 4 * v) (las v) (pur v) (hLa.2 v hv) (hPu.2 v hv) (by omega)) (cwV 1 hts gX1_charge_X0_copy rfl rfl rfl (by decide +kernel) ⟨Nat.le_of_ble_eq_true rfl, Nat.le_of_ble_eq_true rfl⟩) (xr_rec hK (hLa.2 v hv).1 rfl) rfl hl.1 rfl (Nat.le_of_ble_eq_true rfl) dX1_charge_46 ⟨Nat.le_of_ble_eq_true rfl, Nat.le_of_ble_eq_true rfl⟩ hS (fun q h => Or.inr (Or.inr h)) (fun _ H locs hq hz hkp hS => ?_)
    replace hkp := fun (q : Nat) h1 (h2 : ¬ (q = f + 26 + 4 * v + 1)) => hkp q h1 h2
    clear hz
    replace hO := hO.kept (hkp _ hO.lt (by omega))
    replace hPu := hPu.kept (hkp _ hPu.1.lt (by omega)) (fun v hv => hkp _ (hPu.2 v hv).1.lt (by omega)) (fun v hv => hkp _ (hPu.2 v hv).2.1.lt (by omega))
    replace hRa := hRa.kept (hkp _ hRa.1.lt (by omega)) (fun v hv => hkp _ (hRa.2 v hv).1.lt (by omega)) (fun v hv => hkp _ (hRa.2 v hv).2.1.lt (by omega))
    replace hEm := hEm.kept (hkp _ hEm.lt (by omega))
    have hLa := hLa.put hq (hkp _ hLa.1.lt (by omega)) (fun u hu hne => hkp _ (hLa.2 u hu).1.lt (by omega)) (fun u hu hne => hkp _ (hLa.2 u hu).2.1.lt (by omega))
    refine lv_aload_n hx hb dX1_charge_49 rfl (lv_at hl 0 rfl) ?_
    refine va_get (D := g.1) (ci := 1) (v := .ref (f + 5)) (C := RX1) (T := TX1) (N := 16) hx hb hts (by decide +kernel) hown hK.1 (xr_one hO) 0 rfl rfl 4 (by decide) (hts (.fieldLink RX1 25 "SharesDesk$Phase" "emptiedIn" "[I") (by decide +kernel)) (fun _ h9 => h9) rfl dX1_charge_50 ?_
    refine lv_iload_n hx hb dX1_charge_53 rfl (lv_at hl 1 rfl) ?_
    refine lv_iload_n hx hb dX1_charge_54 rfl (lv_at hl 2 rfl) ?_
    refine xr_wr hx hb hK hS (Or.inl rfl) hEm hv (by decide) dX1_charge_55 (fun H locs hz hkp hEm hS => ?_)
    replace hO := hO.kept (hkp _ (by omega))
    replace hPu := hPu.kept (hkp _ (by omega)) (fun v hv => hkp _ (by omega)) (fun v hv => hkp _ (by omega))
    replace hRa := hRa.kept (hkp _ (by omega)) (fun v hv => hkp _ (by omega)) (fun v hv => hkp _ (by omega))
    replace hLa := hLa.kept (hkp _ (by omega)) (fun v hv => hkp _ (by omega)) (fun v hv => hkp _ (by omega))
    rw [ia_up] at hEm
    refine lv_aload_n hx hb dX1_charge_56 rfl (lv_at hl 0 rfl) ?_
    refine va_get (D := g.1) (ci := 1) (v := .ref (f + 3)) (C := RX1) (T := TX1) (N := 16) hx hb hts (by decide +kernel) hown hK.1 (xr_one hO) 0 rfl rfl 2 (by decide) (hts (.fieldLink RX1 18 "SharesDesk$Phase" "purses" "[LSharesDesk$Natural;") (by decide +kernel)) (fun _ h9 => h9) rfl dX1_charge_57 ?_
    refine lv_iload_n hx hb dX1_charge_60 rfl (lv_at hl 1 rfl) ?_
    refine xr_pl hx hb hK hPu hv (by decide) dX1_charge_61 ?_
    refine lv_iconst (v := 0) hx hb dX1_charge_62 (by decide) ?_
    refine xr_ti (x' := nI 0) rfl ?_
    refine xr_Vv (rest := []) ⟨hx, hb, hml, hown, hts⟩ (KK_ok g) hK (c_X0_set l g H (f + 24 + 4 * v) (pur v) 0 (hPu.2 v hv) (by decide)) (cwV 1 hts gX1_charge_X0_set rfl rfl rfl (by decide +kernel) ⟨Nat.le_of_ble_eq_true rfl, Nat.le_of_ble_eq_true rfl⟩) (xr_rec hK (hPu.2 v hv).1 rfl) rfl hl.1 rfl (Nat.le_of_ble_eq_true rfl) dX1_charge_63 ⟨Nat.le_of_ble_eq_true rfl, Nat.le_of_ble_eq_true rfl⟩ hS (fun q h => Or.inr (Or.inl h)) (fun _ H locs hq hz hkp hS => ?_)
    replace hkp := fun (q : Nat) h1 (h2 : ¬ (q = f + 24 + 4 * v + 1)) => hkp q h1 h2
    clear hz
    replace hO := hO.kept (hkp _ hO.lt (by omega))
    replace hRa := hRa.kept (hkp _ hRa.1.lt (by omega)) (fun v hv => hkp _ (hRa.2 v hv).1.lt (by omega)) (fun v hv => hkp _ (hRa.2 v hv).2.1.lt (by omega))
    replace hLa := hLa.kept (hkp _ hLa.1.lt (by omega)) (fun v hv => hkp _ (hLa.2 v hv).1.lt (by omega)) (fun v hv => hkp _ (hLa.2 v hv).2.1.lt (by omega))
    replace hEm := hEm.kept (hkp _ hEm.lt (by omega))
    have hPu := hPu.put hq (hkp _ hPu.1.lt (by omega)) (fun u hu hne => hkp _ (hPu.2 u hu).1.lt (by omega)) (fun u hu hne => hkp _ (hPu.2 u hu).2.1.lt (by omega))
    exact xr_vret hx hb hr hlocks hS ⟨by rw [Nat.sub_eq_zero_of_le h9]; exact hPu, by rw [if_pos h9]; exact hLa, by rw [if_pos h9]; exact hEm⟩ dX1_charge_66
  · have h9 : ¬ pur v ≤ rat rd := fun q => hc (cmpI_0le q)
    refine lv_aload_n hx hb dX1_charge_18 rfl (lv_at hl 0 rfl) ?_
    refine va_get (D := g.1) (ci := 1) (v := .ref (f + 3)) (C := RX1) (T := TX1) (N := 16) hx hb hts (by decide +kernel) hown hK.1 (xr_one hO) 0 rfl rfl 2 (by decide) (hts (.fieldLink RX1 18 "SharesDesk$Phase" "purses" "[LSharesDesk$Natural;") (by decide +kernel)) (fun _ h9 => h9) rfl dX1_charge_19 ?_
    refine lv_iload_n hx hb dX1_charge_22 rfl (lv_at hl 1 rfl) ?_
    refine xr_pl hx hb hK hPu hv (by decide) dX1_charge_23 ?_
    refine lv_aload_n hx hb dX1_charge_24 rfl (lv_at hl 0 rfl) ?_
    refine va_get (D := g.1) (ci := 1) (v := .ref (f + 8)) (C := RX1) (T := TX1) (N := 16) hx hb hts (by decide +kernel) hown hK.1 (xr_one hO) 0 rfl rfl 11 (by decide) (hts (.fieldLink RX1 35 "SharesDesk$Phase" "rates" "[LSharesDesk$Natural;") (by decide +kernel)) (fun _ h9 => h9) rfl dX1_charge_25 ?_
    refine lv_iload_n hx hb dX1_charge_28 rfl (lv_at hl 2 rfl) ?_
    refine xr_pl hx hb hK hRa hrd (by decide) dX1_charge_29 ?_
    refine xr_Vv (rest := []) ⟨hx, hb, hml, hown, hts⟩ (KK_ok g) hK (c_X0_minus l g s.heap (f + 24 + 4 * v) (f + 216 + 4 * rd) (pur v) (rat rd) (hPu.2 v hv) (hRa.2 rd hrd) (by omega) (by omega) (by omega)) (cwV 1 hts gX1_charge_X0_minus rfl rfl rfl (by decide +kernel) ⟨Nat.le_of_ble_eq_true rfl, Nat.le_of_ble_eq_true rfl⟩) (xr_rec hK (hPu.2 v hv).1 rfl) rfl hl.1 rfl (Nat.le_of_ble_eq_true rfl) dX1_charge_30 ⟨Nat.le_of_ble_eq_true rfl, Nat.le_of_ble_eq_true rfl⟩ hS (fun q h => Or.inr (Or.inl h)) (fun _ H locs hq hz hkp hS => ?_)
    replace hkp := fun (q : Nat) h1 (h2 : ¬ (q = f + 24 + 4 * v + 1)) => hkp q h1 h2
    clear hz
    replace hO := hO.kept (hkp _ hO.lt (by omega))
    replace hLa := hLa.kept (hkp _ hLa.1.lt (by omega)) (fun v hv => hkp _ (hLa.2 v hv).1.lt (by omega)) (fun v hv => hkp _ (hLa.2 v hv).2.1.lt (by omega))
    replace hRa := hRa.kept (hkp _ hRa.1.lt (by omega)) (fun v hv => hkp _ (hRa.2 v hv).1.lt (by omega)) (fun v hv => hkp _ (hRa.2 v hv).2.1.lt (by omega))
    replace hEm := hEm.kept (hkp _ hEm.lt (by omega))
    have hPu := hPu.put hq (hkp _ hPu.1.lt (by omega)) (fun u hu hne => hkp _ (hPu.2 u hu).1.lt (by omega)) (fun u hu hne => hkp _ (hPu.2 u hu).2.1.lt (by omega))
    exact xr_vret hx hb hr hlocks hS ⟨hPu, by rw [if_neg h9]; exact hLa, by rw [if_neg h9]; exact hEm⟩ dX1_charge_33
