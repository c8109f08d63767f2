/-! the purses, filled -/
def vlG (pay : Nat → Nat) (vs : Nat) : Nat → (Nat → Nat) × Nat
  | 0 => (pay, 0)
  | v + 1 => if vs.testBit v = true then (va_up (vlG pay vs v).1 (vlG pay vs v).2 v, (vlG pay vs v).2 + 1) else vlG pay vs v
def puG (pur : Nat → Nat) (vs x : Nat) : Nat → Nat → Nat
  | 0 => pur
  | v + 1 => if vs.testBit v = true then va_up (puG pur vs x v) v x else puG pur vs x v
def emG (emp : Nat → Nat) : Nat → Nat → Nat
  | 0 => emp
  | v + 1 => va_up (emG emp v) v 16
theorem vlG_le {pay : Nat → Nat} {vs : Nat} : ∀ n, (vlG pay vs n).2 ≤ n
  | 0 => Nat.le_refl 0
  | n + 1 => by
    have := vlG_le (pay := pay) (vs := vs) n
    rw [vlG]
    split
    · show _ + 1 ≤ n + 1
      omega
    · omega
theorem cnt_le (x : Nat) : ∀ n, cnt x n ≤ n
  | 0 => Nat.le_refl 0
  | n + 1 => by
    have := cnt_le x n
    have h2 : x / 2 ^ n % 2 < 2 := Nat.mod_lt _ (by decide)
    show cnt x n + x / 2 ^ n % 2 ≤ n + 1
    omega
theorem max1 {n : Nat} (h : n < 2 ^ 31) : (if nI n < 1 then (1 : Int32) else nI n) = nI (if n = 0 then 1 else n) := by
  by_cases e : n = 0
  · subst e
    decide
  · rw [if_neg e, if_neg]
    exact nI_nlt (show 1 ≤ n by omega) h
set_option maxHeartbeats 1000000 in
set_option maxRecDepth 100000 in
theorem c_X1_fillPurses (l : Launch) (g : WG) (H0 : Heap) (t : Nat) (c : Nat → Nat) (vs : Nat) (ap : Nat → Nat) (bu : Nat) (f pc pk ps co op bs tr B : Nat) (pur las emp pay pik rat bas : Nat → Nat) (rb kb rt kt : Nat) (hO : obj g H0 f 1 (phF f t pc pk ps co op bs tr)) (hT : TownAt g H0 t c vs ap bu) (hBa : NatAt g H0 (f + 1) B) (hPu : PoolAt g H0 (f + 3) (f + 24) 48 pur) (hLa : PoolAt g H0 (f + 4) (f + 26) 48 las) (hEm : xr_ia H0 (f + 5) (gI g) 48 (fun z9 => nI (emp z9))) (hPy : xr_ia H0 (f + 6) (gI g) 48 (fun z9 => nI (pay z9))) (hPi : xr_ia H0 (f + 7) (gI g) 16 (fun z9 => nI (pik z9))) (hRa : PoolAt g H0 (f + 8) (f + 216) 16 rat) (hBb : PoolAt g H0 (f + 9) (f + 218) 16 bas) (hBs : ShareAt g H0 bs rb kb) (hTr : ShareAt g H0 tr rt kt) (hft : t + 3 ≤ f ∨ f + 280 ≤ t) (htb : (tr = f + 10 ∧ bs = f + 17 ∨ tr = f + 17 ∧ bs = f + 10)) (rz : Nat) (hrz : rz ≤ 10000000) : Ctr l (KK g) yX1_fillPurses wsX1_fillPurses { frames := 2, cells := 0, slots := 0, locals := 44 } [.ref f, .int (nI rz)] H0 eV (fun _ H => obj g H f 1 (phF f t ((vlG pay vs 48).2) pk ps co op bs tr) ∧ NatAt g H (f + 1) ((if cnt vs 48 = 0 then 1 else cnt vs 48)) ∧ PoolAt g H (f + 3) (f + 24) 48 (puG pur vs (bu + cnt vs 48 * rz) 48) ∧ PoolAt g H (f + 4) (f + 26) 48 las ∧ xr_ia H (f + 5) (gI g) 48 (fun z9 => nI ((emG emp 48) z9)) ∧ xr_ia H (f + 6) (gI g) 48 (fun z9 => nI (((vlG pay vs 48).1) z9)) ∧ xr_ia H (f + 7) (gI g) 16 (fun z9 => nI (pik z9)) ∧ PoolAt g H (f + 8) (f + 216) 16 rat ∧ PoolAt g H (f + 9) (f + 218) 16 bas ∧ ShareAt g H bs rb kb ∧ ShareAt g H tr rt kt) (fun q => f ≤ q ∧ q < f + 280) := by
  refine xr_enter (cc := cX1_fillPurses) (maxL := 4) (ret := none) (by decide) rfl (Nat.le_of_ble_eq_true rfl) ?_
  intro pgm env s mid below meth cde hx hb hr hml hts hown hlocks hnm hH hK ls hl
  subst hH
  have hl : lv_has ls 4 [(0, .ref f), (1, .int (nI rz))] := hl
  have hS : va_S (fun q => f ≤ q ∧ q < f + 280) s.heap s.heap [] := va_S.rf
  have hn48 := cnt_le vs 48
  have hbu := hT.2.2.2.2.2.2
  have hnr : cnt vs 48 * rz ≤ 48 * 10000000 := Nat.mul_le_mul hn48 hrz
  have loop : ∀ (n v : Nat), v + n = 48 → ∀ (H : Heap) (locs : List Loc), obj g H f 1 (phF f t ((vlG pay vs v).2) pk ps co op bs tr) → TownAt g H t c vs ap bu → NatAt g H (f + 1) ((if cnt vs 48 = 0 then 1 else cnt vs 48)) → PoolAt g H (f + 3) (f + 24) 48 (puG pur vs (bu + cnt vs 48 * rz) v) → PoolAt g H (f + 4) (f + 26) 48 las → xr_ia H (f + 5) (gI g) 48 (fun z9 => nI ((emG emp v) z9)) → xr_ia H (f + 6) (gI g) 48 (fun z9 => nI (((vlG pay vs v).1) z9)) → xr_ia H (f + 7) (gI g) 16 (fun z9 => nI (pik z9)) → PoolAt g H (f + 8) (f + 216) 16 rat → PoolAt g H (f + 9) (f + 218) 16 bas → ShareAt g H bs rb kb → ShareAt g H tr rt kt → va_S (fun q => f ≤ q ∧ q < f + 280) s.heap H locs → ∀ ls : Array Slot, lv_has ls 4 [(3, .int (nI v)), (2, .int (nI (cnt vs 48))), (0, .ref f), (1, .int (nI rz))] → W pgm l env { frames := 2, cells := 0, slots := 0, locals := 44 } s mid ([.ref f, .int (nI rz)] : List Value).toArray below meth cde H locs 0 0 (MQ below (xr_Post eV (fun _ H => obj g H f 1 (phF f t ((vlG pay vs 48).2) pk ps co op bs tr) ∧ NatAt g H (f + 1) ((if cnt vs 48 = 0 then 1 else cnt vs 48)) ∧ PoolAt g H (f + 3) (f + 24) 48 (puG pur vs (bu + cnt vs 48 * rz) 48) ∧ PoolAt g H (f + 4) (f + 26) 48 las ∧ xr_ia H (f + 5) (gI g) 48 (fun z9 => nI ((emG emp 48) z9)) ∧ xr_ia H (f + 6) (gI g) 48 (fun z9 => nI (((vlG pay vs 48).1) z9)) ∧ xr_ia H (f + 7) (gI g) 16 (fun z9 => nI (pik z9)) ∧ PoolAt g H (f + 8) (f + 216) 16 rat ∧ PoolAt g H (f + 9) (f + 218) 16 bas ∧ ShareAt g H bs rb kb ∧ ShareAt g H tr rt kt) (fun q => f ≤ q ∧ q < f + 280)) ([.ref f, .int (nI rz)] : List Value).toArray s ({ frames := 2, cells := 0, slots := 0, locals := 44 } : Room).cells ({ frames := 2, cells := 0, slots := 0, locals := 44 } : Room).slots (fun q => f ≤ q ∧ q < f + 280)) (F0 mid 27 ls []) := by
    intro n
    induction n with
    | zero =>
      intro v h1 H locs hO hT hBa hPu hLa hEm hPy hPi hRa hBb hBs hTr hS ls hl
      refine lv_iload_n hx hb dX1_fillPurses_27 rfl (lv_at hl 0 rfl) ?_
      refine lv_bipush (v := 48) hx hb dX1_fillPurses_28 (by decide) ?_
      refine lv_icmp_ge (tgt := 95) hx hb dX1_fillPurses_30 (by decide) (fun hc => ?_) (fun hc => ?_)
      · have e : v = 48 := by omega
        subst e
        exact xr_vret hx hb hr hlocks hS ⟨hO, hBa, hPu, hLa, hEm, hPy, hPi, hRa, hBb, hBs, hTr⟩ dX1_fillPurses_95
      · exact absurd (nI_le (show 48 ≤ v by omega) (by omega)) hc
    | succ n ih =>
      intro v h1 H locs hO hT hBa hPu hLa hEm hPy hPi hRa hBb hBs hTr hS ls hl
      refine lv_iload_n hx hb dX1_fillPurses_27 rfl (lv_at hl 0 rfl) ?_
      refine lv_bipush (v := 48) hx hb dX1_fillPurses_28 (by decide) ?_
      refine lv_icmp_ge (tgt := 95) hx hb dX1_fillPurses_30 (by decide) (fun hc => ?_) (fun hc => ?_)
      · exact absurd ((nI_leI (a := 48) (b := v) (by decide) (by omega)).mp hc) (by omega)
      · clear hc
        have hv : v < 48 := by omega
        have hle := vlG_le (pay := pay) (vs := vs) v
        refine lv_aload_n hx hb dX1_fillPurses_33 rfl (lv_at hl 2 rfl) ?_
        refine va_get (D := g.1) (ci := 1) (v := .ref (f + 5)) (C := RX1) (T := TX1) (N := 16) hx hb hts (by decide +kernel) hown hK.1 (xr_one hO) 0 rfl rfl 4 (by decide) (hts (.fieldLink RX1 25 "SharesDesk$Phase" "emptiedIn" "[I") (by decide +kernel)) (fun _ h9 => h9) rfl dX1_fillPurses_34 ?_
        refine lv_iload_n hx hb dX1_fillPurses_37 rfl (lv_at hl 0 rfl) ?_
        refine lv_bipush (v := 16) hx hb dX1_fillPurses_38 (by decide) ?_
        refine xr_ti (x' := nI 16) rfl ?_
        refine xr_wr hx hb hK hS (show f ≤ f + 5 ∧ f + 5 < f + 280 by omega) hEm hv (by decide) dX1_fillPurses_40 (fun H locs hz hkp hEm hS => ?_)
        replace hO := hO.kept (hkp _ (by omega))
        replace hT := hT.kept (fun q hq1 hq2 hq3 => hkp q (by omega))
        replace hBa := hBa.kept (hkp _ (by omega)) (hkp _ (by omega))
        replace hPu := hPu.kept (hkp _ (by omega)) (fun v hv => hkp _ (by omega)) (fun v hv => hkp _ (by omega))
        replace hLa := hLa.kept (hkp _ (by omega)) (fun v hv => hkp _ (by omega)) (fun v hv => hkp _ (by omega))
        replace hPy := hPy.kept (hkp _ (by omega))
        replace hPi := hPi.kept (hkp _ (by omega))
        replace hRa := hRa.kept (hkp _ (by omega)) (fun v hv => hkp _ (by omega)) (fun v hv => hkp _ (by omega))
        replace hBb := hBb.kept (hkp _ (by omega)) (fun v hv => hkp _ (by omega)) (fun v hv => hkp _ (by omega))
        replace hBs := hBs.kept (fun q hq1 hq2 hq3 => hkp q (by omega))
        replace hTr := hTr.kept (fun q hq1 hq2 hq3 => hkp q (by omega))
        rw [ia_up] at hEm
        refine lv_aload_n hx hb dX1_fillPurses_41 rfl (lv_at hl 2 rfl) ?_
        refine va_get (D := g.1) (ci := 1) (v := .ref t) (C := RX1) (T := TX1) (N := 16) hx hb hts (by decide +kernel) hown hK.1 (xr_one hO) 0 rfl rfl 0 (by decide) (hts (.fieldLink RX1 51 "SharesDesk$Phase" "town" "LSharesDesk$Town;") (by decide +kernel)) (fun _ h9 => h9) rfl dX1_fillPurses_42 ?_
        refine lv_iload_n hx hb dX1_fillPurses_45 rfl (lv_at hl 0 rfl) ?_
        refine xr_Vi (rest := []) ⟨hx, hb, hml, hown, hts⟩ (KK_ok g) hK (c_X5_hasVoter l g H t c vs ap bu hT (nI v)) (cwV 1 hts gX1_fillPurses_X5_hasVoter rfl rfl rfl (by decide +kernel) ⟨Nat.le_of_ble_eq_true rfl, Nat.le_of_ble_eq_true rfl⟩) (xr_rec hK hT.1 rfl) rfl hl.1 rfl (Nat.le_of_ble_eq_true rfl) dX1_fillPurses_46 ⟨Nat.le_of_ble_eq_true rfl, Nat.le_of_ble_eq_true rfl⟩ hS (fun q h => h.elim) (fun r H locs hq hz hkp hS9 => ?_)
        obtain ⟨rfl, rfl⟩ := hq
        have hS := hS9
        refine xr_ti (x' := b2i (vs.testBit v)) (by rw [inR_yes hv (by decide), ix_nI (by omega), Bool.true_and]) ?_
        refine lv_if_eq (tgt := 89) hx hb dX1_fillPurses_49 (by decide) (fun hc => ?_) (fun hc => ?_)
        · have h8 := b2i_0.mp hc
          refine lv_iinc (v := nI (v + 1)) (lv' := [(3, .int (nI (v + 1))), (2, .int (nI (cnt vs 48))), (0, .ref f), (1, .int (nI rz))]) hx hb dX1_fillPurses_89 hl (k := 0) rfl (nI_1 v) (by decide) rfl (fun ls hl => ?_)
          refine lv_goto (tgt := 27) hx hb dX1_fillPurses_92 (by decide) ?_
          exact ih (v + 1) (by omega) H locs (by rw [vlG, if_neg (by rw [h8]; decide)]; exact hO) hT hBa (by rw [puG, if_neg (by rw [h8]; decide)]; exact hPu) hLa hEm (by rw [vlG, if_neg (by rw [h8]; decide)]; exact hPy) hPi hRa hBb hBs hTr hS ls (lv_sub hl [0, 1, 2, 3] rfl)
        · have h8 := b2i_n0.mp hc
          refine lv_aload_n hx hb dX1_fillPurses_52 rfl (lv_at hl 2 rfl) ?_
          refine va_get (D := g.1) (ci := 1) (v := .ref (f + 3)) (C := RX1) (T := TX1) (N := 16) hx hb hts (by decide +kernel) hown hK.1 (xr_one hO) 0 rfl rfl 2 (by decide) (hts (.fieldLink RX1 18 "SharesDesk$Phase" "purses" "[LSharesDesk$Natural;") (by decide +kernel)) (fun _ h9 => h9) rfl dX1_fillPurses_53 ?_
          refine lv_iload_n hx hb dX1_fillPurses_56 rfl (lv_at hl 0 rfl) ?_
          refine xr_pl hx hb hK hPu hv (by decide) dX1_fillPurses_57 ?_
          refine lv_aload_n hx hb dX1_fillPurses_58 rfl (lv_at hl 2 rfl) ?_
          refine va_get (D := g.1) (ci := 1) (v := .ref t) (C := RX1) (T := TX1) (N := 16) hx hb hts (by decide +kernel) hown hK.1 (xr_one hO) 0 rfl rfl 0 (by decide) (hts (.fieldLink RX1 51 "SharesDesk$Phase" "town" "LSharesDesk$Town;") (by decide +kernel)) (fun _ h9 => h9) rfl dX1_fillPurses_59 ?_
          refine va_get (D := g.1) (ci := 5) (v := .int (nI bu)) (C := RX5) (T := TX5) (N := 4) hx hb hts (by decide +kernel) hown hK.1 (xr_one hT.1) 0 rfl rfl 3 (by decide) (hts (.fieldLink RX1 92 "SharesDesk$Town" "budget" "I") (by decide +kernel)) (fun _ h9 => h9) rfl dX1_fillPurses_62 ?_
          refine lv_iload_n hx hb dX1_fillPurses_65 rfl (lv_at hl 1 rfl) ?_
          refine lv_iload_n hx hb dX1_fillPurses_66 rfl (lv_at hl 3 rfl) ?_
          refine lv_imul hx hb dX1_fillPurses_67 ?_
          refine xr_ti (x' := nI (cnt vs 48 * rz)) (pk_mul _ _) ?_
          refine lv_iadd hx hb dX1_fillPurses_68 ?_
          refine xr_ti (x' := nI (bu + cnt vs 48 * rz)) (nI_add _ _) ?_
          refine xr_Vv (rest := []) ⟨hx, hb, hml, hown, hts⟩ (KK_ok g) hK (c_X0_set l g H (f + 24 + 4 * v) (puG pur vs (bu + cnt vs 48 * rz) v v) (bu + cnt vs 48 * rz) (hPu.2 v hv) (by omega)) (cwV 1 hts gX1_fillPurses_X0_set rfl rfl rfl (by decide +kernel) ⟨Nat.le_of_ble_eq_true rfl, Nat.le_of_ble_eq_true rfl⟩) (xr_rec hK (hPu.2 v hv).1 rfl) rfl hl.1 rfl (Nat.le_of_ble_eq_true rfl) dX1_fillPurses_69 ⟨Nat.le_of_ble_eq_true rfl, Nat.le_of_ble_eq_true rfl⟩ hS (fun q h => by have h : q = f + 24 + 4 * v + 1 := h; show f ≤ q ∧ q < f + 280; omega) (fun _ H locs hq hz hkp hS => ?_)
          replace hkp := fun (q : Nat) h1 (h2 : ¬ (q = f + 24 + 4 * v + 1)) => hkp q h1 h2
          replace hO := hO.kept (hkp _ hO.lt (by omega))
          replace hT := hT.kept (fun q hq1 hq2 hq3 => hkp q hq1 (by omega))
          replace hBa := hBa.kept (hkp _ hBa.1.lt (by omega)) (hkp _ hBa.2.1.lt (by omega))
          replace hLa := hLa.kept (hkp _ hLa.1.lt (by omega)) (fun v hv => hkp _ (hLa.2 v hv).1.lt (by omega)) (fun v hv => hkp _ (hLa.2 v hv).2.1.lt (by omega))
          replace hPy := hPy.kept (hkp _ hPy.lt (by omega))
          replace hPi := hPi.kept (hkp _ hPi.lt (by omega))
          replace hRa := hRa.kept (hkp _ hRa.1.lt (by omega)) (fun v hv => hkp _ (hRa.2 v hv).1.lt (by omega)) (fun v hv => hkp _ (hRa.2 v hv).2.1.lt (by omega))
          replace hBb := hBb.kept (hkp _ hBb.1.lt (by omega)) (fun v hv => hkp _ (hBb.2 v hv).1.lt (by omega)) (fun v hv => hkp _ (hBb.2 v hv).2.1.lt (by omega))
          replace hBs := hBs.kept (fun q hq1 hq2 hq3 => hkp q hq1 (by omega))
          replace hTr := hTr.kept (fun q hq1 hq2 hq3 => hkp q hq1 (by omega))
          replace hEm := hEm.kept (hkp _ hEm.lt (by omega))
          replace hPu := hPu.put hq (hkp _ hPu.1.lt (by omega)) (fun u hu hne => hkp _ (hPu.2 u hu).1.lt (by omega)) (fun u hu hne => hkp _ (hPu.2 u hu).2.1.lt (by omega))
          refine lv_aload_n hx hb dX1_fillPurses_72 rfl (lv_at hl 2 rfl) ?_
          refine va_get (D := g.1) (ci := 1) (v := .ref (f + 6)) (C := RX1) (T := TX1) (N := 16) hx hb hts (by decide +kernel) hown hK.1 (xr_one hO) 0 rfl rfl 5 (by decide) (hts (.fieldLink RX1 29 "SharesDesk$Phase" "payers" "[I") (by decide +kernel)) (fun _ h9 => h9) rfl dX1_fillPurses_73 ?_
          refine lv_aload_n hx hb dX1_fillPurses_76 rfl (lv_at hl 2 rfl) ?_
          refine lv_dup hx hb dX1_fillPurses_77 rfl ?_
          refine va_get (D := g.1) (ci := 1) (v := .int (nI ((vlG pay vs v).2))) (C := RX1) (T := TX1) (N := 16) hx hb hts (by decide +kernel) hown hK.1 (xr_one hO) 0 rfl rfl 6 (by decide) (hts (.fieldLink RX1 118 "SharesDesk$Phase" "payerCount" "I") (by decide +kernel)) (fun _ h9 => h9) rfl dX1_fillPurses_78 ?_
          refine lv_dup_x1 hx hb dX1_fillPurses_81 rfl rfl ?_
          refine lv_iconst (v := 1) hx hb dX1_fillPurses_82 (by decide) ?_
          refine lv_iadd hx hb dX1_fillPurses_83 ?_
          refine xr_ti (x' := nI ((vlG pay vs v).2 + 1)) (nI_1 _) ?_
          refine xr_put (ci := 1) (v := .int (nI ((vlG pay vs v).2 + 1))) (ty := .int) (C := RX1) (T := TX1) (N := 16) hx hb hts (by decide +kernel) tyX1 tyX1_ok nmX1 hown hK.1 hO hS (show f ≤ f ∧ f < f + 280 by omega) rfl 6 (by decide) (hts (.fieldLink RX1 118 "SharesDesk$Phase" "payerCount" "I") (by decide +kernel)) rfl (by decide +kernel) rfl rfl (Nat.le_of_ble_eq_true rfl) dX1_fillPurses_84 (fun H locs hz hkp hO hS => ?_)
          replace hT := hT.kept (fun q hq1 hq2 hq3 => hkp q (by omega))
          replace hBa := hBa.kept (hkp _ (by omega)) (hkp _ (by omega))
          replace hLa := hLa.kept (hkp _ (by omega)) (fun v hv => hkp _ (by omega)) (fun v hv => hkp _ (by omega))
          replace hPy := hPy.kept (hkp _ (by omega))
          replace hPi := hPi.kept (hkp _ (by omega))
          replace hRa := hRa.kept (hkp _ (by omega)) (fun v hv => hkp _ (by omega)) (fun v hv => hkp _ (by omega))
          replace hBb := hBb.kept (hkp _ (by omega)) (fun v hv => hkp _ (by omega)) (fun v hv => hkp _ (by omega))
          replace hBs := hBs.kept (fun q hq1 hq2 hq3 => hkp q (by omega))
          replace hTr := hTr.kept (fun q hq1 hq2 hq3 => hkp q (by omega))
          replace hEm := hEm.kept (hkp _ (by omega))
          replace hPu := hPu.kept (hkp _ (by omega)) (fun v hv => hkp _ (by omega)) (fun v hv => hkp _ (by omega))
          refine lv_iload_n hx hb dX1_fillPurses_87 rfl (lv_at hl 0 rfl) ?_
          refine xr_wr hx hb hK hS (show f ≤ f + 6 ∧ f + 6 < f + 280 by omega) hPy (show (vlG pay vs v).2 < 48 by omega) (by decide) dX1_fillPurses_88 (fun H locs hz hkp hPy hS => ?_)
          replace hT := hT.kept (fun q hq1 hq2 hq3 => hkp q (by omega))
          replace hBa := hBa.kept (hkp _ (by omega)) (hkp _ (by omega))
          replace hLa := hLa.kept (hkp _ (by omega)) (fun v hv => hkp _ (by omega)) (fun v hv => hkp _ (by omega))
          replace hPi := hPi.kept (hkp _ (by omega))
          replace hRa := hRa.kept (hkp _ (by omega)) (fun v hv => hkp _ (by omega)) (fun v hv => hkp _ (by omega))
          replace hBb := hBb.kept (hkp _ (by omega)) (fun v hv => hkp _ (by omega)) (fun v hv => hkp _ (by omega))
          replace hBs := hBs.kept (fun q hq1 hq2 hq3 => hkp q (by omega))
          replace hTr := hTr.kept (fun q hq1 hq2 hq3 => hkp q (by omega))
          replace hEm := hEm.kept (hkp _ (by omega))
          replace hPu := hPu.kept (hkp _ (by omega)) (fun v hv => hkp _ (by omega)) (fun v hv => hkp _ (by omega))
          replace hO := hO.kept (hkp _ (by omega))
          rw [ia_up] at hPy
          refine lv_iinc (v := nI (v + 1)) (lv' := [(3, .int (nI (v + 1))), (2, .int (nI (cnt vs 48))), (0, .ref f), (1, .int (nI rz))]) hx hb dX1_fillPurses_89 hl (k := 0) rfl (nI_1 v) (by decide) rfl (fun ls hl => ?_)
          refine lv_goto (tgt := 27) hx hb dX1_fillPurses_92 (by decide) ?_
          exact ih (v + 1) (by omega) H locs (by rw [vlG, if_pos h8]; exact hO) hT hBa (by rw [puG, if_pos h8]; exact hPu) hLa hEm (by rw [vlG, if_pos h8]; exact hPy) hPi hRa hBb hBs hTr hS ls (lv_sub hl [0, 1, 2, 3] rfl)
  refine lv_aload_n hx hb dX1_fillPurses_0 rfl (lv_at hl 0 rfl) ?_
  refine va_get (D := g.1) (ci := 1) (v := .ref t) (C := RX1) (T := TX1) (N := 16) hx hb hts (by decide +kernel) hown hK.1 (xr_one hO) 0 rfl rfl 0 (by decide) (hts (.fieldLink RX1 51 "SharesDesk$Phase" "town" "LSharesDesk$Town;") (by decide +kernel)) (fun _ h9 => h9) rfl dX1_fillPurses_1 ?_
  refine xr_Vi (rest := []) ⟨hx, hb, hml, hown, hts⟩ (KK_ok g) hK (c_X5_countVoters l g s.heap t c vs ap bu hT) (cwV 0 hts gX1_fillPurses_X5_countVoters rfl rfl rfl (by decide +kernel) ⟨Nat.le_of_ble_eq_true rfl, Nat.le_of_ble_eq_true rfl⟩) (xr_rec hK hT.1 rfl) rfl hl.1 rfl (Nat.le_of_ble_eq_true rfl) dX1_fillPurses_4 ⟨Nat.le_of_ble_eq_true rfl, Nat.le_of_ble_eq_true rfl⟩ hS (fun q h => h.elim) (fun r H locs hq hz hkp hS9 => ?_)
  obtain ⟨rfl, rfl⟩ := hq
  have hS := hS9
  refine lv_istore_n (lv' := [(2, .int (nI (cnt vs 48))), (0, .ref f), (1, .int (nI rz))]) hx hb dX1_fillPurses_7 rfl hl (by decide) rfl (fun ls hl => ?_)
  refine lv_aload_n hx hb dX1_fillPurses_8 rfl (lv_at hl 1 rfl) ?_
  refine va_get (D := g.1) (ci := 1) (v := .ref (f + 1)) (C := RX1) (T := TX1) (N := 16) hx hb hts (by decide +kernel) hown hK.1 (xr_one hO) 0 rfl rfl 1 (by decide) (hts (.fieldLink RX1 12 "SharesDesk$Phase" "base" "LSharesDesk$Natural;") (by decide +kernel)) (fun _ h9 => h9) rfl dX1_fillPurses_9 ?_
  refine lv_iload_n hx hb dX1_fillPurses_12 rfl (lv_at hl 0 rfl) ?_
  refine lv_iconst (v := 1) hx hb dX1_fillPurses_13 (by decide) ?_
  refine va_mmax hx hb (hml.trans hl.1.symm) hown (hts (.methodLink RX1 127 Lib.Math.max.name) (by decide +kernel)) (hts (.static Lib.Math.max.name) (by decide +kernel)) (hts (.initialized "java/lang/Math") (by decide +kernel)) (hts _ (List.mem_cons_of_mem _ (List.mem_append_left _ (List.mem_append_left _ (List.mem_append_left _ (List.mem_append_left _ (List.mem_of_getElem? (i := 5) rfl))))))) (Nat.le_of_ble_eq_true rfl) (Nat.le_of_ble_eq_true rfl) (Nat.le_of_ble_eq_true rfl) (Nat.le_of_ble_eq_true rfl) dX1_fillPurses_14 ?_
  refine xr_ti (x' := nI (if cnt vs 48 = 0 then 1 else cnt vs 48)) (max1 (by omega)) ?_
  refine xr_Vv (rest := []) ⟨hx, hb, hml, hown, hts⟩ (KK_ok g) hK (c_X0_set l g s.heap (f + 1) B (if cnt vs 48 = 0 then 1 else cnt vs 48) hBa (by split <;> omega)) (cwV 1 hts gX1_fillPurses_X0_set rfl rfl rfl (by decide +kernel) ⟨Nat.le_of_ble_eq_true rfl, Nat.le_of_ble_eq_true rfl⟩) (xr_rec hK hBa.1 rfl) rfl hl.1 rfl (Nat.le_of_ble_eq_true rfl) dX1_fillPurses_17 ⟨Nat.le_of_ble_eq_true rfl, Nat.le_of_ble_eq_true rfl⟩ hS (fun q h => by have h : q = f + 1 + 1 := h; show f ≤ q ∧ q < f + 280; omega) (fun _ H locs hq hz hkp hS => ?_)
  replace hkp := fun (q : Nat) h1 (h2 : ¬ (q = f + 1 + 1)) => hkp q h1 h2
  replace hO := hO.kept (hkp _ hO.lt (by omega))
  replace hT := hT.kept (fun q hq1 hq2 hq3 => hkp q hq1 (by omega))
  replace hPu := hPu.kept (hkp _ hPu.1.lt (by omega)) (fun v hv => hkp _ (hPu.2 v hv).1.lt (by omega)) (fun v hv => hkp _ (hPu.2 v hv).2.1.lt (by omega))
  replace hLa := hLa.kept (hkp _ hLa.1.lt (by omega)) (fun v hv => hkp _ (hLa.2 v hv).1.lt (by omega)) (fun v hv => hkp _ (hLa.2 v hv).2.1.lt (by omega))
  replace hEm := hEm.kept (hkp _ hEm.lt (by omega))
  replace hPy := hPy.kept (hkp _ hPy.lt (by omega))
  replace hPi := hPi.kept (hkp _ hPi.lt (by omega))
  replace hRa := hRa.kept (hkp _ hRa.1.lt (by omega)) (fun v hv => hkp _ (hRa.2 v hv).1.lt (by omega)) (fun v hv => hkp _ (hRa.2 v hv).2.1.lt (by omega))
  replace hBb := hBb.kept (hkp _ hBb.1.lt (by omega)) (fun v hv => hkp _ (hBb.2 v hv).1.lt (by omega)) (fun v hv => hkp _ (hBb.2 v hv).2.1.lt (by omega))
  replace hBs := hBs.kept (fun q hq1 hq2 hq3 => hkp q hq1 (by omega))
  replace hTr := hTr.kept (fun q hq1 hq2 hq3 => hkp q hq1 (by omega))
  have hBa := hq
  refine lv_aload_n hx hb dX1_fillPurses_20 rfl (lv_at hl 1 rfl) ?_
  refine lv_iconst (v := 0) hx hb dX1_fillPurses_21 (by decide) ?_
  refine xr_ti (x' := nI 0) rfl ?_
  refine xr_put (ci := 1) (v := .int (nI 0)) (ty := .int) (C := RX1) (T := TX1) (N := 16) hx hb hts (by decide +kernel) tyX1 tyX1_ok nmX1 hown hK.1 hO hS (show f ≤ f ∧ f < f + 280 by omega) rfl 6 (by decide) (hts (.fieldLink RX1 118 "SharesDesk$Phase" "payerCount" "I") (by decide +kernel)) rfl (by decide +kernel) rfl rfl (Nat.le_of_ble_eq_true rfl) dX1_fillPurses_22 (fun H locs hz hkp hO hS => ?_)
  replace hT := hT.kept (fun q hq1 hq2 hq3 => hkp q (by omega))
  replace hPu := hPu.kept (hkp _ (by omega)) (fun v hv => hkp _ (by omega)) (fun v hv => hkp _ (by omega))
  replace hLa := hLa.kept (hkp _ (by omega)) (fun v hv => hkp _ (by omega)) (fun v hv => hkp _ (by omega))
  replace hEm := hEm.kept (hkp _ (by omega))
  replace hPy := hPy.kept (hkp _ (by omega))
  replace hPi := hPi.kept (hkp _ (by omega))
  replace hRa := hRa.kept (hkp _ (by omega)) (fun v hv => hkp _ (by omega)) (fun v hv => hkp _ (by omega))
  replace hBb := hBb.kept (hkp _ (by omega)) (fun v hv => hkp _ (by omega)) (fun v hv => hkp _ (by omega))
  replace hBs := hBs.kept (fun q hq1 hq2 hq3 => hkp q (by omega))
  replace hTr := hTr.kept (fun q hq1 hq2 hq3 => hkp q (by omega))
  replace hBa := hBa.kept (hkp _ (by omega)) (hkp _ (by omega))
  refine lv_iconst (v := 0) hx hb dX1_fillPurses_25 (by decide) ?_
  refine xr_ti (x' := nI 0) rfl ?_
  refine lv_istore_n (lv' := [(3, .int (nI 0)), (2, .int (nI (cnt vs 48))), (0, .ref f), (1, .int (nI rz))]) hx hb dX1_fillPurses_26 rfl hl (by decide) rfl (fun ls hl => ?_)
  exact loop 48 0 (by omega) H locs hO hT hBa hPu hLa hEm hPy hPi hRa hBb hBs hTr hS ls (lv_sub hl [0, 1, 2, 3] rfl)
set_option maxHeartbeats 400000 in
set_option maxRecDepth 100000 in
theorem c_X1_countServed (l : Launch) (g : WG) (H0 : Heap) (t : Nat) (c : Nat → Nat) (vs : Nat) (ap : Nat → Nat) (bu : Nat) (hT : TownAt g H0 t c vs ap bu) (f pc pk ps co op bs tr : Nat) (hO : obj g H0 f 1 (phF f t pc pk ps co op bs tr)) (hft : t + 3 ≤ f ∨ f + 280 ≤ t) (v : Nat) (hv : v < 48) (hps : ps < 2 ^ 31) : Ctr l (KK g) yX1_countServed wsX1_countServed { frames := 1, cells := 0, slots := 0, locals := 20 } [.ref f, .int (nI v)] H0 eI (fun r H => r = nI (cnt (ap v &&& ps) 32) ∧ H = H0) (fun _ => False) := by
  refine xr_enter (cc := cX1_countServed) (maxL := 2) (ret := (some .int)) (by decide) rfl (Nat.le_of_ble_eq_true rfl) ?_
  intro pgm env s mid below meth cde hx hb hr hml hts hown hlocks hnm hH hK ls hl
  subst hH
  have hl : lv_has ls 2 [(0, .ref f), (1, .int (nI v))] := hl
  have hS : va_S (fun _ => False) s.heap s.heap [] := va_S.rf
  have hav := hT.2.2.2.2.2.1 v hv
  refine lv_aload_n hx hb dX1_countServed_0 rfl (lv_at hl 0 rfl) ?_
  refine va_get (D := g.1) (ci := 1) (v := .ref t) (C := RX1) (T := TX1) (N := 16) hx hb hts (by decide +kernel) hown hK.1 (xr_one hO) 0 rfl rfl 0 (by decide) (hts (.fieldLink RX1 51 "SharesDesk$Phase" "town" "LSharesDesk$Town;") (by decide +kernel)) (fun _ h9 => h9) rfl dX1_countServed_1 ?_
  refine va_get (D := g.1) (ci := 5) (v := .ref (t + 2)) (C := RX5) (T := TX5) (N := 4) hx hb hts (by decide +kernel) hown hK.1 (xr_one hT.1) 0 rfl rfl 2 (by decide) (hts (.fieldLink RX1 99 "SharesDesk$Town" "approvals" "[I") (by decide +kernel)) (fun _ h9 => h9) rfl dX1_countServed_4 ?_
  refine lv_iload_n hx hb dX1_countServed_7 rfl (lv_at hl 1 rfl) ?_
  refine xr_rd hx hb hK hT.2.2.1 hv (by decide) dX1_countServed_8 ?_
  refine lv_aload_n hx hb dX1_countServed_9 rfl (lv_at hl 0 rfl) ?_
  refine va_get (D := g.1) (ci := 1) (v := .int (nI ps)) (C := RX1) (T := TX1) (N := 16) hx hb hts (by decide +kernel) hown hK.1 (xr_one hO) 0 rfl rfl 9 (by decide) (hts (.fieldLink RX1 63 "SharesDesk$Phase" "pickedSet" "I") (by decide +kernel)) (fun _ h9 => h9) rfl dX1_countServed_10 ?_
  refine lv_iand hx hb dX1_countServed_13 ?_
  refine xr_ti (x' := nI (ap v &&& ps)) (nx_and2 _ _) ?_
  refine xr_Si (rest := []) ⟨hx, hb, hml, hown, hts⟩ (KK_ok g) hK (c_J6_bitCount_0f7a4 l g s.heap (ap v &&& ps) (Nat.and_lt_two_pow _ hps)) (va_cwS 1 hts gX1_countServed_J6_bitCount_0f7a4 rfl rfl rfl (by decide +kernel) ⟨Nat.le_of_ble_eq_true rfl, Nat.le_of_ble_eq_true rfl⟩) rfl hl.1 rfl (Nat.le_of_ble_eq_true rfl) dX1_countServed_14 ⟨Nat.le_of_ble_eq_true rfl, Nat.le_of_ble_eq_true rfl⟩ hS (fun q h => h.elim) (fun r H locs hq hz hkp hS9 => ?_)
  obtain ⟨rfl, rfl⟩ := hq
  have hS := hS9
  exact xr_iret hx hb hr hlocks hS ⟨rfl, rfl⟩ dX1_countServed_17
