/-! sorting the payers -/
def PermI (a b : Nat → Nat) (n : Nat) : Prop := (∀ x, x < n → ∃ y, y < n ∧ a x = b y) ∧ (∀ y, y < n → ∃ x, x < n ∧ a x = b y) ∧ ∀ x y, x < n → y < n → a x = a y → x = y
def SortI (pur a : Nat → Nat) (i n : Nat) : Prop := ∀ x y, x < y → y < i → y < n → pur (a x) ≤ pur (a y)
def shf (a : Nat → Nat) (q i j : Nat) : Nat := if q < j ∧ j ≤ i then a (j - 1) else a j
def ins (a : Nat → Nat) (q i j : Nat) : Nat := if j = q then a i else if q < j ∧ j ≤ i then a (j - 1) else a j
theorem shf_self (a : Nat → Nat) (i : Nat) : shf a i i = a := by
  funext j
  unfold shf
  rw [if_neg (by omega)]
theorem shf_step {a : Nat → Nat} {q i : Nat} (h : q < i) : va_up (shf a (q + 1) i) (q + 1) (a q) = shf a q i := by
  funext j
  unfold shf
  by_cases e : j = q + 1
  · subst e
    rw [va_up_self, if_pos (by omega)]
    rfl
  · rw [va_up_ne _ _ e]
    by_cases h1 : q + 1 < j ∧ j ≤ i
    · rw [if_pos h1, if_pos (by omega)]
    · rw [if_neg h1, if_neg (by omega)]
theorem ins_step {a : Nat → Nat} {q i : Nat} : va_up (shf a q i) q (a i) = ins a q i := by
  funext j
  unfold ins
  by_cases e : j = q
  · subst e
    rw [va_up_self, if_pos rfl]
  · rw [va_up_ne _ _ e, if_neg e]
    rfl
def insS (q i j : Nat) : Nat := if j = q then i else if q < j ∧ j ≤ i then j - 1 else j
def insT (q i j : Nat) : Nat := if j = i then q else if q ≤ j ∧ j < i then j + 1 else j
theorem ins_S {a : Nat → Nat} {q i j : Nat} : ins a q i j = a (insS q i j) := by
  unfold ins insS
  split
  · rfl
  · split <;> rfl
theorem PermI.insd {a b : Nat → Nat} {n q i : Nat} (h : PermI a b n) (hq : q ≤ i) (hi : i < n) : PermI (ins a q i) b n := by
  have hS : ∀ j, j < n → insS q i j < n := fun j hj => by unfold insS; split <;> (try split) <;> omega
  have hT : ∀ j, j < n → insT q i j < n ∧ insS q i (insT q i j) = j := fun j hj => by
    unfold insT insS
    split <;> (try split) <;> (try split) <;> (try split) <;> omega
  refine ⟨fun x hx => ?_, fun y hy => ?_, fun x y hx hy e => ?_⟩
  · rw [ins_S]
    exact h.1 _ (hS x hx)
  · obtain ⟨x, hx, e⟩ := h.2.1 y hy
    exact ⟨insT q i x, (hT x hx).1, by rw [ins_S, (hT x hx).2]; exact e⟩
  · rw [ins_S, ins_S] at e
    have := h.2.2 _ _ (hS x hx) (hS y hy) e
    unfold insS at this
    split at this <;> split at this <;> (try split at this) <;> (try split at this) <;> omega
theorem SortI.insd {pur a : Nat → Nat} {n q i : Nat} (h : SortI pur a i n) (hq : q ≤ i) (hi : i < n) (h1 : ∀ j, q ≤ j → j < i → pur (a i) < pur (a j)) (h2 : ∀ j, j < q → pur (a j) ≤ pur (a i)) : SortI pur (ins a q i) (i + 1) n := by
  intro x y hxy hyi hyn
  unfold ins
  by_cases ex : x = q
  · rw [if_pos ex, if_neg (by omega), if_pos (by omega)]
    exact Nat.le_of_lt (h1 _ (by omega) (by omega))
  · rw [if_neg ex]
    by_cases ey : y = q
    · rw [if_pos ey, if_neg (by omega)]
      exact h2 x (by omega)
    · rw [if_neg ey]
      by_cases hx : q < x ∧ x ≤ i
      · rw [if_pos hx, if_pos (by omega)]
        exact h _ _ (by omega) (by omega) (by omega)
      · rw [if_neg hx]
        by_cases hy : q < y ∧ y ≤ i
        · rw [if_pos hy]
          by_cases hh : x = y - 1
          · rw [hh]
            exact Nat.le_refl _
          · exact h _ _ (by omega) (by omega) (by omega)
        · rw [if_neg hy]
          exact h _ _ hxy (by omega) (by omega)
theorem PermI.refl {b : Nat → Nat} {n : Nat} (h : ∀ x y, x < n → y < n → b x = b y → x = y) : PermI b b n := ⟨fun x hx => ⟨x, hx, rfl⟩, fun y hy => ⟨y, hy, rfl⟩, h⟩
set_option maxHeartbeats 1000000 in
set_option maxRecDepth 100000 in
theorem c_X1_sortPayers (l : Launch) (g : WG) (H0 : Heap) (t : Nat) (f pc pk ps co op bs tr : Nat) (hO : obj g H0 f 1 (phF f t pc pk ps co op bs tr)) (pay : Nat → Nat) (hpc : pc ≤ 48) (hpay : ∀ i, i < pc → pay i < 48) (hPy : xr_ia H0 (f + 6) (gI g) 48 (fun z9 => nI (pay z9))) (hinj : ∀ x y, x < pc → y < pc → pay x = pay y → x = y) (pur : Nat → Nat) (hPu : PoolAt g H0 (f + 3) (f + 24) 48 pur) : Ctr l (KK g) yX1_sortPayers wsX1_sortPayers { frames := 1, cells := 0, slots := 0, locals := 22 } [.ref f] H0 eV (fun _ H => ∃ pay2 : Nat → Nat, PermI pay2 pay pc ∧ SortI pur pay2 pc pc ∧ xr_ia H (f + 6) (gI g) 48 (fun z9 => nI (pay2 z9))) (fun q => q = f + 6) := by
  refine xr_enter (cc := cX1_sortPayers) (maxL := 4) (ret := none) (by decide) rfl (Nat.le_of_ble_eq_true rfl) ?_
  intro pgm env s mid below meth cde hx hb hr hml hts hown hlocks hnm hH hK ls hl
  subst hH
  have hl : lv_has ls 4 [(0, .ref f)] := hl
  have hS : va_S (fun q => q = f + 6) s.heap s.heap [] := va_S.rf
  have loop : ∀ (n i : Nat), pc ≤ i + n → 1 ≤ i → i ≤ 48 → ∀ (a : Nat → Nat), PermI a pay pc → SortI pur a i pc → ∀ (H : Heap) (locs : List Loc), xr_ia H (f + 6) (gI g) 48 (fun z9 => nI (a z9)) → obj g H f 1 (phF f t pc pk ps co op bs tr) → PoolAt g H (f + 3) (f + 24) 48 pur → va_S (fun q => q = f + 6) s.heap H locs → ∀ ls : Array Slot, lv_has ls 4 [(1, .int (nI i)), (0, .ref f)] → W pgm l env { frames := 1, cells := 0, slots := 0, locals := 22 } s mid ([.ref f] : List Value).toArray below meth cde H locs 0 0 (MQ below (xr_Post eV (fun _ H => ∃ pay2 : Nat → Nat, PermI pay2 pay pc ∧ SortI pur pay2 pc pc ∧ xr_ia H (f + 6) (gI g) 48 (fun z9 => nI (pay2 z9))) (fun q => q = f + 6)) ([.ref f] : List Value).toArray s ({ frames := 1, cells := 0, slots := 0, locals := 22 } : Room).cells ({ frames := 1, cells := 0, slots := 0, locals := 22 } : Room).slots (fun q => q = f + 6)) (F0 mid 2 ls []) := by
    intro n
    induction n with
    | zero =>
      intro i h1 hi1 hi48 a hp hs H locs hPy hO hPu hS ls hl
      refine lv_iload_n hx hb dX1_sortPayers_2 rfl (lv_at hl 0 rfl) ?_
      refine lv_aload_n hx hb dX1_sortPayers_3 rfl (lv_at hl 1 rfl) ?_
      refine va_get (D := g.1) (ci := 1) (v := .int (nI pc)) (C := RX1) (T := TX1) (N := 16) hx hb hts (by decide +kernel) hown hK.1 (xr_one hO) 0 rfl rfl 6 (by decide) (hts (.fieldLink RX1 118 "SharesDesk$Phase" "payerCount" "I") (by decide +kernel)) (fun _ h9 => h9) rfl dX1_sortPayers_4 ?_
      refine lv_icmp_ge (tgt := 81) hx hb dX1_sortPayers_7 (by decide) (fun hc => ?_) (fun hc => ?_)
      · clear hc
        exact xr_vret hx hb hr hlocks hS ⟨a, hp, fun x y h2 h3 h4 => hs x y h2 (by omega) h4, hPy⟩ dX1_sortPayers_81
      · exact absurd (nI_le (show pc ≤ i by omega) (by omega)) hc
    | succ n ih =>
      intro i h1 hi1 hi48 a hp hs H locs hPy hO hPu hS ls hl
      refine lv_iload_n hx hb dX1_sortPayers_2 rfl (lv_at hl 0 rfl) ?_
      refine lv_aload_n hx hb dX1_sortPayers_3 rfl (lv_at hl 1 rfl) ?_
      refine va_get (D := g.1) (ci := 1) (v := .int (nI pc)) (C := RX1) (T := TX1) (N := 16) hx hb hts (by decide +kernel) hown hK.1 (xr_one hO) 0 rfl rfl 6 (by decide) (hts (.fieldLink RX1 118 "SharesDesk$Phase" "payerCount" "I") (by decide +kernel)) (fun _ h9 => h9) rfl dX1_sortPayers_4 ?_
      refine lv_icmp_ge (tgt := 81) hx hb dX1_sortPayers_7 (by decide) (fun hc => ?_) (fun hc => ?_)
      · have hc := (nI_leI (by omega) (by omega)).mp hc
        exact xr_vret hx hb hr hlocks hS ⟨a, hp, fun x y h2 h3 h4 => hs x y h2 (by omega) h4, hPy⟩ dX1_sortPayers_81
      · have hip : i < pc := Nat.lt_of_not_le fun h => hc (nI_le h (by omega))
        have hab : ∀ x, x < pc → a x < 48 := fun x hx => by obtain ⟨y, hy, e⟩ := hp.1 x hx; rw [e]; exact hpay y hy
        have inner : ∀ q : Nat, q ≤ i → (∀ j, q ≤ j → j < i → pur (a i) < pur (a j)) → ∀ (H : Heap) (locs : List Loc), xr_ia H (f + 6) (gI g) 48 (fun z9 => nI (shf a q i z9)) → obj g H f 1 (phF f t pc pk ps co op bs tr) → PoolAt g H (f + 3) (f + 24) 48 pur → va_S (fun q => q = f + 6) s.heap H locs → ∀ ls : Array Slot, lv_has ls 4 [(3, .int (nI q)), (2, .int (nI (a i))), (1, .int (nI i)), (0, .ref f)] → W pgm l env { frames := 1, cells := 0, slots := 0, locals := 22 } s mid ([.ref f] : List Value).toArray below meth cde H locs 0 0 (MQ below (xr_Post eV (fun _ H => ∃ pay2 : Nat → Nat, PermI pay2 pay pc ∧ SortI pur pay2 pc pc ∧ xr_ia H (f + 6) (gI g) 48 (fun z9 => nI (pay2 z9))) (fun q => q = f + 6)) ([.ref f] : List Value).toArray s ({ frames := 1, cells := 0, slots := 0, locals := 22 } : Room).cells ({ frames := 1, cells := 0, slots := 0, locals := 22 } : Room).slots (fun q => q = f + 6)) (F0 mid 19 ls []) := by
          intro q
          induction q with
          | zero =>
            intro hqi hgt H locs hPy hO hPu hS ls hl
            refine lv_iload_n hx hb dX1_sortPayers_19 rfl (lv_at hl 0 rfl) ?_
            refine lv_if_le (tgt := 68) hx hb dX1_sortPayers_20 (by decide) (fun hc => ?_) (fun hc => ?_)
            · clear hc
              refine lv_aload_n hx hb dX1_sortPayers_68 rfl (lv_at hl 3 rfl) ?_
              refine va_get (D := g.1) (ci := 1) (v := .ref (f + 6)) (C := RX1) (T := TX1) (N := 16) hx hb hts (by decide +kernel) hown hK.1 (xr_one hO) 0 rfl rfl 5 (by decide) (hts (.fieldLink RX1 29 "SharesDesk$Phase" "payers" "[I") (by decide +kernel)) (fun _ h9 => h9) rfl dX1_sortPayers_69 ?_
              refine lv_iload_n hx hb dX1_sortPayers_72 rfl (lv_at hl 0 rfl) ?_
              refine lv_iload_n hx hb dX1_sortPayers_73 rfl (lv_at hl 1 rfl) ?_
              refine xr_wr hx hb hK hS rfl hPy (show 0 < 48 by omega) (by decide) dX1_sortPayers_74 (fun H locs hz hkp hPy hS => ?_)
              replace hO := hO.kept (hkp _ (by omega))
              replace hPu := hPu.kept (hkp _ (by omega)) (fun v hv => hkp _ (by omega)) (fun v hv => hkp _ (by omega))
              rw [ia_up, ins_step] at hPy
              refine lv_iinc (v := nI (i + 1)) (lv' := [(1, .int (nI (i + 1))), (3, .int (nI 0)), (2, .int (nI (a i))), (0, .ref f)]) hx hb dX1_sortPayers_75 hl (k := 2) rfl (nI_1 i) (by decide) rfl (fun ls hl => ?_)
              refine lv_goto (tgt := 2) hx hb dX1_sortPayers_78 (by decide) ?_
              exact ih (i + 1) (by omega) (by omega) (by omega) (ins a 0 i) (hp.insd hqi hip) (hs.insd hqi hip hgt (fun j hj => absurd hj (Nat.not_lt_zero j))) H locs hPy hO hPu hS ls (lv_sub hl [0, 3] rfl)
            · exact absurd (by decide) hc
          | succ q ihq =>
            intro hqi hgt H locs hPy hO hPu hS ls hl
            have hq48 := hab q (by omega)
            have hi48v := hab i hip
            refine lv_iload_n hx hb dX1_sortPayers_19 rfl (lv_at hl 0 rfl) ?_
            refine lv_if_le (tgt := 68) hx hb dX1_sortPayers_20 (by decide) (fun hc => ?_) (fun hc => ?_)
            · exact absurd hc (nI_nle (by omega) (by omega))
            · clear hc
              refine lv_aload_n hx hb dX1_sortPayers_23 rfl (lv_at hl 3 rfl) ?_
              refine va_get (D := g.1) (ci := 1) (v := .ref (f + 3)) (C := RX1) (T := TX1) (N := 16) hx hb hts (by decide +kernel) hown hK.1 (xr_one hO) 0 rfl rfl 2 (by decide) (hts (.fieldLink RX1 18 "SharesDesk$Phase" "purses" "[LSharesDesk$Natural;") (by decide +kernel)) (fun _ h9 => h9) rfl dX1_sortPayers_24 ?_
              refine lv_aload_n hx hb dX1_sortPayers_27 rfl (lv_at hl 3 rfl) ?_
              refine va_get (D := g.1) (ci := 1) (v := .ref (f + 6)) (C := RX1) (T := TX1) (N := 16) hx hb hts (by decide +kernel) hown hK.1 (xr_one hO) 0 rfl rfl 5 (by decide) (hts (.fieldLink RX1 29 "SharesDesk$Phase" "payers" "[I") (by decide +kernel)) (fun _ h9 => h9) rfl dX1_sortPayers_28 ?_
              refine lv_iload_n hx hb dX1_sortPayers_31 rfl (lv_at hl 0 rfl) ?_
              refine lv_iconst (v := 1) hx hb dX1_sortPayers_32 (by decide) ?_
              refine lv_isub hx hb dX1_sortPayers_33 ?_
              refine xr_ti (x' := nI q) (nI_pred q) ?_
              refine xr_rd hx hb hK hPy (show q < 48 by omega) (by decide) dX1_sortPayers_34 ?_
              refine xr_ti (x' := nI (a q)) (by unfold shf; rw [if_neg (by omega)]) ?_
              refine xr_pl hx hb hK hPu hq48 (by decide) dX1_sortPayers_35 ?_
              refine lv_aload_n hx hb dX1_sortPayers_36 rfl (lv_at hl 3 rfl) ?_
              refine va_get (D := g.1) (ci := 1) (v := .ref (f + 3)) (C := RX1) (T := TX1) (N := 16) hx hb hts (by decide +kernel) hown hK.1 (xr_one hO) 0 rfl rfl 2 (by decide) (hts (.fieldLink RX1 18 "SharesDesk$Phase" "purses" "[LSharesDesk$Natural;") (by decide +kernel)) (fun _ h9 => h9) rfl dX1_sortPayers_37 ?_
              refine lv_iload_n hx hb dX1_sortPayers_40 rfl (lv_at hl 1 rfl) ?_
              refine xr_pl hx hb hK hPu hi48v (by decide) dX1_sortPayers_41 ?_
              refine xr_Vi (rest := []) ⟨hx, hb, hml, hown, hts⟩ (KK_ok g) hK (c_X0_against l g H (f + 24 + 4 * a q) (f + 24 + 4 * a i) (pur (a q)) (pur (a i)) (hPu.2 _ hq48) (hPu.2 _ hi48v)) (cwV 1 hts gX1_sortPayers_X0_against rfl rfl rfl (by decide +kernel) ⟨Nat.le_of_ble_eq_true rfl, Nat.le_of_ble_eq_true rfl⟩) (xr_rec hK (hPu.2 _ hq48).1 rfl) rfl hl.1 rfl (Nat.le_of_ble_eq_true rfl) dX1_sortPayers_42 ⟨Nat.le_of_ble_eq_true rfl, Nat.le_of_ble_eq_true rfl⟩ hS (fun q h => h.elim) (fun r H locs hq hz hkp hS9 => ?_)
              obtain ⟨rfl, rfl⟩ := hq
              have hS := hS9
              refine lv_if_le (tgt := 68) hx hb dX1_sortPayers_45 (by decide) (fun h7 => ?_) (fun h7 => ?_)
              · have h8 := cmpI_le0 h7
                refine lv_aload_n hx hb dX1_sortPayers_68 rfl (lv_at hl 3 rfl) ?_
                refine va_get (D := g.1) (ci := 1) (v := .ref (f + 6)) (C := RX1) (T := TX1) (N := 16) hx hb hts (by decide +kernel) hown hK.1 (xr_one hO) 0 rfl rfl 5 (by decide) (hts (.fieldLink RX1 29 "SharesDesk$Phase" "payers" "[I") (by decide +kernel)) (fun _ h9 => h9) rfl dX1_sortPayers_69 ?_
                refine lv_iload_n hx hb dX1_sortPayers_72 rfl (lv_at hl 0 rfl) ?_
                refine lv_iload_n hx hb dX1_sortPayers_73 rfl (lv_at hl 1 rfl) ?_
                refine xr_wr hx hb hK hS rfl hPy (show q + 1 < 48 by omega) (by decide) dX1_sortPayers_74 (fun H locs hz hkp hPy hS => ?_)
                replace hO := hO.kept (hkp _ (by omega))
                replace hPu := hPu.kept (hkp _ (by omega)) (fun v hv => hkp _ (by omega)) (fun v hv => hkp _ (by omega))
                rw [ia_up, ins_step] at hPy
                refine lv_iinc (v := nI (i + 1)) (lv' := [(1, .int (nI (i + 1))), (3, .int (nI (q + 1))), (2, .int (nI (a i))), (0, .ref f)]) hx hb dX1_sortPayers_75 hl (k := 2) rfl (nI_1 i) (by decide) rfl (fun ls hl => ?_)
                refine lv_goto (tgt := 2) hx hb dX1_sortPayers_78 (by decide) ?_
                exact ih (i + 1) (by omega) (by omega) (by omega) (ins a (q + 1) i) (hp.insd hqi hip) (hs.insd hqi hip hgt (fun j hj => if e : j = q then by rw [e]; exact h8 else Nat.le_trans (hs j q (by omega) (by omega) (by omega)) h8)) H locs hPy hO hPu hS ls (lv_sub hl [0, 3] rfl)
              · have h8 : pur (a i) < pur (a q) := Nat.lt_of_not_le fun q2 => h7 (cmpI_0le q2)
                refine lv_aload_n hx hb dX1_sortPayers_48 rfl (lv_at hl 3 rfl) ?_
                refine va_get (D := g.1) (ci := 1) (v := .ref (f + 6)) (C := RX1) (T := TX1) (N := 16) hx hb hts (by decide +kernel) hown hK.1 (xr_one hO) 0 rfl rfl 5 (by decide) (hts (.fieldLink RX1 29 "SharesDesk$Phase" "payers" "[I") (by decide +kernel)) (fun _ h9 => h9) rfl dX1_sortPayers_49 ?_
                refine lv_iload_n hx hb dX1_sortPayers_52 rfl (lv_at hl 0 rfl) ?_
                refine lv_aload_n hx hb dX1_sortPayers_53 rfl (lv_at hl 3 rfl) ?_
                refine va_get (D := g.1) (ci := 1) (v := .ref (f + 6)) (C := RX1) (T := TX1) (N := 16) hx hb hts (by decide +kernel) hown hK.1 (xr_one hO) 0 rfl rfl 5 (by decide) (hts (.fieldLink RX1 29 "SharesDesk$Phase" "payers" "[I") (by decide +kernel)) (fun _ h9 => h9) rfl dX1_sortPayers_54 ?_
                refine lv_iload_n hx hb dX1_sortPayers_57 rfl (lv_at hl 0 rfl) ?_
                refine lv_iconst (v := 1) hx hb dX1_sortPayers_58 (by decide) ?_
                refine lv_isub hx hb dX1_sortPayers_59 ?_
                refine xr_ti (x' := nI q) (nI_pred q) ?_
                refine xr_rd hx hb hK hPy (show q < 48 by omega) (by decide) dX1_sortPayers_60 ?_
                refine xr_ti (x' := nI (a q)) (by unfold shf; rw [if_neg (by omega)]) ?_
                refine xr_wr hx hb hK hS rfl hPy (show q + 1 < 48 by omega) (by decide) dX1_sortPayers_61 (fun H locs hz hkp hPy hS => ?_)
                replace hO := hO.kept (hkp _ (by omega))
                replace hPu := hPu.kept (hkp _ (by omega)) (fun v hv => hkp _ (by omega)) (fun v hv => hkp _ (by omega))
                rw [ia_up, shf_step (by omega)] at hPy
                refine lv_iinc (v := nI q) (lv' := [(3, .int (nI q)), (2, .int (nI (a i))), (1, .int (nI i)), (0, .ref f)]) hx hb dX1_sortPayers_62 hl (k := 0) rfl (pk_m1 q) (by decide) rfl (fun ls hl => ?_)
                refine lv_goto (tgt := 19) hx hb dX1_sortPayers_65 (by decide) ?_
                exact ihq (by omega) (fun j hj1 hj2 => if e : j = q then by rw [e]; exact h8 else hgt j (by omega) hj2) H locs hPy hO hPu hS ls (lv_sub hl [0, 1, 2, 3] rfl)
        refine lv_aload_n hx hb dX1_sortPayers_10 rfl (lv_at hl 1 rfl) ?_
        refine va_get (D := g.1) (ci := 1) (v := .ref (f + 6)) (C := RX1) (T := TX1) (N := 16) hx hb hts (by decide +kernel) hown hK.1 (xr_one hO) 0 rfl rfl 5 (by decide) (hts (.fieldLink RX1 29 "SharesDesk$Phase" "payers" "[I") (by decide +kernel)) (fun _ h9 => h9) rfl dX1_sortPayers_11 ?_
        refine lv_iload_n hx hb dX1_sortPayers_14 rfl (lv_at hl 0 rfl) ?_
        refine xr_rd hx hb hK hPy (show i < 48 by omega) (by decide) dX1_sortPayers_15 ?_
        refine lv_istore_n (lv' := [(2, .int (nI (a i))), (1, .int (nI i)), (0, .ref f)]) hx hb dX1_sortPayers_16 rfl hl (by decide) rfl (fun ls hl => ?_)
        refine lv_iload_n hx hb dX1_sortPayers_17 rfl (lv_at hl 1 rfl) ?_
        refine lv_istore_n (lv' := [(3, .int (nI i)), (2, .int (nI (a i))), (1, .int (nI i)), (0, .ref f)]) hx hb dX1_sortPayers_18 rfl hl (by decide) rfl (fun ls hl => ?_)
        exact inner i (Nat.le_refl i) (fun j hj1 hj2 => absurd hj2 (by omega)) H locs (by rw [shf_self]; exact hPy) hO hPu hS ls (lv_sub hl [0, 1, 2, 3] rfl)
  refine lv_iconst (v := 1) hx hb dX1_sortPayers_0 (by decide) ?_
  refine xr_ti (x' := nI 1) rfl ?_
  refine lv_istore_n (lv' := [(1, .int (nI 1)), (0, .ref f)]) hx hb dX1_sortPayers_1 rfl hl (by decide) rfl (fun ls hl => ?_)
  exact loop pc 1 (by omega) (by omega) (by omega) pay (PermI.refl hinj) (fun x y h1 h2 h3 => absurd h1 (by omega)) s.heap [] hPy hO hPu hS ls (lv_sub hl [0, 1] rfl)
