theorem clr_bit {n p i : Nat} (h : n.testBit p = true) : (n - 2 ^ p).testBit i = (n.testBit i && !decide (i = p)) := by
  have h1 : n / 2 ^ p % 2 = 1 := by
    rw [Nat.testBit_eq_decide_div_mod_eq] at h
    exact of_decide_eq_true h
  have h2 := Nat.div_add_mod n (2 ^ p)
  have h3 := Nat.div_add_mod (n / 2 ^ p) 2
  have hb := Nat.mod_lt n (Nat.two_pow_pos p)
  rw [h1] at h3
  generalize n / 2 ^ p / 2 = a at *
  generalize n % 2 ^ p = b at *
  rw [← h3] at h2
  have h4 : n - 2 ^ p = 2 ^ p * (2 * a) + b := by
    rw [Nat.mul_add, Nat.mul_one] at h2
    omega
  rw [h4, Nat.testBit_two_pow_mul_add _ hb, ← h2, Nat.testBit_two_pow_mul_add _ hb]
  by_cases e1 : i < p
  · rw [if_pos e1, if_pos e1, decide_eq_false (by omega)]
    simp
  · rw [if_neg e1, if_neg e1]
    by_cases e2 : i = p
    · subst e2
      simp
    · rw [decide_eq_false e2]
      obtain ⟨k, hk⟩ : ∃ k, i - p = k + 1 := ⟨i - p - 1, by omega⟩
      rw [hk, Nat.testBit_add_one, Nat.testBit_add_one]
      have h5 : 2 * a / 2 = a := by omega
      have h6 : (2 * a + 1) / 2 = a := by omega
      rw [h5, h6]
      simp
/-! the cheapest of the open projects -/
def bet (c : Nat → Nat) (p q r k r2 k2 : Nat) : Bool := decide (r * k2 < r2 * k) || (decide (r * k2 = r2 * k) && decide (c p < c q))
theorem cmpI_nl {x y : Nat} (h : ¬ cmpI x y < 0) : ¬ x < y := fun q => h (cmpI_l q)
theorem cmpI_lt0 {x y : Nat} (h : cmpI x y < 0) : x < y := Nat.lt_of_not_le fun q => cmpI_ge q h
def fcStep (S : Nat → Bool × Nat × Nat) (c : Nat → Nat) (p : Nat) (z : Option (Nat × Nat × Nat) × Nat) : Option (Nat × Nat × Nat) × Nat :=
  if z.2.testBit p = false then z else if (S p).1 = false then (z.1, z.2 - 2 ^ p) else
    match z.1 with
    | none => (some (p, (S p).2), z.2)
    | some w => if bet c p w.1 (S p).2.1 (S p).2.2 w.2.1 w.2.2 = true then (some (p, (S p).2), z.2) else z
def fcGo (S : Nat → Bool × Nat × Nat) (c : Nat → Nat) (op : Nat) : Nat → Option (Nat × Nat × Nat) × Nat
  | 0 => (none, op)
  | n + 1 => fcStep S c n (fcGo S c op n)
theorem shr_le : ∀ (L : List Nat) (r : Nat), (shr L r).2.1 ≤ r ∧ (shr L r).2.2 ≤ L.length
  | [], r => ⟨Nat.le_refl r, Nat.le_refl 0⟩
  | x :: xs, r => by
    rw [shr]
    split
    · exact ⟨Nat.le_refl r, Nat.le_refl _⟩
    · have := shr_le xs (r - x)
      rw [List.length_cons]
      omega
theorem nI_clr {n p : Nat} (hn : n < 2 ^ 31) (hp : p < 31) (h : n.testBit p = true) : nI n &&& (nI (2 ^ p) ^^^ (-1)) = nI (n - 2 ^ p) := by
  have h1 : (nI (2 ^ p) ^^^ (-1)) = ~~~ (nI (2 ^ p)) := by
    apply Int32.toBitVec_inj.mp
    rw [Int32.toBitVec_xor, Int32.toBitVec_not]
    have e : (-1 : Int32).toBitVec = BitVec.allOnes 32 := by decide
    rw [e, BitVec.xor_allOnes]
  rw [h1]
  apply Int32.toBitVec_inj.mp
  rw [Int32.toBitVec_and, Int32.toBitVec_not]
  apply BitVec.eq_of_getLsbD_eq
  intro i hi
  have e1 : (nI n).toBitVec = BitVec.ofNat 32 n := rfl
  have e2 : (nI (2 ^ p)).toBitVec = BitVec.ofNat 32 (2 ^ p) := rfl
  have e3 : (nI (n - 2 ^ p)).toBitVec = BitVec.ofNat 32 (n - 2 ^ p) := rfl
  rw [BitVec.getLsbD_and, BitVec.getLsbD_not, e1, e2, e3, BitVec.getLsbD_ofNat, BitVec.getLsbD_ofNat, BitVec.getLsbD_ofNat]
  simp only [hi, decide_true, Bool.true_and]
  rw [clr_bit h]
  rw [Nat.testBit_two_pow]
  by_cases e : p = i
  · simp [e]
  · rw [decide_eq_false e, decide_eq_false (fun q => e q.symm)]
theorem fcStep_op {S : Nat → Bool × Nat × Nat} {c : Nat → Nat} {p : Nat} {z : Option (Nat × Nat × Nat) × Nat} : (fcStep S c p z).2 ≤ z.2 := by
  unfold fcStep
  split
  · exact Nat.le_refl _
  · split
    · exact Nat.sub_le _ _
    · split
      · exact Nat.le_refl _
      · split <;> exact Nat.le_refl _
theorem fcGo_op {S : Nat → Bool × Nat × Nat} {c : Nat → Nat} {op : Nat} : ∀ n, (fcGo S c op n).2 ≤ op
  | 0 => Nat.le_refl _
  | n + 1 => Nat.le_trans fcStep_op (fcGo_op n)
theorem fcGo_in {S : Nat → Bool × Nat × Nat} {c : Nat → Nat} {op : Nat} : ∀ n w, (fcGo S c op n).1 = some w → w.1 < n ∧ w.2 = (S w.1).2
  | 0, w, h => by cases h
  | n + 1, w, h => by
    have ih := fcGo_in (S := S) (c := c) (op := op) n
    have up : (fcGo S c op n).1 = some w → w.1 < n + 1 ∧ w.2 = (S w.1).2 := fun q => ⟨Nat.lt_succ_of_lt (ih w q).1, (ih w q).2⟩
    rw [fcGo, fcStep] at h
    split at h
    · exact up h
    · split at h
      · exact up h
      · split at h
        · cases h
          exact ⟨Nat.lt_succ_self n, rfl⟩
        · split at h
          · cases h
            exact ⟨Nat.lt_succ_self n, rfl⟩
          · exact up h

set_option maxHeartbeats 400000 in
set_option maxRecDepth 100000 in
theorem c_X1_isBetter (l : Launch) (g : WG) (H0 : Heap) (t : Nat) (c : Nat → Nat) (vs : Nat) (ap : Nat → Nat) (bu : Nat) (hT : TownAt g H0 t c vs ap bu) (f pc pk ps co op bs tr : Nat) (hO : obj g H0 f 1 (phF f t pc pk ps co op bs tr)) (hft : t + 3 ≤ f ∨ f + 280 ≤ t) (r k r2 k2 : Nat) (hTr : ShareAt g H0 tr r k) (hBs : ShareAt g H0 bs r2 k2) (htb : tr = f + 10 ∧ bs = f + 17 ∨ tr = f + 17 ∧ bs = f + 10) (hk : k < 2 ^ 31) (hk2 : k2 < 2 ^ 31) (h1 : r * k2 < 2 ^ 128) (h2 : r2 * k < 2 ^ 128) (p0 q0 : Nat) (hp : p0 < 16) (hq0 : q0 < 16) : Ctr l (KK g) yX1_isBetter wsX1_isBetter { frames := 3, cells := 0, slots := 0, locals := 82 } [.ref f, .int (nI p0), .int (nI q0)] H0 eI (fun z H => z = b2i (bet c p0 q0 r k r2 k2) ∧ ShareAt g H tr r k) (fun q => q = tr + 4 ∨ q = tr + 6) := by
  refine xr_enter (cc := cX1_isBetter) (maxL := 4) (ret := (some .boolean)) (by decide) rfl (Nat.le_of_ble_eq_true rfl) ?_
  intro pgm env s mid below meth cde hx hb hr hml hts hown hlocks hnm hH hK ls hl
  subst hH
  have hl : lv_has ls 4 [(0, .ref f), (1, .int (nI p0)), (2, .int (nI q0))] := hl
  have hS : va_S (fun q => q = tr + 4 ∨ q = tr + 6) s.heap s.heap [] := va_S.rf
  have hcp := hT.2.2.2.1 p0 hp
  have hcq := hT.2.2.2.1 q0 hq0
  refine lv_aload_n hx hb dX1_isBetter_0 rfl (lv_at hl 0 rfl) ?_
  refine va_get (D := g.1) (ci := 1) (v := .ref tr) (C := RX1) (T := TX1) (N := 16) hx hb hts (by decide +kernel) hown hK.1 (xr_one hO) 0 rfl rfl 15 (by decide) (hts (.fieldLink RX1 48 "SharesDesk$Phase" "tried" "LSharesDesk$Share;") (by decide +kernel)) (fun _ h9 => h9) rfl dX1_isBetter_1 ?_
  refine lv_aload_n hx hb dX1_isBetter_4 rfl (lv_at hl 0 rfl) ?_
  refine va_get (D := g.1) (ci := 1) (v := .ref bs) (C := RX1) (T := TX1) (N := 16) hx hb hts (by decide +kernel) hown hK.1 (xr_one hO) 0 rfl rfl 14 (by decide) (hts (.fieldLink RX1 44 "SharesDesk$Phase" "best" "LSharesDesk$Share;") (by decide +kernel)) (fun _ h9 => h9) rfl dX1_isBetter_5 ?_
  refine xr_Vi (rest := []) ⟨hx, hb, hml, hown, hts⟩ (KK_ok g) hK (c_X3_against l g s.heap tr bs r k r2 k2 hTr hBs (by omega) hk hk2 h1 h2) (cwV 1 hts gX1_isBetter_X3_against rfl rfl rfl (by decide +kernel) ⟨Nat.le_of_ble_eq_true rfl, Nat.le_of_ble_eq_true rfl⟩) (xr_rec hK hTr.1 rfl) rfl hl.1 rfl (Nat.le_of_ble_eq_true rfl) dX1_isBetter_8 ⟨Nat.le_of_ble_eq_true rfl, Nat.le_of_ble_eq_true rfl⟩ hS (fun q h => h) (fun z H locs hq hz hkp hS => ?_)
  replace hkp := fun (q : Nat) h1 (h2 : ¬ (q = tr + 4 ∨ q = tr + 6)) => hkp q h1 h2
  clear hz
  replace hO := hO.kept (hkp _ hO.lt (by omega))
  replace hT := hT.kept (fun q hq1 hq2 hq3 => hkp q hq1 (by omega))
  obtain ⟨rfl, hTr⟩ := hq
  refine lv_istore_n (lv' := [(3, .int (cmpI (r * k2) (r2 * k))), (0, .ref f), (1, .int (nI p0)), (2, .int (nI q0))]) hx hb dX1_isBetter_11 rfl hl (by decide) rfl (fun ls hl => ?_)
  refine lv_iload_n hx hb dX1_isBetter_12 rfl (lv_at hl 0 rfl) ?_
  refine lv_if_lt (tgt := 41) hx hb dX1_isBetter_13 (by decide) (fun h5 => ?_) (fun h5 => ?_)
  · have h6 := cmpI_lt0 h5
    refine lv_iconst (v := 1) hx hb dX1_isBetter_41 (by decide) ?_
    refine lv_goto (tgt := 46) hx hb dX1_isBetter_42 (by decide) ?_
    exact xr_zret hx hb hr rfl hlocks hS ⟨by unfold bet; rw [decide_eq_true h6]; rfl, hTr⟩ dX1_isBetter_46
  · have h6 := cmpI_nl h5
    refine lv_iload_n hx hb dX1_isBetter_16 rfl (lv_at hl 0 rfl) ?_
    refine lv_if_ne (tgt := 45) hx hb dX1_isBetter_17 (by decide) (fun h7 => ?_) (fun h7 => ?_)
    · have h8 : ¬ r * k2 = r2 * k := fun q => h7 (cmpI_0.mpr q)
      refine lv_iconst (v := 0) hx hb dX1_isBetter_45 (by decide) ?_
      exact xr_zret hx hb hr rfl hlocks hS ⟨by unfold bet; rw [decide_eq_false h6, decide_eq_false h8]; rfl, hTr⟩ dX1_isBetter_46
    · have h8 := cmpI_0.mp h7
      refine lv_aload_n hx hb dX1_isBetter_20 rfl (lv_at hl 1 rfl) ?_
      refine va_get (D := g.1) (ci := 1) (v := .ref t) (C := RX1) (T := TX1) (N := 16) hx hb hts (by decide +kernel) hown hK.1 (xr_one hO) 0 rfl rfl 0 (by decide) (hts (.fieldLink RX1 51 "SharesDesk$Phase" "town" "LSharesDesk$Town;") (by decide +kernel)) (fun _ h9 => h9) rfl dX1_isBetter_21 ?_
      refine va_get (D := g.1) (ci := 5) (v := .ref (t + 1)) (C := RX5) (T := TX5) (N := 4) hx hb hts (by decide +kernel) hown hK.1 (xr_one hT.1) 0 rfl rfl 0 (by decide) (hts (.fieldLink RX1 112 "SharesDesk$Town" "costs" "[I") (by decide +kernel)) (fun _ h9 => h9) rfl dX1_isBetter_24 ?_
      refine lv_iload_n hx hb dX1_isBetter_27 rfl (lv_at hl 2 rfl) ?_
      refine xr_rd hx hb hK hT.2.1 hp (by decide) dX1_isBetter_28 ?_
      refine lv_aload_n hx hb dX1_isBetter_29 rfl (lv_at hl 1 rfl) ?_
      refine va_get (D := g.1) (ci := 1) (v := .ref t) (C := RX1) (T := TX1) (N := 16) hx hb hts (by decide +kernel) hown hK.1 (xr_one hO) 0 rfl rfl 0 (by decide) (hts (.fieldLink RX1 51 "SharesDesk$Phase" "town" "LSharesDesk$Town;") (by decide +kernel)) (fun _ h9 => h9) rfl dX1_isBetter_30 ?_
      refine va_get (D := g.1) (ci := 5) (v := .ref (t + 1)) (C := RX5) (T := TX5) (N := 4) hx hb hts (by decide +kernel) hown hK.1 (xr_one hT.1) 0 rfl rfl 0 (by decide) (hts (.fieldLink RX1 112 "SharesDesk$Town" "costs" "[I") (by decide +kernel)) (fun _ h9 => h9) rfl dX1_isBetter_33 ?_
      refine lv_iload_n hx hb dX1_isBetter_36 rfl (lv_at hl 3 rfl) ?_
      refine xr_rd hx hb hK hT.2.1 hq0 (by decide) dX1_isBetter_37 ?_
      refine lv_icmp_ge (tgt := 45) hx hb dX1_isBetter_38 (by decide) (fun h9 => ?_) (fun h9 => ?_)
      · have h10 : ¬ c p0 < c q0 := fun q => absurd ((nI_leI (by omega) (by omega)).mp h9) (by omega)
        refine lv_iconst (v := 0) hx hb dX1_isBetter_45 (by decide) ?_
        exact xr_zret hx hb hr rfl hlocks hS ⟨by unfold bet; rw [decide_eq_false h6, decide_eq_false h10, Bool.and_false]; rfl, hTr⟩ dX1_isBetter_46
      · have h10 : c p0 < c q0 := Nat.lt_of_not_le fun q => h9 (nI_le q (by omega))
        refine lv_iconst (v := 1) hx hb dX1_isBetter_41 (by decide) ?_
        refine lv_goto (tgt := 46) hx hb dX1_isBetter_42 (by decide) ?_
        exact xr_zret hx hb hr rfl hlocks hS ⟨by unfold bet; rw [decide_eq_true h8, decide_eq_true h10, Bool.and_true, Bool.or_true]; rfl, hTr⟩ dX1_isBetter_46
theorem nI_m1 {n : Nat} (h : n < 2 ^ 31) : ¬ nI n = -1 := fun q => by
  have h1 := congrArg Int32.toInt q
  rw [nI_toInt h] at h1
  have h2 : (-1 : Int32).toInt = -1 := by decide
  omega
set_option maxHeartbeats 400000 in
set_option maxRecDepth 100000 in
theorem c_X1_findCheapest (l : Launch) (g : WG) (H0 : Heap) (t : Nat) (c : Nat → Nat) (vs : Nat) (ap : Nat → Nat) (bu : Nat) (hT : TownAt g H0 t c vs ap bu) (f pc pk ps co op bs tr : Nat) (hO : obj g H0 f 1 (phF f t pc pk ps co op bs tr)) (hft : t + 3 ≤ f ∨ f + 280 ≤ t) (pay : Nat → Nat) (hpc : pc ≤ 48) (hpay : ∀ i, i < pc → pay i < 48) (hPy : xr_ia H0 (f + 6) (gI g) 48 (fun i => nI (pay i))) (B : Nat) (hBa : NatAt g H0 (f + 1) B) (pur : Nat → Nat) (hPu : PoolAt g H0 (f + 3) (f + 24) 48 pur) (hB : B * 48000000 < 2 ^ 128) (hpb : ∀ i, i < pc → pur (pay i) * 48 < 2 ^ 128) (r0 k0 r1 k1 : Nat) (hTr : ShareAt g H0 tr r0 k0) (hBs : ShareAt g H0 bs r1 k1) (htb : (tr = f + 10 ∧ bs = f + 17 ∨ tr = f + 17 ∧ bs = f + 10)) (hop : op < 2 ^ 16) : Ctr l (KK g) yX1_findCheapest wsX1_findCheapest { frames := 4, cells := 0, slots := 0, locals := 105 } [.ref f] H0 eI (fun z H => ∃ bs2 tr2 rb kb rt kt : Nat, (tr2 = f + 10 ∧ bs2 = f + 17 ∨ tr2 = f + 17 ∧ bs2 = f + 10) ∧ obj g H f 1 (phF f t pc pk ps co (fcGo (fun q => shr (supL pur pay ap q pc 0) (B * c q)) c op 16).2 bs2 tr2) ∧ ShareAt g H bs2 rb kb ∧ ShareAt g H tr2 rt kt ∧ (∀ w, (fcGo (fun q => shr (supL pur pay ap q pc 0) (B * c q)) c op 16).1 = some w → z = nI w.1 ∧ rb = w.2.1 ∧ kb = w.2.2) ∧ ((fcGo (fun q => shr (supL pur pay ap q pc 0) (B * c q)) c op 16).1 = none → z = -1)) (fun q => q = f ∨ (f + 10 ≤ q ∧ q < f + 24)) := by
  refine xr_enter (cc := cX1_findCheapest) (maxL := 3) (ret := (some .int)) (by decide) rfl (Nat.le_of_ble_eq_true rfl) ?_
  intro pgm env s mid below meth cde hx hb hr hml hts hown hlocks hnm hH hK ls hl
  subst hH
  have hl : lv_has ls 3 [(0, .ref f)] := hl
  have hS : va_S (fun q => q = f ∨ (f + 10 ≤ q ∧ q < f + 24)) s.heap s.heap [] := va_S.rf
  have loop : ∀ (n i : Nat), i + n = 16 → ∀ (bs2 tr2 rb kb rt kt : Nat) (x : Int32), (tr2 = f + 10 ∧ bs2 = f + 17 ∨ tr2 = f + 17 ∧ bs2 = f + 10) → (∀ w, (fcGo (fun q => shr (supL pur pay ap q pc 0) (B * c q)) c op i).1 = some w → x = nI w.1 ∧ rb = w.2.1 ∧ kb = w.2.2) → ((fcGo (fun q => shr (supL pur pay ap q pc 0) (B * c q)) c op i).1 = none → x = -1) → ∀ (H : Heap) (locs : List Loc), va_S (fun q => q = f ∨ (f + 10 ≤ q ∧ q < f + 24)) s.heap H locs → NatAt g H (f + 1) B → TownAt g H t c vs ap bu → xr_ia H (f + 6) (gI g) 48 (fun i => nI (pay i)) → PoolAt g H (f + 3) (f + 24) 48 pur → obj g H f 1 (phF f t pc pk ps co (fcGo (fun q => shr (supL pur pay ap q pc 0) (B * c q)) c op i).2 bs2 tr2) → ShareAt g H bs2 rb kb → ShareAt g H tr2 rt kt → ∀ ls : Array Slot, lv_has ls 3 [(2, .int (nI i)), (1, .int x), (0, .ref f)] → W pgm l env { frames := 4, cells := 0, slots := 0, locals := 105 } s mid ([.ref f] : List Value).toArray below meth cde H locs 0 0 (MQ below (xr_Post eI (fun z H => ∃ bs2 tr2 rb kb rt kt : Nat, (tr2 = f + 10 ∧ bs2 = f + 17 ∨ tr2 = f + 17 ∧ bs2 = f + 10) ∧ obj g H f 1 (phF f t pc pk ps co (fcGo (fun q => shr (supL pur pay ap q pc 0) (B * c q)) c op 16).2 bs2 tr2) ∧ ShareAt g H bs2 rb kb ∧ ShareAt g H tr2 rt kt ∧ (∀ w, (fcGo (fun q => shr (supL pur pay ap q pc 0) (B * c q)) c op 16).1 = some w → z = nI w.1 ∧ rb = w.2.1 ∧ kb = w.2.2) ∧ ((fcGo (fun q => shr (supL pur pay ap q pc 0) (B * c q)) c op 16).1 = none → z = -1)) (fun q => q = f ∨ (f + 10 ≤ q ∧ q < f + 24))) ([.ref f] : List Value).toArray s ({ frames := 4, cells := 0, slots := 0, locals := 105 } : Room).cells ({ frames := 4, cells := 0, slots := 0, locals := 105 } : Room).slots (fun q => q = f ∨ (f + 10 ≤ q ∧ q < f + 24))) (F0 mid 4 ls []) := by
    intro n
    induction n with
    | zero =>
      intro i h1 bs2 tr2 rb kb rt kt x htb ha1 ha2 H locs hS hBa hT hPy hPu hO hBs hTr ls hl
      refine lv_iload_n hx hb dX1_findCheapest_4 rfl (lv_at hl 0 rfl) ?_
      refine lv_bipush (v := 16) hx hb dX1_findCheapest_5 (by decide) ?_
      refine lv_icmp_ge (tgt := 75) hx hb dX1_findCheapest_7 (by decide) (fun hc => ?_) (fun hc => ?_)
      · have e : i = 16 := by omega
        subst e
        refine lv_iload_n hx hb dX1_findCheapest_75 rfl (lv_at hl 1 rfl) ?_
        exact xr_iret hx hb hr hlocks hS ⟨bs2, tr2, rb, kb, rt, kt, htb, hO, hBs, hTr, ha1, ha2⟩ dX1_findCheapest_76
      · exact absurd (nI_le (show 16 ≤ i by omega) (by omega)) hc
    | succ n ih =>
      intro i h1 bs2 tr2 rb kb rt kt x htb ha1 ha2 H locs hS hBa hT hPy hPu hO hBs hTr ls hl
      refine lv_iload_n hx hb dX1_findCheapest_4 rfl (lv_at hl 0 rfl) ?_
      refine lv_bipush (v := 16) hx hb dX1_findCheapest_5 (by decide) ?_
      refine lv_icmp_ge (tgt := 75) hx hb dX1_findCheapest_7 (by decide) (fun hc => ?_) (fun hc => ?_)
      · exact absurd ((nI_leI (a := 16) (b := i) (by decide) (by omega)).mp hc) (by omega)
      · clear hc
        have hi : i < 16 := by omega
        have hop2 := fcGo_op (S := (fun q => shr (supL pur pay ap q pc 0) (B * c q))) (c := c) (op := op) i
        have hcpi := hT.2.2.2.1 i hi
        have eS : fcGo (fun q => shr (supL pur pay ap q pc 0) (B * c q)) c op (i + 1) = fcStep (fun q => shr (supL pur pay ap q pc 0) (B * c q)) c i (fcGo (fun q => shr (supL pur pay ap q pc 0) (B * c q)) c op i) := rfl
        generalize hzz : fcGo (fun q => shr (supL pur pay ap q pc 0) (B * c q)) c op i = z at *
        refine lv_aload_n hx hb dX1_findCheapest_10 rfl (lv_at hl 2 rfl) ?_
        refine va_get (D := g.1) (ci := 1) (v := .int (nI z.2)) (C := RX1) (T := TX1) (N := 16) hx hb hts (by decide +kernel) hown hK.1 (xr_one hO) 0 rfl rfl 13 (by decide) (hts (.fieldLink RX1 75 "SharesDesk$Phase" "open" "I") (by decide +kernel)) (fun _ h9 => h9) rfl dX1_findCheapest_11 ?_
        refine lv_iload_n hx hb dX1_findCheapest_14 rfl (lv_at hl 0 rfl) ?_
        refine lv_ishr hx hb dX1_findCheapest_15 ?_
        refine xr_ti (x' := nI (z.2 / 2 ^ i)) (pk_shrN (by omega) _ i (sh32 i (by omega))) ?_
        refine lv_iconst (v := 1) hx hb dX1_findCheapest_16 (by decide) ?_
        refine lv_iand hx hb dX1_findCheapest_17 ?_
        refine xr_ti (x' := nI (z.2 / 2 ^ i % 2)) (pk_andN (Nat.lt_of_le_of_lt (Nat.div_le_self _ _) (by omega)) 1 (by decide)) ?_
        refine lv_if_ne (tgt := 24) hx hb dX1_findCheapest_18 (by decide) (fun h5 => ?_) (fun h5 => ?_)
        · have h6 : z.2.testBit i = true := tb_t fun q => h5 ((nI_inj (by omega) (by decide)).mpr q)
          refine lv_aload_n hx hb dX1_findCheapest_24 rfl (lv_at hl 2 rfl) ?_
          refine lv_iload_n hx hb dX1_findCheapest_25 rfl (lv_at hl 0 rfl) ?_
          refine xr_Vi (rest := []) ⟨hx, hb, hml, hown, hts⟩ (KK_ok g) hK (c_X1_findShare l g H t c vs ap bu hT f pc pk ps co z.2 bs2 tr2 hO hft pay hpc hpay hPy B hBa pur hPu hB hpb rt kt hTr (by omega) i hi) (cwV 1 hts gX1_findCheapest_X1_findShare rfl rfl rfl (by decide +kernel) ⟨Nat.le_of_ble_eq_true rfl, Nat.le_of_ble_eq_true rfl⟩) (xr_rec hK hO rfl) rfl hl.1 rfl (Nat.le_of_ble_eq_true rfl) dX1_findCheapest_26 ⟨Nat.le_of_ble_eq_true rfl, Nat.le_of_ble_eq_true rfl⟩ hS (fun q h => by have h : tr2 ≤ q ∧ q < tr2 + 7 := h; show q = f ∨ (f + 10 ≤ q ∧ q < f + 24); omega) (fun y H locs hq hz hkp hS => ?_)
          replace hkp := fun (q : Nat) h1 (h2 : ¬ (tr2 ≤ q ∧ q < tr2 + 7)) => hkp q h1 h2
          clear hz
          replace hO := hO.kept (hkp _ hO.lt (by omega))
          replace hT := hT.kept (fun q hq1 hq2 hq3 => hkp q hq1 (by omega))
          replace hPy := hPy.kept (hkp _ hPy.lt (by omega))
          replace hPu := hPu.kept (hkp _ hPu.1.lt (by omega)) (fun v hv => hkp _ (hPu.2 v hv).1.lt (by omega)) (fun v hv => hkp _ (hPu.2 v hv).2.1.lt (by omega))
          replace hBa := hBa.kept (hkp _ hBa.1.lt (by omega)) (hkp _ hBa.2.1.lt (by omega))
          replace hBs := hBs.kept (fun q hq1 hq2 hq3 => hkp q hq1 (by omega))
          obtain ⟨rfl, hTr⟩ := hq
          have hl1 := shr_le (supL pur pay ap i pc 0) (B * c i)
          have hl2 := supL_len (pur := pur) (pay := pay) (ap := ap) (p := i) pc 0
          have hl3 : B * c i ≤ B * 1000000 := Nat.mul_le_mul_left B hcpi
          have eSi : (fun q => shr (supL pur pay ap q pc 0) (B * c q)) i = shr (supL pur pay ap i pc 0) (B * c i) := rfl
          generalize hy : shr (supL pur pay ap i pc 0) (B * c i) = y at *
          refine lv_if_ne (tgt := 49) hx hb dX1_findCheapest_29 (by decide) (fun h7 => ?_) (fun h7 => ?_)
          · have h8 : y.1 = true := b2i_n0.mp h7
            refine lv_iload_n hx hb dX1_findCheapest_49 rfl (lv_at hl 1 rfl) ?_
            refine lv_iconst (v := (-1)) hx hb dX1_findCheapest_50 (by decide) ?_
            refine lv_icmp_eq (tgt := 63) hx hb dX1_findCheapest_51 (by decide) (fun h9 => ?_) (fun h9 => ?_)
            · have h10 : z.1 = none := by cases hq : z.1 with | none => rfl | some w => exact absurd ((ha1 w hq).1.symm.trans h9) (nI_m1 (by have := (fcGo_in i w (by rw [hzz]; exact hq)).1; omega))
              refine lv_iload_n hx hb dX1_findCheapest_63 rfl (lv_at hl 0 rfl) ?_
              refine lv_istore_n (lv' := [(1, .int (nI i)), (2, .int (nI i)), (0, .ref f)]) hx hb dX1_findCheapest_64 rfl hl (by decide) rfl (fun ls hl => ?_)
              refine lv_aload_n hx hb dX1_findCheapest_65 rfl (lv_at hl 2 rfl) ?_
              refine xr_Vv (rest := []) ⟨hx, hb, hml, hown, hts⟩ (KK_ok g) hK (c_X1_swapShares l g H t f pc pk ps co z.2 bs2 tr2 hO) (cwV 0 hts gX1_findCheapest_X1_swapShares rfl rfl rfl (by decide +kernel) ⟨Nat.le_of_ble_eq_true rfl, Nat.le_of_ble_eq_true rfl⟩) (xr_rec hK hO rfl) rfl hl.1 rfl (Nat.le_of_ble_eq_true rfl) dX1_findCheapest_66 ⟨Nat.le_of_ble_eq_true rfl, Nat.le_of_ble_eq_true rfl⟩ hS (fun q h => Or.inl h) (fun _ H locs hq hz hkp hS => ?_)
              replace hkp := fun (q : Nat) h1 (h2 : ¬ (q = f)) => hkp q h1 h2
              clear hz
              replace hT := hT.kept (fun q hq1 hq2 hq3 => hkp q hq1 (by omega))
              replace hPy := hPy.kept (hkp _ hPy.lt (by omega))
              replace hPu := hPu.kept (hkp _ hPu.1.lt (by omega)) (fun v hv => hkp _ (hPu.2 v hv).1.lt (by omega)) (fun v hv => hkp _ (hPu.2 v hv).2.1.lt (by omega))
              replace hBa := hBa.kept (hkp _ hBa.1.lt (by omega)) (hkp _ hBa.2.1.lt (by omega))
              replace hTr := hTr.kept (fun q hq1 hq2 hq3 => hkp q hq1 (by omega))
              replace hBs := hBs.kept (fun q hq1 hq2 hq3 => hkp q hq1 (by omega))
              have hO := hq
              refine lv_iinc (v := nI (i + 1)) (lv' := [(2, .int (nI (i + 1))), (1, .int (nI i)), (0, .ref f)]) hx hb dX1_findCheapest_69 hl (k := 1) rfl (nI_1 i) (by decide) rfl (fun ls hl => ?_)
              refine lv_goto (tgt := 4) hx hb dX1_findCheapest_72 (by decide) ?_
              have eZ : fcStep (fun q => shr (supL pur pay ap q pc 0) (B * c q)) c i z = (some (i, y.2), z.2) := by unfold fcStep; rw [if_neg (by rw [h6]; decide), eSi, if_neg (by rw [h8]; decide), h10]
              exact ih (i + 1) (by omega) tr2 bs2 y.2.1 y.2.2 rb kb (nI i) (by omega) (by rw [eS, eZ]; exact (fun w h => by cases h; exact ⟨rfl, rfl, rfl⟩)) (by rw [eS, eZ]; exact (fun h => by cases h)) H locs hS hBa hT hPy hPu (by rw [eS, eZ]; exact hO) hTr hBs ls (lv_sub hl [0, 1, 2] rfl)
            · obtain ⟨w, h10⟩ : ∃ w, z.1 = some w := by cases hq : z.1 with | none => exact absurd (ha2 hq) h9 | some w => exact ⟨w, rfl⟩
              obtain ⟨rfl, rfl, rfl⟩ := ha1 w h10
              obtain ⟨hw1, hw2⟩ := fcGo_in i w (by rw [hzz]; exact h10)
              have hm1 := shr_le (supL pur pay ap w.1 pc 0) (B * c w.1)
              have hm2 := supL_len (pur := pur) (pay := pay) (ap := ap) (p := w.1) pc 0
              have hm3 : B * c w.1 ≤ B * 1000000 := Nat.mul_le_mul_left B (hT.2.2.2.1 w.1 (by omega))
              have hw3 : w.2 = (shr (supL pur pay ap w.1 pc 0) (B * c w.1)).2 := hw2
              rw [← hw3] at hm1
              have hk1 : y.2.1 * w.2.2 < 2 ^ 128 := Nat.lt_of_le_of_lt (Nat.mul_le_mul (show y.2.1 ≤ B * 1000000 by omega) (show w.2.2 ≤ 48 by omega)) (by rw [Nat.mul_assoc]; exact hB)
              have hk2 : w.2.1 * y.2.2 < 2 ^ 128 := Nat.lt_of_le_of_lt (Nat.mul_le_mul (show w.2.1 ≤ B * 1000000 by omega) (show y.2.2 ≤ 48 by omega)) (by rw [Nat.mul_assoc]; exact hB)
              refine lv_aload_n hx hb dX1_findCheapest_54 rfl (lv_at hl 2 rfl) ?_
              refine lv_iload_n hx hb dX1_findCheapest_55 rfl (lv_at hl 0 rfl) ?_
              refine lv_iload_n hx hb dX1_findCheapest_56 rfl (lv_at hl 1 rfl) ?_
              refine xr_Vi (rest := []) ⟨hx, hb, hml, hown, hts⟩ (KK_ok g) hK (c_X1_isBetter l g H t c vs ap bu hT f pc pk ps co z.2 bs2 tr2 hO hft y.2.1 y.2.2 w.2.1 w.2.2 hTr hBs htb (by omega) (by omega) hk1 hk2 i w.1 hi (by omega)) (cwV 2 hts gX1_findCheapest_X1_isBetter rfl rfl rfl (by decide +kernel) ⟨Nat.le_of_ble_eq_true rfl, Nat.le_of_ble_eq_true rfl⟩) (xr_rec hK hO rfl) rfl hl.1 rfl (Nat.le_of_ble_eq_true rfl) dX1_findCheapest_57 ⟨Nat.le_of_ble_eq_true rfl, Nat.le_of_ble_eq_true rfl⟩ hS (fun q h => by have h : q = tr2 + 4 ∨ q = tr2 + 6 := h; show q = f ∨ (f + 10 ≤ q ∧ q < f + 24); omega) (fun v H locs hq hz hkp hS => ?_)
              replace hkp := fun (q : Nat) h1 (h2 : ¬ (q = tr2 + 4 ∨ q = tr2 + 6)) => hkp q h1 h2
              clear hz
              replace hO := hO.kept (hkp _ hO.lt (by omega))
              replace hT := hT.kept (fun q hq1 hq2 hq3 => hkp q hq1 (by omega))
              replace hPy := hPy.kept (hkp _ hPy.lt (by omega))
              replace hPu := hPu.kept (hkp _ hPu.1.lt (by omega)) (fun v hv => hkp _ (hPu.2 v hv).1.lt (by omega)) (fun v hv => hkp _ (hPu.2 v hv).2.1.lt (by omega))
              replace hBa := hBa.kept (hkp _ hBa.1.lt (by omega)) (hkp _ hBa.2.1.lt (by omega))
              replace hBs := hBs.kept (fun q hq1 hq2 hq3 => hkp q hq1 (by omega))
              obtain ⟨rfl, hTr⟩ := hq
              refine lv_if_eq (tgt := 69) hx hb dX1_findCheapest_60 (by decide) (fun h11 => ?_) (fun h11 => ?_)
              · have h12 := b2i_0.mp h11
                have eZ : fcStep (fun q => shr (supL pur pay ap q pc 0) (B * c q)) c i z = z := by unfold fcStep; rw [if_neg (by rw [h6]; decide), eSi, if_neg (by rw [h8]; decide), h10]; dsimp only; rw [if_neg (by rw [h12]; decide)]
                refine lv_iinc (v := nI (i + 1)) (lv' := [(2, .int (nI (i + 1))), (1, .int (nI w.1)), (0, .ref f)]) hx hb dX1_findCheapest_69 hl (k := 0) rfl (nI_1 i) (by decide) rfl (fun ls hl => ?_)
                refine lv_goto (tgt := 4) hx hb dX1_findCheapest_72 (by decide) ?_
                exact ih (i + 1) (by omega) bs2 tr2 w.2.1 w.2.2 y.2.1 y.2.2 (nI w.1) htb (by rw [eS, eZ]; exact ha1) (by rw [eS, eZ]; exact ha2) H locs hS hBa hT hPy hPu (by rw [eS, eZ]; exact hO) hBs hTr ls (lv_sub hl [0, 1, 2] rfl)
              · have h12 := b2i_n0.mp h11
                have eZ : fcStep (fun q => shr (supL pur pay ap q pc 0) (B * c q)) c i z = (some (i, y.2), z.2) := by unfold fcStep; rw [if_neg (by rw [h6]; decide), eSi, if_neg (by rw [h8]; decide), h10]; dsimp only; rw [if_pos h12]
                refine lv_iload_n hx hb dX1_findCheapest_63 rfl (lv_at hl 0 rfl) ?_
                refine lv_istore_n (lv' := [(1, .int (nI i)), (2, .int (nI i)), (0, .ref f)]) hx hb dX1_findCheapest_64 rfl hl (by decide) rfl (fun ls hl => ?_)
                refine lv_aload_n hx hb dX1_findCheapest_65 rfl (lv_at hl 2 rfl) ?_
                refine xr_Vv (rest := []) ⟨hx, hb, hml, hown, hts⟩ (KK_ok g) hK (c_X1_swapShares l g H t f pc pk ps co z.2 bs2 tr2 hO) (cwV 0 hts gX1_findCheapest_X1_swapShares rfl rfl rfl (by decide +kernel) ⟨Nat.le_of_ble_eq_true rfl, Nat.le_of_ble_eq_true rfl⟩) (xr_rec hK hO rfl) rfl hl.1 rfl (Nat.le_of_ble_eq_true rfl) dX1_findCheapest_66 ⟨Nat.le_of_ble_eq_true rfl, Nat.le_of_ble_eq_true rfl⟩ hS (fun q h => Or.inl h) (fun _ H locs hq hz hkp hS => ?_)
                replace hkp := fun (q : Nat) h1 (h2 : ¬ (q = f)) => hkp q h1 h2
                clear hz
                replace hT := hT.kept (fun q hq1 hq2 hq3 => hkp q hq1 (by omega))
                replace hPy := hPy.kept (hkp _ hPy.lt (by omega))
                replace hPu := hPu.kept (hkp _ hPu.1.lt (by omega)) (fun v hv => hkp _ (hPu.2 v hv).1.lt (by omega)) (fun v hv => hkp _ (hPu.2 v hv).2.1.lt (by omega))
                replace hBa := hBa.kept (hkp _ hBa.1.lt (by omega)) (hkp _ hBa.2.1.lt (by omega))
                replace hTr := hTr.kept (fun q hq1 hq2 hq3 => hkp q hq1 (by omega))
                replace hBs := hBs.kept (fun q hq1 hq2 hq3 => hkp q hq1 (by omega))
                have hO := hq
                refine lv_iinc (v := nI (i + 1)) (lv' := [(2, .int (nI (i + 1))), (1, .int (nI i)), (0, .ref f)]) hx hb dX1_findCheapest_69 hl (k := 1) rfl (nI_1 i) (by decide) rfl (fun ls hl => ?_)
                refine lv_goto (tgt := 4) hx hb dX1_findCheapest_72 (by decide) ?_
                exact ih (i + 1) (by omega) tr2 bs2 y.2.1 y.2.2 w.2.1 w.2.2 (nI i) (by omega) (by rw [eS, eZ]; exact (fun w h => by cases h; exact ⟨rfl, rfl, rfl⟩)) (by rw [eS, eZ]; exact (fun h => by cases h)) H locs hS hBa hT hPy hPu (by rw [eS, eZ]; exact hO) hTr hBs ls (lv_sub hl [0, 1, 2] rfl)
          · have h8 : y.1 = false := b2i_0.mp h7
            refine lv_aload_n hx hb dX1_findCheapest_32 rfl (lv_at hl 2 rfl) ?_
            refine lv_dup hx hb dX1_findCheapest_33 rfl ?_
            refine va_get (D := g.1) (ci := 1) (v := .int (nI z.2)) (C := RX1) (T := TX1) (N := 16) hx hb hts (by decide +kernel) hown hK.1 (xr_one hO) 0 rfl rfl 13 (by decide) (hts (.fieldLink RX1 75 "SharesDesk$Phase" "open" "I") (by decide +kernel)) (fun _ h9 => h9) rfl dX1_findCheapest_34 ?_
            refine lv_iconst (v := 1) hx hb dX1_findCheapest_37 (by decide) ?_
            refine lv_iload_n hx hb dX1_findCheapest_38 rfl (lv_at hl 0 rfl) ?_
            refine lv_ishl hx hb dX1_findCheapest_39 ?_
            refine xr_ti (x' := nI (2 ^ i)) (sh1 i (by omega)) ?_
            refine lv_iconst (v := (-1)) hx hb dX1_findCheapest_40 (by decide) ?_
            refine lv_ixor hx hb dX1_findCheapest_41 ?_
            refine lv_iand hx hb dX1_findCheapest_42 ?_
            refine xr_ti (x' := nI (z.2 - 2 ^ i)) (nI_clr (by omega) (by omega) h6) ?_
            refine xr_put (ci := 1) (v := .int (nI (z.2 - 2 ^ i))) (ty := .int) (C := RX1) (T := TX1) (N := 16) hx hb hts (by decide +kernel) tyX1 tyX1_ok nmX1 hown hK.1 hO hS (Or.inl rfl) rfl 13 (by decide) (hts (.fieldLink RX1 75 "SharesDesk$Phase" "open" "I") (by decide +kernel)) rfl (by decide +kernel) rfl rfl (Nat.le_of_ble_eq_true rfl) dX1_findCheapest_43 (fun H locs hz hkp hO hS => ?_)
            replace hT := hT.kept (fun q hq1 hq2 hq3 => hkp q (by omega))
            replace hPy := hPy.kept (hkp _ (by omega))
            replace hPu := hPu.kept (hkp _ (by omega)) (fun v hv => hkp _ (by omega)) (fun v hv => hkp _ (by omega))
            replace hBa := hBa.kept (hkp _ (by omega)) (hkp _ (by omega))
            replace hBs := hBs.kept (fun q hq1 hq2 hq3 => hkp q (by omega))
            replace hTr := hTr.kept (fun q hq1 hq2 hq3 => hkp q (by omega))
            have eZ : fcStep (fun q => shr (supL pur pay ap q pc 0) (B * c q)) c i z = (z.1, z.2 - 2 ^ i) := by unfold fcStep; rw [if_neg (by rw [h6]; decide), eSi, if_pos h8]
            refine lv_goto (tgt := 69) hx hb dX1_findCheapest_46 (by decide) ?_
            refine lv_iinc (v := nI (i + 1)) (lv' := [(2, .int (nI (i + 1))), (1, .int x), (0, .ref f)]) hx hb dX1_findCheapest_69 hl (k := 0) rfl (nI_1 i) (by decide) rfl (fun ls hl => ?_)
            refine lv_goto (tgt := 4) hx hb dX1_findCheapest_72 (by decide) ?_
            exact ih (i + 1) (by omega) bs2 tr2 rb kb y.2.1 y.2.2 x htb (by rw [eS, eZ]; exact ha1) (by rw [eS, eZ]; exact ha2) H locs hS hBa hT hPy hPu (by rw [eS, eZ]; exact hO) hBs hTr ls (lv_sub hl [0, 1, 2] rfl)
        · have h6 : z.2.testBit i = false := tb_f ((nI_inj (by omega) (by decide)).mp h5)
          have eZ : fcStep (fun q => shr (supL pur pay ap q pc 0) (B * c q)) c i z = z := by unfold fcStep; rw [if_pos h6]
          refine lv_goto (tgt := 69) hx hb dX1_findCheapest_21 (by decide) ?_
          refine lv_iinc (v := nI (i + 1)) (lv' := [(2, .int (nI (i + 1))), (1, .int x), (0, .ref f)]) hx hb dX1_findCheapest_69 hl (k := 0) rfl (nI_1 i) (by decide) rfl (fun ls hl => ?_)
          refine lv_goto (tgt := 4) hx hb dX1_findCheapest_72 (by decide) ?_
          exact ih (i + 1) (by omega) bs2 tr2 rb kb rt kt x htb (by rw [eS, eZ]; exact ha1) (by rw [eS, eZ]; exact ha2) H locs hS hBa hT hPy hPu (by rw [eS, eZ]; exact hO) hBs hTr ls (lv_sub hl [0, 1, 2] rfl)
  refine lv_iconst (v := (-1)) hx hb dX1_findCheapest_0 (by decide) ?_
  refine lv_istore_n (lv' := [(1, .int (-1)), (0, .ref f)]) hx hb dX1_findCheapest_1 rfl hl (by decide) rfl (fun ls hl => ?_)
  refine lv_iconst (v := 0) hx hb dX1_findCheapest_2 (by decide) ?_
  refine xr_ti (x' := nI 0) rfl ?_
  refine lv_istore_n (lv' := [(2, .int (nI 0)), (1, .int (-1)), (0, .ref f)]) hx hb dX1_findCheapest_3 rfl hl (by decide) rfl (fun ls hl => ?_)
  exact loop 16 0 (by omega) bs tr r1 k1 r0 k0 (-1) htb (fun w h => by cases h) (fun _ => rfl) s.heap [] hS hBa hT hPy hPu hO hBs hTr ls (lv_sub hl [0, 1, 2] rfl)
