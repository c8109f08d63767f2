set_option maxHeartbeats 400000 in
set_option maxRecDepth 100000 in
theorem c_X6_isProjectNumber (l : Launch) (g : WG) (H0 : Heap) (i : Int32) : Ctr l (KK g) yX6_isProjectNumber wsX6_isProjectNumber { frames := 0, cells := 0, slots := 0, locals := 0 } [.int i] H0 eI (fun r H => r = b2i (inR i 16) ∧ H = H0) (fun _ => False) := by
  refine xr_enter (cc := cX6_isProjectNumber) (maxL := 1) (ret := (some .boolean)) (by decide) rfl (Nat.le_of_ble_eq_true rfl) ?_
  intro pgm env s mid below meth cde hx hb hr hml hts hown hlocks hnm hH hK ls hl
  subst hH
  have hl : lv_has ls 1 [(0, .int i)] := hl
  have hS : va_S (fun _ => False) s.heap s.heap [] := va_S.rf
  refine lv_iload_n hx hb dX6_isProjectNumber_0 rfl (lv_at hl 0 rfl) ?_
  refine lv_if_lt (tgt := 14) hx hb dX6_isProjectNumber_1 (by decide) (fun h0 => ?_) (fun h0 => ?_)
  · have h9 : inR i 16 = false := inR_neg h0
    refine lv_iconst (v := 0) hx hb dX6_isProjectNumber_14 (by decide) ?_
    exact xr_zret hx hb hr rfl hlocks hS ⟨by rw [h9]; rfl, rfl⟩ dX6_isProjectNumber_15
  · obtain ⟨j, hj, rfl⟩ := nI_of h0
    refine lv_iload_n hx hb dX6_isProjectNumber_4 rfl (lv_at hl 0 rfl) ?_
    refine lv_bipush (v := 16) hx hb dX6_isProjectNumber_5 (by decide) ?_
    refine lv_icmp_ge (tgt := 14) hx hb dX6_isProjectNumber_7 (by decide) (fun h4 => ?_) (fun h4 => ?_)
    · have h9 : inR (nI j) 16 = false := inR_no hj ((nI_leI (by decide) hj).mp h4)
      refine lv_iconst (v := 0) hx hb dX6_isProjectNumber_14 (by decide) ?_
      exact xr_zret hx hb hr rfl hlocks hS ⟨by rw [h9]; rfl, rfl⟩ dX6_isProjectNumber_15
    · have h9 : inR (nI j) 16 = true := inR_yes (Nat.lt_of_not_le fun h => h4 (nI_le h hj)) (by decide)
      refine lv_iconst (v := 1) hx hb dX6_isProjectNumber_10 (by decide) ?_
      refine lv_goto (tgt := 15) hx hb dX6_isProjectNumber_11 (by decide) ?_
      exact xr_zret hx hb hr rfl hlocks hS ⟨by rw [h9]; rfl, rfl⟩ dX6_isProjectNumber_15
set_option maxHeartbeats 400000 in
set_option maxRecDepth 100000 in
theorem c_X6_isVoterNumber (l : Launch) (g : WG) (H0 : Heap) (i : Int32) : Ctr l (KK g) yX6_isVoterNumber wsX6_isVoterNumber { frames := 0, cells := 0, slots := 0, locals := 0 } [.int i] H0 eI (fun r H => r = b2i (inR i 48) ∧ H = H0) (fun _ => False) := by
  refine xr_enter (cc := cX6_isVoterNumber) (maxL := 1) (ret := (some .boolean)) (by decide) rfl (Nat.le_of_ble_eq_true rfl) ?_
  intro pgm env s mid below meth cde hx hb hr hml hts hown hlocks hnm hH hK ls hl
  subst hH
  have hl : lv_has ls 1 [(0, .int i)] := hl
  have hS : va_S (fun _ => False) s.heap s.heap [] := va_S.rf
  refine lv_iload_n hx hb dX6_isVoterNumber_0 rfl (lv_at hl 0 rfl) ?_
  refine lv_if_lt (tgt := 14) hx hb dX6_isVoterNumber_1 (by decide) (fun h0 => ?_) (fun h0 => ?_)
  · have h9 : inR i 48 = false := inR_neg h0
    refine lv_iconst (v := 0) hx hb dX6_isVoterNumber_14 (by decide) ?_
    exact xr_zret hx hb hr rfl hlocks hS ⟨by rw [h9]; rfl, rfl⟩ dX6_isVoterNumber_15
  · obtain ⟨j, hj, rfl⟩ := nI_of h0
    refine lv_iload_n hx hb dX6_isVoterNumber_4 rfl (lv_at hl 0 rfl) ?_
    refine lv_bipush (v := 48) hx hb dX6_isVoterNumber_5 (by decide) ?_
    refine lv_icmp_ge (tgt := 14) hx hb dX6_isVoterNumber_7 (by decide) (fun h4 => ?_) (fun h4 => ?_)
    · have h9 : inR (nI j) 48 = false := inR_no hj ((nI_leI (by decide) hj).mp h4)
      refine lv_iconst (v := 0) hx hb dX6_isVoterNumber_14 (by decide) ?_
      exact xr_zret hx hb hr rfl hlocks hS ⟨by rw [h9]; rfl, rfl⟩ dX6_isVoterNumber_15
    · have h9 : inR (nI j) 48 = true := inR_yes (Nat.lt_of_not_le fun h => h4 (nI_le h hj)) (by decide)
      refine lv_iconst (v := 1) hx hb dX6_isVoterNumber_10 (by decide) ?_
      refine lv_goto (tgt := 15) hx hb dX6_isVoterNumber_11 (by decide) ?_
      exact xr_zret hx hb hr rfl hlocks hS ⟨by rw [h9]; rfl, rfl⟩ dX6_isVoterNumber_15
set_option maxHeartbeats 400000 in
set_option maxRecDepth 100000 in
theorem c_X5_hasProject (l : Launch) (g : WG) (H0 : Heap) (a : Nat) (c : Nat → Nat) (vs : Nat) (ap : Nat → Nat) (bu : Nat) (hT : TownAt g H0 a c vs ap bu) (i : Int32) : Ctr l (KK g) yX5_hasProject wsX5_hasProject { frames := 1, cells := 0, slots := 0, locals := 20 } [.ref a, .int i] H0 eI (fun r H => r = b2i (inR i 16 && decide (0 < c (ix i))) ∧ H = H0) (fun _ => False) := by
  refine xr_enter (cc := cX5_hasProject) (maxL := 2) (ret := (some .boolean)) (by decide) rfl (Nat.le_of_ble_eq_true rfl) ?_
  intro pgm env s mid below meth cde hx hb hr hml hts hown hlocks hnm hH hK ls hl
  subst hH
  have hl : lv_has ls 2 [(0, .ref a), (1, .int i)] := hl
  have hS : va_S (fun _ => False) s.heap s.heap [] := va_S.rf
  obtain ⟨hO, hcs, ha, hcb, hvb, hab, hbb⟩ := id hT
  refine lv_iload_n hx hb dX5_hasProject_0 rfl (lv_at hl 1 rfl) ?_
  refine xr_SNi (rest := []) ⟨hx, hb, hml, hown, hts⟩ (KK_ok g) hK (c_X6_isProjectNumber l g s.heap i) ⟨va_cnB 1 hts gX5_hasProject_X6_isProjectNumber_n22 rfl rfl rfl (hK.2.2.1 (RX5, 22, yX6_isProjectNumber) (by decide +kernel)) (hts (.initialized RX6) (by decide +kernel)) (by decide +kernel) ⟨Nat.le_of_ble_eq_true rfl, Nat.le_of_ble_eq_true rfl⟩, (hts (.static yX6_isProjectNumber) (by decide +kernel)), trivial⟩ rfl hl.1 rfl (Nat.le_of_ble_eq_true rfl) dX5_hasProject_1 ⟨Nat.le_of_ble_eq_true rfl, Nat.le_of_ble_eq_true rfl⟩ hS (fun q h => h) (fun r H locs hq hz hkp hS => ?_)
  obtain ⟨rfl, rfl⟩ := hq
  refine lv_if_eq (tgt := 20) hx hb dX5_hasProject_4 (by decide) (fun h0 => ?_) (fun h0 => ?_)
  · have h9 := b2i_0.mp h0
    refine lv_iconst (v := 0) hx hb dX5_hasProject_20 (by decide) ?_
    exact xr_zret hx hb hr rfl hlocks hS ⟨by rw [h9]; rfl, rfl⟩ dX5_hasProject_21
  · have h9 := b2i_n0.mp h0
    obtain ⟨j, hj, rfl⟩ := inR_of h9 (by decide)
    rw [ix_nI (by omega)]
    refine lv_aload_n hx hb dX5_hasProject_7 rfl (lv_at hl 0 rfl) ?_
    refine va_get (D := g.1) (ci := 5) (v := .ref (a + 1)) (C := RX5) (T := TX5) (N := 4) hx hb hts (by decide +kernel) hown hK.1 (xr_one hO) 0 rfl rfl 0 (by decide) (hts (.fieldLink RX5 9 "SharesDesk$Town" "costs" "[I") (by decide +kernel)) (fun _ h9 => h9) rfl dX5_hasProject_8 ?_
    refine lv_iload_n hx hb dX5_hasProject_11 rfl (lv_at hl 1 rfl) ?_
    refine xr_rd hx hb hK hcs hj (by decide) dX5_hasProject_12 ?_
    refine lv_if_le (tgt := 20) hx hb dX5_hasProject_13 (by decide) (fun h4 => ?_) (fun h4 => ?_)
    · have h8 : ¬ 0 < c j := fun q => nI_nle q (by have := hcb j hj; omega) h4
      refine lv_iconst (v := 0) hx hb dX5_hasProject_20 (by decide) ?_
      exact xr_zret hx hb hr rfl hlocks hS ⟨by rw [h9, decide_eq_false h8]; rfl, rfl⟩ dX5_hasProject_21
    · have h8 : 0 < c j := Nat.pos_of_ne_zero fun q => h4 (by rw [q]; decide)
      refine lv_iconst (v := 1) hx hb dX5_hasProject_16 (by decide) ?_
      refine lv_goto (tgt := 21) hx hb dX5_hasProject_17 (by decide) ?_
      exact xr_zret hx hb hr rfl hlocks hS ⟨by rw [h9, decide_eq_true h8]; rfl, rfl⟩ dX5_hasProject_21
set_option maxHeartbeats 400000 in
set_option maxRecDepth 100000 in
theorem c_X5_hasVoter (l : Launch) (g : WG) (H0 : Heap) (a : Nat) (c : Nat → Nat) (vs : Nat) (ap : Nat → Nat) (bu : Nat) (hT : TownAt g H0 a c vs ap bu) (i : Int32) : Ctr l (KK g) yX5_hasVoter wsX5_hasVoter { frames := 1, cells := 0, slots := 0, locals := 20 } [.ref a, .int i] H0 eI (fun r H => r = b2i (inR i 48 && vs.testBit (ix i)) ∧ H = H0) (fun _ => False) := by
  refine xr_enter (cc := cX5_hasVoter) (maxL := 2) (ret := (some .boolean)) (by decide) rfl (Nat.le_of_ble_eq_true rfl) ?_
  intro pgm env s mid below meth cde hx hb hr hml hts hown hlocks hnm hH hK ls hl
  subst hH
  have hl : lv_has ls 2 [(0, .ref a), (1, .int i)] := hl
  have hS : va_S (fun _ => False) s.heap s.heap [] := va_S.rf
  obtain ⟨hO, hcs, ha, hcb, hvb, hab, hbb⟩ := id hT
  refine lv_iload_n hx hb dX5_hasVoter_0 rfl (lv_at hl 1 rfl) ?_
  refine xr_SNi (rest := []) ⟨hx, hb, hml, hown, hts⟩ (KK_ok g) hK (c_X6_isVoterNumber l g s.heap i) ⟨va_cnB 1 hts gX5_hasVoter_X6_isVoterNumber_n26 rfl rfl rfl (hK.2.2.1 (RX5, 26, yX6_isVoterNumber) (by decide +kernel)) (hts (.initialized RX6) (by decide +kernel)) (by decide +kernel) ⟨Nat.le_of_ble_eq_true rfl, Nat.le_of_ble_eq_true rfl⟩, (hts (.static yX6_isVoterNumber) (by decide +kernel)), trivial⟩ rfl hl.1 rfl (Nat.le_of_ble_eq_true rfl) dX5_hasVoter_1 ⟨Nat.le_of_ble_eq_true rfl, Nat.le_of_ble_eq_true rfl⟩ hS (fun q h => h) (fun r H locs hq hz hkp hS => ?_)
  obtain ⟨rfl, rfl⟩ := hq
  refine lv_if_eq (tgt := 24) hx hb dX5_hasVoter_4 (by decide) (fun h0 => ?_) (fun h0 => ?_)
  · have h9 := b2i_0.mp h0
    refine lv_iconst (v := 0) hx hb dX5_hasVoter_24 (by decide) ?_
    exact xr_zret hx hb hr rfl hlocks hS ⟨by rw [h9]; rfl, rfl⟩ dX5_hasVoter_25
  · have h9 := b2i_n0.mp h0
    obtain ⟨j, hj, rfl⟩ := inR_of h9 (by decide)
    rw [ix_nI (by omega)]
    refine lv_aload_n hx hb dX5_hasVoter_7 rfl (lv_at hl 0 rfl) ?_
    refine va_get (D := g.1) (ci := 5) (v := .long (lN vs)) (C := RX5) (T := TX5) (N := 4) hx hb hts (by decide +kernel) hown hK.1 (xr_one hO) 0 rfl rfl 1 (by decide) (hts (.fieldLink RX5 29 "SharesDesk$Town" "voters" "J") (by decide +kernel)) (fun _ h9 => h9) rfl dX5_hasVoter_8 ?_
    refine lv_iload_n hx hb dX5_hasVoter_11 rfl (lv_at hl 1 rfl) ?_
    refine lv_lshr (v := lN (vs / 2 ^ j)) hx hb dX5_hasVoter_12 (pf_shr (sh64 j (by omega)) (by omega)) ?_
    refine lv_lconst (v := 1) hx hb dX5_hasVoter_13 (by decide) ?_
    refine lv_land hx hb dX5_hasVoter_14 ?_
    refine xr_tl (x' := lN (vs / 2 ^ j % 2)) (wb_a1 (Nat.lt_of_le_of_lt (Nat.div_le_self _ _) (by omega))) ?_
    refine lv_lconst (v := 0) hx hb dX5_hasVoter_15 (by decide) ?_
    refine xr_tl (x' := lN 0) rfl ?_
    refine W.lcmp hx hb dX5_hasVoter_16 ?_
    refine lv_if_eq (tgt := 24) hx hb dX5_hasVoter_17 (by decide) (fun h4 => ?_) (fun h4 => ?_)
    · have h8 : vs.testBit j = false := tb_f ((pk_lEQ (by omega) (by decide)).mp ((lg_cmp_eq _ _).mp h4))
      refine lv_iconst (v := 0) hx hb dX5_hasVoter_24 (by decide) ?_
      exact xr_zret hx hb hr rfl hlocks hS ⟨by rw [h9, h8]; rfl, rfl⟩ dX5_hasVoter_25
    · have h8 : vs.testBit j = true := tb_t fun q => h4 ((lg_cmp_eq _ _).mpr ((pk_lEQ (by omega) (by decide)).mpr q))
      refine lv_iconst (v := 1) hx hb dX5_hasVoter_20 (by decide) ?_
      refine lv_goto (tgt := 25) hx hb dX5_hasVoter_21 (by decide) ?_
      exact xr_zret hx hb hr rfl hlocks hS ⟨by rw [h9, h8]; rfl, rfl⟩ dX5_hasVoter_25
set_option maxHeartbeats 400000 in
set_option maxRecDepth 100000 in
theorem c_X5_approves (l : Launch) (g : WG) (H0 : Heap) (a : Nat) (c : Nat → Nat) (vs : Nat) (ap : Nat → Nat) (bu : Nat) (hT : TownAt g H0 a c vs ap bu) (v p0 : Nat) (hv : v < 48) (hp : p0 < 16) : Ctr l (KK g) yX5_approves wsX5_approves { frames := 0, cells := 0, slots := 0, locals := 0 } [.ref a, .int (nI v), .int (nI p0)] H0 eI (fun r H => r = b2i ((ap v).testBit p0) ∧ H = H0) (fun _ => False) := by
  refine xr_enter (cc := cX5_approves) (maxL := 3) (ret := (some .boolean)) (by decide) rfl (Nat.le_of_ble_eq_true rfl) ?_
  intro pgm env s mid below meth cde hx hb hr hml hts hown hlocks hnm hH hK ls hl
  subst hH
  have hl : lv_has ls 3 [(0, .ref a), (1, .int (nI v)), (2, .int (nI p0))] := hl
  have hS : va_S (fun _ => False) s.heap s.heap [] := va_S.rf
  obtain ⟨hO, hcs, ha, hcb, hvb, hab, hbb⟩ := id hT
  have hav := hab v hv
  refine lv_aload_n hx hb dX5_approves_0 rfl (lv_at hl 0 rfl) ?_
  refine va_get (D := g.1) (ci := 5) (v := .ref (a + 2)) (C := RX5) (T := TX5) (N := 4) hx hb hts (by decide +kernel) hown hK.1 (xr_one hO) 0 rfl rfl 2 (by decide) (hts (.fieldLink RX5 15 "SharesDesk$Town" "approvals" "[I") (by decide +kernel)) (fun _ h9 => h9) rfl dX5_approves_1 ?_
  refine lv_iload_n hx hb dX5_approves_4 rfl (lv_at hl 1 rfl) ?_
  refine xr_rd hx hb hK ha hv (by decide) dX5_approves_5 ?_
  refine lv_iload_n hx hb dX5_approves_6 rfl (lv_at hl 2 rfl) ?_
  refine lv_ishr hx hb dX5_approves_7 ?_
  refine xr_ti (x' := nI (ap v / 2 ^ p0)) (pk_shrN (by omega) _ p0 (sh32 p0 (by omega))) ?_
  refine lv_iconst (v := 1) hx hb dX5_approves_8 (by decide) ?_
  refine lv_iand hx hb dX5_approves_9 ?_
  refine xr_ti (x' := nI (ap v / 2 ^ p0 % 2)) (pk_andN (Nat.lt_of_le_of_lt (Nat.div_le_self _ _) (by omega)) 1 (by decide)) ?_
  refine lv_if_eq (tgt := 17) hx hb dX5_approves_10 (by decide) (fun h4 => ?_) (fun h4 => ?_)
  · have h8 : (ap v).testBit p0 = false := tb_f ((nI_inj (by omega) (by decide)).mp h4)
    refine lv_iconst (v := 0) hx hb dX5_approves_17 (by decide) ?_
    exact xr_zret hx hb hr rfl hlocks hS ⟨by rw [h8]; rfl, rfl⟩ dX5_approves_18
  · have h8 : (ap v).testBit p0 = true := tb_t fun q => h4 ((nI_inj (by omega) (by decide)).mpr q)
    refine lv_iconst (v := 1) hx hb dX5_approves_13 (by decide) ?_
    refine lv_goto (tgt := 18) hx hb dX5_approves_14 (by decide) ?_
    exact xr_zret hx hb hr rfl hlocks hS ⟨by rw [h8]; rfl, rfl⟩ dX5_approves_18
set_option maxHeartbeats 400000 in
set_option maxRecDepth 100000 in
theorem c_X5_allProjects (l : Launch) (g : WG) (H0 : Heap) (a : Nat) (c : Nat → Nat) (vs : Nat) (ap : Nat → Nat) (bu : Nat) (hT : TownAt g H0 a c vs ap bu) : Ctr l (KK g) yX5_allProjects wsX5_allProjects { frames := 0, cells := 0, slots := 0, locals := 0 } [.ref a] H0 eI (fun r H => r = nI (setOf c 16) ∧ H = H0) (fun _ => False) := by
  refine xr_enter (cc := cX5_allProjects) (maxL := 3) (ret := (some .int)) (by decide) rfl (Nat.le_of_ble_eq_true rfl) ?_
  intro pgm env s mid below meth cde hx hb hr hml hts hown hlocks hnm hH hK ls hl
  subst hH
  have hl : lv_has ls 3 [(0, .ref a)] := hl
  have hS : va_S (fun _ => False) s.heap s.heap [] := va_S.rf
  obtain ⟨hO, hcs, ha, hcb, hvb, hab, hbb⟩ := id hT
  have loop : ∀ (n i : Nat), i ≤ 16 → 16 < i + n → ∀ ls : Array Slot, lv_has ls 3 [(2, .int (nI i)), (1, .int (nI (setOf c i))), (0, .ref a)] → W pgm l env { frames := 0, cells := 0, slots := 0, locals := 0 } s mid ([.ref a] : List Value).toArray below meth cde s.heap [] 0 0 (MQ below (xr_Post eI (fun r H => r = nI (setOf c 16) ∧ H = s.heap) (fun _ => False)) ([.ref a] : List Value).toArray s ({ frames := 0, cells := 0, slots := 0, locals := 0 } : Room).cells ({ frames := 0, cells := 0, slots := 0, locals := 0 } : Room).slots (fun _ => False)) (F0 mid 4 ls []) := by
    intro n
    induction n with
    | zero => intro i h1 h2; exact absurd h2 (by omega)
    | succ n ih =>
      intro i h1 h2 ls hl
      refine lv_iload_n hx hb dX5_allProjects_4 rfl (lv_at hl 0 rfl) ?_
      refine lv_bipush (v := 16) hx hb dX5_allProjects_5 (by decide) ?_
      refine lv_icmp_ge (tgt := 31) hx hb dX5_allProjects_7 (by decide) (fun hc => ?_) (fun hc => ?_)
      · have e4 : i = 16 := by have := (nI_leI (a := 16) (b := i) (by decide) (by omega)).mp hc; omega
        subst e4
        refine lv_iload_n hx hb dX5_allProjects_31 rfl (lv_at hl 1 rfl) ?_
        exact xr_iret hx hb hr hlocks hS ⟨rfl, rfl⟩ dX5_allProjects_32
      · have h4 : i < 16 := Nat.lt_of_not_le fun h => hc (nI_le h (by omega))
        refine lv_aload_n hx hb dX5_allProjects_10 rfl (lv_at hl 2 rfl) ?_
        refine va_get (D := g.1) (ci := 5) (v := .ref (a + 1)) (C := RX5) (T := TX5) (N := 4) hx hb hts (by decide +kernel) hown hK.1 (xr_one hO) 0 rfl rfl 0 (by decide) (hts (.fieldLink RX5 9 "SharesDesk$Town" "costs" "[I") (by decide +kernel)) (fun _ h9 => h9) rfl dX5_allProjects_11 ?_
        refine lv_iload_n hx hb dX5_allProjects_14 rfl (lv_at hl 0 rfl) ?_
        refine xr_rd hx hb hK hcs h4 (by decide) dX5_allProjects_15 ?_
        refine lv_if_le (tgt := 25) hx hb dX5_allProjects_16 (by decide) (fun h5 => ?_) (fun h5 => ?_)
        · have h8 : c i = 0 := by have := hcb i h4; exact Nat.eq_zero_of_not_pos fun q => nI_nle q (by omega) h5
          refine lv_iinc (v := nI (i + 1)) (lv' := [(2, .int (nI (i + 1))), (1, .int (nI (setOf c i))), (0, .ref a)]) hx hb dX5_allProjects_25 hl (k := 0) rfl (nI_1 i) (by decide) rfl (fun ls hl => ?_)
          refine lv_goto (tgt := 4) hx hb dX5_allProjects_28 (by decide) ?_
          exact ih (i + 1) (by omega) (by omega) ls (by rw [setOf_no h8]; exact lv_sub hl [0, 1, 2] rfl)
        · have h8 : 0 < c i := Nat.pos_of_ne_zero fun q => h5 (by rw [q]; decide)
          refine lv_iload_n hx hb dX5_allProjects_19 rfl (lv_at hl 1 rfl) ?_
          refine lv_iconst (v := 1) hx hb dX5_allProjects_20 (by decide) ?_
          refine lv_iload_n hx hb dX5_allProjects_21 rfl (lv_at hl 0 rfl) ?_
          refine lv_ishl hx hb dX5_allProjects_22 ?_
          refine xr_ti (x' := nI (2 ^ i)) (sh1 i (by omega)) ?_
          refine lv_ior hx hb dX5_allProjects_23 ?_
          refine xr_ti (x' := nI (setOf c (i + 1))) (by rw [setOf_or h4 h8]) ?_
          refine lv_istore_n (lv' := [(1, .int (nI (setOf c (i + 1)))), (2, .int (nI i)), (0, .ref a)]) hx hb dX5_allProjects_24 rfl hl (by decide) rfl (fun ls hl => ?_)
          refine lv_iinc (v := nI (i + 1)) (lv' := [(2, .int (nI (i + 1))), (1, .int (nI (setOf c (i + 1)))), (0, .ref a)]) hx hb dX5_allProjects_25 hl (k := 1) rfl (nI_1 i) (by decide) rfl (fun ls hl => ?_)
          refine lv_goto (tgt := 4) hx hb dX5_allProjects_28 (by decide) ?_
          exact ih (i + 1) (by omega) (by omega) ls (lv_sub hl [0, 1, 2] rfl)
  refine lv_iconst (v := 0) hx hb dX5_allProjects_0 (by decide) ?_
  refine xr_ti (x' := nI (setOf c 0)) rfl ?_
  refine lv_istore_n (lv' := [(1, .int (nI (setOf c 0))), (0, .ref a)]) hx hb dX5_allProjects_1 rfl hl (by decide) rfl (fun ls hl => ?_)
  refine lv_iconst (v := 0) hx hb dX5_allProjects_2 (by decide) ?_
  refine xr_ti (x' := nI 0) rfl ?_
  refine lv_istore_n (lv' := [(2, .int (nI 0)), (1, .int (nI (setOf c 0))), (0, .ref a)]) hx hb dX5_allProjects_3 rfl hl (by decide) rfl (fun ls hl => ?_)
  exact loop 17 0 (by omega) (by omega) ls (lv_sub hl [0, 1, 2] rfl)
set_option maxHeartbeats 400000 in
set_option maxRecDepth 100000 in
theorem c_X5_costOf (l : Launch) (g : WG) (H0 : Heap) (a : Nat) (c : Nat → Nat) (vs : Nat) (ap : Nat → Nat) (bu : Nat) (hT : TownAt g H0 a c vs ap bu) (st : Nat) (hst : st < 2 ^ 16) : Ctr l (KK g) yX5_costOf wsX5_costOf { frames := 0, cells := 0, slots := 0, locals := 0 } [.ref a, .int (nI st)] H0 eI (fun r H => r = nI (costOf c st 16) ∧ H = H0) (fun _ => False) := by
  refine xr_enter (cc := cX5_costOf) (maxL := 4) (ret := (some .int)) (by decide) rfl (Nat.le_of_ble_eq_true rfl) ?_
  intro pgm env s mid below meth cde hx hb hr hml hts hown hlocks hnm hH hK ls hl
  subst hH
  have hl : lv_has ls 4 [(0, .ref a), (1, .int (nI st))] := hl
  have hS : va_S (fun _ => False) s.heap s.heap [] := va_S.rf
  obtain ⟨hO, hcs, ha, hcb, hvb, hab, hbb⟩ := id hT
  have loop : ∀ (n i : Nat), i ≤ 16 → 16 < i + n → ∀ ls : Array Slot, lv_has ls 4 [(3, .int (nI i)), (2, .int (nI (costOf c st i))), (0, .ref a), (1, .int (nI st))] → W pgm l env { frames := 0, cells := 0, slots := 0, locals := 0 } s mid ([.ref a, .int (nI st)] : List Value).toArray below meth cde s.heap [] 0 0 (MQ below (xr_Post eI (fun r H => r = nI (costOf c st 16) ∧ H = s.heap) (fun _ => False)) ([.ref a, .int (nI st)] : List Value).toArray s ({ frames := 0, cells := 0, slots := 0, locals := 0 } : Room).cells ({ frames := 0, cells := 0, slots := 0, locals := 0 } : Room).slots (fun _ => False)) (F0 mid 4 ls []) := by
    intro n
    induction n with
    | zero => intro i h1 h2; exact absurd h2 (by omega)
    | succ n ih =>
      intro i h1 h2 ls hl
      refine lv_iload_n hx hb dX5_costOf_4 rfl (lv_at hl 0 rfl) ?_
      refine lv_bipush (v := 16) hx hb dX5_costOf_5 (by decide) ?_
      refine lv_icmp_ge (tgt := 33) hx hb dX5_costOf_7 (by decide) (fun hc => ?_) (fun hc => ?_)
      · have e4 : i = 16 := by have := (nI_leI (a := 16) (b := i) (by decide) (by omega)).mp hc; omega
        subst e4
        refine lv_iload_n hx hb dX5_costOf_33 rfl (lv_at hl 1 rfl) ?_
        exact xr_iret hx hb hr hlocks hS ⟨rfl, rfl⟩ dX5_costOf_34
      · have h4 : i < 16 := Nat.lt_of_not_le fun h => hc (nI_le h (by omega))
        refine lv_iload_n hx hb dX5_costOf_10 rfl (lv_at hl 3 rfl) ?_
        refine lv_iload_n hx hb dX5_costOf_11 rfl (lv_at hl 0 rfl) ?_
        refine lv_ishr hx hb dX5_costOf_12 ?_
        refine xr_ti (x' := nI (st / 2 ^ i)) (pk_shrN (by omega) _ i (sh32 i (by omega))) ?_
        refine lv_iconst (v := 1) hx hb dX5_costOf_13 (by decide) ?_
        refine lv_iand hx hb dX5_costOf_14 ?_
        refine xr_ti (x' := nI (st / 2 ^ i % 2)) (pk_andN (Nat.lt_of_le_of_lt (Nat.div_le_self _ _) (by omega)) 1 (by decide)) ?_
        refine lv_if_eq (tgt := 27) hx hb dX5_costOf_15 (by decide) (fun h5 => ?_) (fun h5 => ?_)
        · have h8 : st.testBit i = false := tb_f ((nI_inj (by omega) (by decide)).mp h5)
          refine lv_iinc (v := nI (i + 1)) (lv' := [(3, .int (nI (i + 1))), (2, .int (nI (costOf c st i))), (0, .ref a), (1, .int (nI st))]) hx hb dX5_costOf_27 hl (k := 0) rfl (nI_1 i) (by decide) rfl (fun ls hl => ?_)
          refine lv_goto (tgt := 4) hx hb dX5_costOf_30 (by decide) ?_
          exact ih (i + 1) (by omega) (by omega) ls (by rw [costOf_no h8]; exact lv_sub hl [0, 1, 2, 3] rfl)
        · have h8 : st.testBit i = true := tb_t fun q => h5 ((nI_inj (by omega) (by decide)).mpr q)
          refine lv_iload_n hx hb dX5_costOf_18 rfl (lv_at hl 1 rfl) ?_
          refine lv_aload_n hx hb dX5_costOf_19 rfl (lv_at hl 2 rfl) ?_
          refine va_get (D := g.1) (ci := 5) (v := .ref (a + 1)) (C := RX5) (T := TX5) (N := 4) hx hb hts (by decide +kernel) hown hK.1 (xr_one hO) 0 rfl rfl 0 (by decide) (hts (.fieldLink RX5 9 "SharesDesk$Town" "costs" "[I") (by decide +kernel)) (fun _ h9 => h9) rfl dX5_costOf_20 ?_
          refine lv_iload_n hx hb dX5_costOf_23 rfl (lv_at hl 0 rfl) ?_
          refine xr_rd hx hb hK hcs h4 (by decide) dX5_costOf_24 ?_
          refine lv_iadd hx hb dX5_costOf_25 ?_
          refine xr_ti (x' := nI (costOf c st (i + 1))) (by rw [nI_add, costOf_yes h8]) ?_
          refine lv_istore_n (lv' := [(2, .int (nI (costOf c st (i + 1)))), (3, .int (nI i)), (0, .ref a), (1, .int (nI st))]) hx hb dX5_costOf_26 rfl hl (by decide) rfl (fun ls hl => ?_)
          refine lv_iinc (v := nI (i + 1)) (lv' := [(3, .int (nI (i + 1))), (2, .int (nI (costOf c st (i + 1)))), (0, .ref a), (1, .int (nI st))]) hx hb dX5_costOf_27 hl (k := 1) rfl (nI_1 i) (by decide) rfl (fun ls hl => ?_)
          refine lv_goto (tgt := 4) hx hb dX5_costOf_30 (by decide) ?_
          exact ih (i + 1) (by omega) (by omega) ls (lv_sub hl [0, 1, 2, 3] rfl)
  refine lv_iconst (v := 0) hx hb dX5_costOf_0 (by decide) ?_
  refine xr_ti (x' := nI (costOf c st 0)) rfl ?_
  refine lv_istore_n (lv' := [(2, .int (nI (costOf c st 0))), (0, .ref a), (1, .int (nI st))]) hx hb dX5_costOf_1 rfl hl (by decide) rfl (fun ls hl => ?_)
  refine lv_iconst (v := 0) hx hb dX5_costOf_2 (by decide) ?_
  refine xr_ti (x' := nI 0) rfl ?_
  refine lv_istore_n (lv' := [(3, .int (nI 0)), (2, .int (nI (costOf c st 0))), (0, .ref a), (1, .int (nI st))]) hx hb dX5_costOf_3 rfl hl (by decide) rfl (fun ls hl => ?_)
  exact loop 17 0 (by omega) (by omega) ls (lv_sub hl [0, 1, 2, 3] rfl)
