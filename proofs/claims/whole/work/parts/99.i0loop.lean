/-! the law's loop -/
theorem lw_sw (x : Int32) : ∃ j : Nat, j < 32 ∧ x &&& 31 = nI j := by
  have h1 : (x &&& 31).toBitVec.toNat = x.toBitVec.toNat &&& 31 := by
    rw [Int32.toBitVec_and, BitVec.toNat_and]
    rfl
  have h2 : (x &&& 31).toBitVec.toNat ≤ 31 := by
    rw [h1]
    exact Nat.and_le_right
  refine ⟨(x &&& 31).toBitVec.toNat, by omega, ?_⟩
  apply Int32.toBitVec_inj.mp
  apply BitVec.eq_of_toNat_eq
  rw [nI_tn, Nat.mod_eq_of_lt (by omega)]
theorem lw_end {L i : Nat} (hL : L ≤ 2560) (hi : i ≤ 3000) : (Int32.ofNat L - 5 < nI i) ↔ ¬ i + 5 ≤ L := by
  by_cases h5 : 5 ≤ L
  · have e : Int32.ofNat L - 5 = nI (L - 5) := by
      have h := nI_add (L - 5) 5
      rw [show L - 5 + 5 = L by omega] at h
      show nI L - nI 5 = _
      rw [← h, Int32.add_sub_cancel]
    rw [e, nI_ltI (by omega) (by omega)]
    omega
  · have h0 : Int32.ofNat L - 5 < nI 0 := by
      rcases (show L = 0 ∨ L = 1 ∨ L = 2 ∨ L = 3 ∨ L = 4 by omega) with rfl | rfl | rfl | rfl | rfl <;> decide
    have h1 : nI 0 ≤ nI i := nI_le (by omega) (by omega)
    exact ⟨fun _ => by omega, fun _ => Int32.lt_of_lt_of_le h0 h1⟩
set_option maxHeartbeats 1000000 in
set_option maxRecDepth 100000 in
theorem lw_loop (l : Launch) (g : WG) (pgm : Program) (env : Env) (s : State) (mid : MethodId) (below : List Frame) (meth : Method) (cde : Code) (b0 L : Nat) (xs : Nat → Int32) (hx : pgm.tables.exec = Jvm.exec) (hb : cde.code = cL_law) (hml : cde.maxLocals = 7) (hts : ∀ w ∈ wsL_law, w.before #[Value.ref b0] s = true) (hown : s.vm.findClass RL = some mid.cls) (hK : KK g s) (hX : va_X b0 L xs s s.heap) (hb0 : b0 < s.heap.size) (hL : L ≤ 2560) (a : Nat) (ha : a = s.heap.size) (sa sb : Nat) (hl9 : l.stackTraces = false) (hKX : KX (fun q => a ≤ q) s.heap sa sb s) (hr : meth.sig.returnType = ret) (hlocks : meth.locks = false) : ∀ (d k : Nat), k + d = 513 → ∀ (H : Heap) (locs : List Loc) (ls : Array Slot), JT g H a → va_S (fun q => a ≤ q) s.heap H locs → lv_has ls 7 [(4, .int (nI (5 * k))), (3, .ref (a + 591)), (2, .ref (a + 579)), (1, .ref a), (0, .ref b0)] → W pgm l env room_1 s mid #[Value.ref b0] below meth cde H locs (592 + k) (16541 + 6 * k) (lw_Z below #[Value.ref b0] s) (F0 mid 23 ls []) := by
  have hbA : ¬ a ≤ b0 := by omega
  intro d
  induction d with
  | zero =>
    intro k hk H locs ls hJ hS hl
    refine lv_iload hx hb dL_law_23 (lv_at hl 0 rfl) ?_
    refine lv_aload_n hx hb dL_law_25 rfl (lv_at hl 4 rfl) ?_
    refine va_slen hx hb hX hb0 hbA hS dL_law_26 ?_
    refine lv_iconst (v := 5) hx hb dL_law_27 (by decide) ?_
    refine lv_isub hx hb dL_law_28 ?_
    refine lv_icmp_gt (tgt := 773) hx hb dL_law_29 (by decide) (fun hc => ?_) (fun hc => ?_)
    · refine lv_iconst (v := 1) hx hb dL_law_773 (by decide) ?_
      refine W.widen (k := 601024) (n := 7293034) (by omega) (by omega) ?_
      exact va_forget (fun q hq => ha ▸ hS.2.2 q hq) (lw_ret hx hb hr hlocks dL_law_774)
    · exact absurd ((lw_end hL (by omega)).mpr (by omega)) hc
  | succ d ih =>
    intro k hk H locs ls hJ hS hl
    refine lv_iload hx hb dL_law_23 (lv_at hl 0 rfl) ?_
    refine lv_aload_n hx hb dL_law_25 rfl (lv_at hl 4 rfl) ?_
    refine va_slen hx hb hX hb0 hbA hS dL_law_26 ?_
    refine lv_iconst (v := 5) hx hb dL_law_27 (by decide) ?_
    refine lv_isub hx hb dL_law_28 ?_
    refine lv_icmp_gt (tgt := 773) hx hb dL_law_29 (by decide) (fun hc => ?_) (fun hc => ?_)
    · refine lv_iconst (v := 1) hx hb dL_law_773 (by decide) ?_
      refine W.widen (k := 601024) (n := 7293034) (by omega) (by omega) ?_
      exact va_forget (fun q hq => ha ▸ hS.2.2 q hq) (lw_ret hx hb hr hlocks dL_law_774)
    · have hi : 5 * k + 5 ≤ L := Decidable.not_not.mp (fun q => hc ((lw_end hL (by omega)).mpr q))
      clear hc
      have kk : ∀ (H1 : Heap) (locs1 : List Loc) (ls1 : Array Slot), JT g H1 a → va_S (fun q => a ≤ q) s.heap H1 locs1 → lv_has ls1 7 [(4, .int (nI (5 * k))), (3, .ref (a + 591)), (2, .ref (a + 579)), (1, .ref a), (0, .ref b0)] → W pgm l env room_1 s mid #[Value.ref b0] below meth cde H1 locs1 (592 + k + 1) (16541 + 6 * k + 6) (lw_Z below #[Value.ref b0] s) (F0 mid 767 ls1 []) := by
        intro H1 locs1 ls1 hJ hS hl
        refine lv_iinc (v := nI (5 * (k + 1))) (lv' := [(4, .int (nI (5 * (k + 1)))), (3, .ref (a + 591)), (2, .ref (a + 579)), (1, .ref a), (0, .ref b0)]) hx hb dL_law_767 hl (k := 0) rfl (nI_add (5 * k) 5) (by decide) rfl (fun ls hl => ?_)
        refine lv_goto (tgt := 23) hx hb dL_law_770 (by decide) ?_
        refine W.widen (k := 592 + (k + 1)) (n := 16541 + 6 * (k + 1)) (by omega) (by omega) ?_
        exact ih (k + 1) (by omega) H1 locs1 ls hJ hS hl
      refine lv_aload_n hx hb dL_law_32 rfl (lv_at hl 4 rfl) ?_
      refine lv_iload hx hb dL_law_33 (lv_at hl 0 rfl) ?_
      refine va_sld hx hb hX hb0 hbA hS (vp_in_nI (show 5 * k < L by omega) (by omega)) dL_law_35 ?_
      refine lv_bipush (v := 31) hx hb dL_law_36 (by decide) ?_
      refine lv_iand hx hb dL_law_38 ?_
      obtain ⟨j, hj, ej⟩ := lw_sw (xs (nI (5 * k)).toNatClampNeg)
      refine xr_ti (x' := nI j) ej ?_
      clear ej
      by_cases h16 : j ≤ 16
      · rcases (show j = 0 ∨ j = 1 ∨ j = 2 ∨ j = 3 ∨ j = 4 ∨ j = 5 ∨ j = 6 ∨ j = 7 ∨ j = 8 ∨ j = 9 ∨ j = 10 ∨ j = 11 ∨ j = 12 ∨ j = 13 ∨ j = 14 ∨ j = 15 ∨ j = 16 by omega) with rfl | rfl | rfl | rfl | rfl | rfl | rfl | rfl | rfl | rfl | rfl | rfl | rfl | rfl | rfl | rfl | rfl
        · exact lv_tableIn (off := 81) (tgt := 120) hx hb dL_law_39 (by decide) (by decide) (by decide) (by decide) (lwC_0 l g pgm env s mid below meth cde b0 L xs hx hb hml hts hown hK hX hb0 hL a ha H locs (592 + k) (16541 + 6 * k) (5 * k) hi (by omega) (by omega) hJ hS ls hl kk)
        · exact lv_tableIn (off := 118) (tgt := 157) hx hb dL_law_39 (by decide) (by decide) (by decide) (by decide) (lwC_1 l g pgm env s mid below meth cde b0 L xs hx hb hml hts hown hK hX hb0 hL a ha H locs (592 + k) (16541 + 6 * k) (5 * k) hi (by omega) (by omega) hJ hS ls hl kk)
        · exact lv_tableIn (off := 143) (tgt := 182) hx hb dL_law_39 (by decide) (by decide) (by decide) (by decide) (lwC_2 l g pgm env s mid below meth cde b0 L xs hx hb hml hts hown hK hX hb0 hL a ha H locs (592 + k) (16541 + 6 * k) (5 * k) hi (by omega) (by omega) hJ hS ls hl kk)
        · exact lv_tableIn (off := 168) (tgt := 207) hx hb dL_law_39 (by decide) (by decide) (by decide) (by decide) (lwC_3 l g pgm env s mid below meth cde b0 L xs hx hb hml hts hown hK hX hb0 hL a ha H locs (592 + k) (16541 + 6 * k) (5 * k) hi (by omega) (by omega) hJ hS ls hl kk)
        · exact lv_tableIn (off := 193) (tgt := 232) hx hb dL_law_39 (by decide) (by decide) (by decide) (by decide) (lwC_4 l g pgm env s mid below meth cde b0 L xs hx hb hml hts hown hK hX hb0 hL a ha H locs (592 + k) (16541 + 6 * k) (5 * k) hi (by omega) (by omega) hJ hS ls hl kk)
        · exact lv_tableIn (off := 218) (tgt := 257) hx hb dL_law_39 (by decide) (by decide) (by decide) (by decide) (lwC_5 l g pgm env s mid below meth cde b0 L xs hx hb hml hts hown hK hX hb0 hL a ha H locs (592 + k) (16541 + 6 * k) (5 * k) hi (by omega) (by omega) hJ hS ls hl kk)
        · exact lv_tableIn (off := 283) (tgt := 322) hx hb dL_law_39 (by decide) (by decide) (by decide) (by decide) (lwC_6 l g pgm env s mid below meth cde b0 L xs hx hb hml hts hown hK hX hb0 hL a ha H locs (592 + k) (16541 + 6 * k) (5 * k) hi (by omega) (by omega) hJ hS ls hl kk)
        · exact lv_tableIn (off := 296) (tgt := 335) hx hb dL_law_39 (by decide) (by decide) (by decide) (by decide) (lwC_7 l g pgm env s mid below meth cde b0 L xs hx hb hml hts hown hK hX hb0 hL a ha sa sb hl9 hKX H locs (592 + k) (16541 + 6 * k) (5 * k) hi (by omega) (by omega) hJ hS ls hl kk)
        · exact lv_tableIn (off := 364) (tgt := 403) hx hb dL_law_39 (by decide) (by decide) (by decide) (by decide) (lwC_8 l g pgm env s mid below meth cde b0 L xs hx hb hml hts hown hK hX hb0 hL a ha H locs (592 + k) (16541 + 6 * k) (5 * k) hi (by omega) (by omega) hJ hS ls hl kk)
        · exact lv_tableIn (off := 389) (tgt := 428) hx hb dL_law_39 (by decide) (by decide) (by decide) (by decide) (lwC_9 l g pgm env s mid below meth cde b0 L xs hx hb hml hts hown hK hX hb0 hL a ha H locs (592 + k) (16541 + 6 * k) (5 * k) hi (by omega) (by omega) hJ hS ls hl kk)
        · exact lv_tableIn (off := 402) (tgt := 441) hx hb dL_law_39 (by decide) (by decide) (by decide) (by decide) (lwC_10 l g pgm env s mid below meth cde b0 L xs hx hb hml hts hown hK hX hb0 hL a ha H locs (592 + k) (16541 + 6 * k) (5 * k) hi (by omega) (by omega) hJ hS ls hl kk)
        · exact lv_tableIn (off := 451) (tgt := 490) hx hb dL_law_39 (by decide) (by decide) (by decide) (by decide) (lwC_11 l g pgm env s mid below meth cde b0 L xs hx hb hml hts hown hK hX hb0 hL a ha H locs (592 + k) (16541 + 6 * k) (5 * k) hi (by omega) (by omega) hJ hS ls hl kk)
        · exact lv_tableIn (off := 512) (tgt := 551) hx hb dL_law_39 (by decide) (by decide) (by decide) (by decide) (lwC_12 l g pgm env s mid below meth cde b0 L xs hx hb hml hts hown hK hX hb0 hL a ha H locs (592 + k) (16541 + 6 * k) (5 * k) hi (by omega) (by omega) hJ hS ls hl kk)
        · exact lv_tableIn (off := 561) (tgt := 600) hx hb dL_law_39 (by decide) (by decide) (by decide) (by decide) (lwC_13 l g pgm env s mid below meth cde b0 L xs hx hb hml hts hown hK hX hb0 hL a ha H locs (592 + k) (16541 + 6 * k) (5 * k) hi (by omega) (by omega) hJ hS ls hl kk)
        · exact lv_tableIn (off := 610) (tgt := 649) hx hb dL_law_39 (by decide) (by decide) (by decide) (by decide) (lwC_14 l g pgm env s mid below meth cde b0 L xs hx hb hml hts hown hK hX hb0 hL a ha H locs (592 + k) (16541 + 6 * k) (5 * k) hi (by omega) (by omega) hJ hS ls hl kk)
        · exact lv_tableIn (off := 635) (tgt := 674) hx hb dL_law_39 (by decide) (by decide) (by decide) (by decide) (lwC_15 l g pgm env s mid below meth cde b0 L xs hx hb hml hts hown hK hX hb0 hL a ha sa sb hl9 hKX H locs (592 + k) (16541 + 6 * k) (5 * k) hi (by omega) (by omega) hJ hS ls hl kk)
        · exact lv_tableIn (off := 691) (tgt := 730) hx hb dL_law_39 (by decide) (by decide) (by decide) (by decide) (lwC_16 l g pgm env s mid below meth cde b0 L xs hx hb hml hts hown hK hX hb0 hL a ha H locs (592 + k) (16541 + 6 * k) (5 * k) hi (by omega) (by omega) hJ hS ls hl kk)
      · refine lv_tableOut (tgt := 767) hx hb dL_law_39 (Or.inr (by rw [nI_toInt (by omega)]; omega)) (by decide) ?_
        refine W.widen (k := 592 + k + 1) (n := 16541 + 6 * k + 6) (by omega) (by omega) ?_
        exact kk H locs ls hJ hS hl
