/-! the law's entry -/
theorem ans0 : Ans (fun _ => 0) 0 (fun _ => 0) 0 0 ((0, 0, 0, 0, 0, fun _ => 0, fun _ => 0, fun _ => 0, fun _ => 0, fun _ => 0, fun _ => 0, fun _ => 0) : PSt) (fun _ => 0) (fun _ => 0) (fun _ => false) := by
  have hno : ((0 : Nat) ≠ 0 ∨ ∃ p : Nat, p < 16 ∧ 0 < (fun _ : Nat => (0 : Nat)) p) → False := fun h => h.elim (fun q => q rfl) (fun ⟨p, _, q⟩ => absurd q (Nat.lt_irrefl 0))
  refine ⟨⟨by decide, fun i h => absurd h (Nat.not_lt_zero _), fun v _ => Nat.zero_le _, by decide, by decide, fun i h => absurd h (Nat.not_lt_zero _), by decide, fun h => (hno h).elim, fun i h => absurd h (Nat.not_lt_zero _), by decide, fun p _ h => absurd h (Nat.lt_irrefl 0)⟩, ⟨by decide, fun i h => absurd h (Nat.not_lt_zero _), fun v _ => Nat.zero_le _, Nat.zero_le _, fun i h => absurd h (Nat.not_lt_zero _), fun i v h => absurd h (Nat.not_lt_zero _), fun h => (hno h).elim, fun p _ h => absurd h (Nat.lt_irrefl 0)⟩, by decide, fun i h => absurd h (Nat.not_lt_zero _), fun q _ => (Nat.zero_testBit q).symm, fun q _ => ⟨fun h => Bool.noConfusion h, fun ⟨i, h, _⟩ => absurd h (Nat.not_lt_zero _)⟩, rfl, fun h => (hno h).elim, fun v _ h => absurd h (by rw [Nat.zero_testBit]; decide), fun p _ => ?_⟩
  rw [sg_zero 48 (fun v _ => by unfold suM; split <;> rfl)]
  rfl
theorem law_m1 : ∀ w ∈ wsL_law0_r1, w ∈ wsL_law := fun w h => List.mem_append_left _ (List.mem_append_left _ (List.mem_append_left _ (List.mem_append_left _ (List.mem_append_left _ (List.mem_append_left _ (List.mem_append_left _ (List.mem_append_left _ (List.mem_append_left _ (List.mem_append_left _ (List.mem_append_left _ h))))))))))
set_option maxHeartbeats 1000000 in
set_option maxRecDepth 100000 in
theorem lw_enter (l : Launch) (g : WG) (pgm : Program) (env : Env) (s : State) (mid : MethodId) (below : List Frame) (meth : Method) (cde : Code) (b0 L : Nat) (xs : Nat → Int32) (hx : pgm.tables.exec = Jvm.exec) (hb : cde.code = cL_law) (hml : cde.maxLocals = 7) (hts : ∀ w ∈ wsL_law, w.before #[Value.ref b0] s = true) (hown : s.vm.findClass RL = some mid.cls) (hK : KK g s) (hts0 : ∀ w ∈ lw_tbl, w.before #[Value.ref b0] s = true) (hX : va_X b0 L xs s s.heap) (hb0 : b0 < s.heap.size) (hL : L ≤ 2560) (a : Nat) (ha : a = s.heap.size) (sa sb : Nat) (hl9 : l.stackTraces = false) (hKX : KX (fun q => a ≤ q) s.heap sa sb s) (hr : meth.sig.returnType = ret) (hlocks : meth.locks = false) (hPr : PrimesAt g s.heap) (hp1 : g.2.2.1.1 < a) (hp2 : g.2.2.2.2.1 < a) (ls : Array Slot) (hl : lv_has ls 7 [(0, .ref b0)]) : W pgm l env room_1 s mid #[Value.ref b0] below meth cde s.heap [] 0 0 (lw_Z below #[Value.ref b0] s) (F0 mid 0 ls []) := by
  have hsz : s.heap.size = a := ha.symm
  have hS : va_S (fun q => a ≤ q) s.heap s.heap [] := va_S.rf
  refine xr_new (ci := 6) (fs := [.null, .null, .null, .null, .null, .null, .null]) (C := RX6) (T := TX6) (N := 7) hx hb (fun w h => hts0 w (ml_wsX60 w h)) (fun w h => h) tyX6 tyX6_ok hown (hts (.classLink RL 8 RX6) (law_m1 _ (by decide +kernel))) (hts (.instantiable RX6 7) (law_m1 _ (by decide +kernel))) (hts (.initialized RX6) (law_m1 _ (by decide +kernel))) hK.1 hS rfl (fun j hj => by rcases (show j = 0 ∨ j = 1 ∨ j = 2 ∨ j = 3 ∨ j = 4 ∨ j = 5 ∨ j = 6 by omega) with rfl | rfl | rfl | rfl | rfl | rfl | rfl <;> rfl) (Nat.le_of_ble_eq_true rfl) (Nat.le_of_ble_eq_true rfl) dL_law_0 (fun H hz hkp hO hS => ?_)
  refine W.widen (k := 1) (n := 7) (Nat.le_of_ble_eq_true rfl) (Nat.le_of_ble_eq_true rfl) ?_
  rw [hsz] at hO hz hkp ⊢
  replace hPr := hPr.kept (hkp _ hp1) (hkp _ hp2)
  refine lv_dup hx hb dL_law_3 rfl ?_
  refine xr_Iv (rest := [.ref a]) ⟨hx, hb, hml, hown, hts⟩ (KK_ok g) hK (c_X6_init l g H a hO hz hPr hp1 hp2) (cwI 0 hts gL_law_X6_init rfl rfl rfl (hts (.initialized RX6) (law_m1 _ (by decide +kernel))) (hts (.methodLink RL 19 yX6_init) (law_m1 _ (by decide +kernel))) (hts (.instanceMethod yX6_init) (law_m1 _ (by decide +kernel))) rfl (by decide +kernel) ⟨(Nat.le_of_ble_eq_true rfl), (Nat.le_of_ble_eq_true rfl)⟩) rfl hl.1 rfl (Nat.le_of_ble_eq_true rfl) dL_law_4 ⟨(Nat.le_of_ble_eq_true rfl), (Nat.le_of_ble_eq_true rfl)⟩ hS (fun q h => by have h : q = a ∨ a + 1 ≤ q := h; show a ≤ q; omega) (fun _ H locs hq hz hkp hS => ?_)
  refine W.widen (k := 579) (n := 3498) (Nat.le_of_ble_eq_true rfl) (Nat.le_of_ble_eq_true rfl) ?_
  clear hz hkp hsz hO hPr
  obtain ⟨hD, hsz⟩ := hq
  refine lv_astore_n (lv' := [(1, .ref a), (0, .ref b0)]) hx hb dL_law_7 rfl hl (by decide) rfl (fun ls hl => ?_)
  refine xr_new (ci := 7) (fs := [.int 0, .null, .null, .null, .null, .int 0, .null, .null, .null, .int 0, .int 0, .int 0, .null, .null, .null, .int 0, .null, .int 0]) (C := RX7) (T := TX7) (N := 18) hx hb (fun w h => hts0 w (ml_wsX70 w h)) (fun w h => h) tyX7 tyX7_ok hown (hts (.classLink RL 20 RX7) (law_m1 _ (by decide +kernel))) (hts (.instantiable RX7 18) (law_m1 _ (by decide +kernel))) (hts (.initialized RX7) (law_m1 _ (by decide +kernel))) hK.1 hS rfl (fun j hj => by rcases (show j = 0 ∨ j = 1 ∨ j = 2 ∨ j = 3 ∨ j = 4 ∨ j = 5 ∨ j = 6 ∨ j = 7 ∨ j = 8 ∨ j = 9 ∨ j = 10 ∨ j = 11 ∨ j = 12 ∨ j = 13 ∨ j = 14 ∨ j = 15 ∨ j = 16 ∨ j = 17 by omega) with rfl | rfl | rfl | rfl | rfl | rfl | rfl | rfl | rfl | rfl | rfl | rfl | rfl | rfl | rfl | rfl | rfl | rfl <;> rfl) (Nat.le_of_ble_eq_true rfl) (Nat.le_of_ble_eq_true rfl) dL_law_8 (fun H hz hkp hO hS => ?_)
  refine W.widen (k := 580) (n := 3516) (Nat.le_of_ble_eq_true rfl) (Nat.le_of_ble_eq_true rfl) ?_
  rw [hsz] at hO hz hkp ⊢
  replace hD := hD.kept (fun q h1 h2 => hkp q (by omega))
  refine lv_dup hx hb dL_law_11 rfl ?_
  refine xr_Iv (rest := [.ref (a + 579)]) ⟨hx, hb, hml, hown, hts⟩ (KK_ok g) hK (c_X7_init l g H (a + 579) hO hz) (cwI 0 hts gL_law_X7_init rfl rfl rfl (hts (.initialized RX7) (law_m1 _ (by decide +kernel))) (hts (.methodLink RL 22 yX7_init) (List.mem_of_getElem? (i := 87) (by decide +kernel))) (hts (.instanceMethod yX7_init) (List.mem_of_getElem? (i := 88) (by decide +kernel))) rfl (by decide +kernel) ⟨(Nat.le_of_ble_eq_true rfl), (Nat.le_of_ble_eq_true rfl)⟩) rfl hl.1 rfl (Nat.le_of_ble_eq_true rfl) dL_law_12 ⟨(Nat.le_of_ble_eq_true rfl), (Nat.le_of_ble_eq_true rfl)⟩ hS (fun q h => by have h : q = a + 579 ∨ a + 579 + 1 ≤ q := h; show a ≤ q; omega) (fun _ H locs hq hz hkp hS => ?_)
  refine W.widen (k := 591) (n := 16540) (Nat.le_of_ble_eq_true rfl) (Nat.le_of_ble_eq_true rfl) ?_
  replace hkp := fun (q : Nat) h1 (h2 : ¬ (q = a + 579 ∨ a + 579 + 1 ≤ q)) => hkp q h1 h2
  replace hD := hD.kept (fun q h1 h2 => hkp q h1 (by omega))
  clear hz hkp hsz hO
  obtain ⟨hMd, hsz⟩ := hq
  replace hsz : H.size = a + 591 := hsz
  refine lv_astore_n (lv' := [(2, .ref (a + 579)), (1, .ref a), (0, .ref b0)]) hx hb dL_law_15 rfl hl (by decide) rfl (fun ls hl => ?_)
  refine lv_iconst (v := 1) hx hb dL_law_16 (by decide) ?_
  refine xr_newl (atype := .long) (cA := gL g) (N := 1) hx hb (hts (.arrayClass .long) (law_m1 _ (by decide +kernel))) (hK.1.2 4 (gL g, .long) rfl).2 rfl hS (by decide) (by decide) (by decide) (Nat.le_of_ble_eq_true rfl) (Nat.le_of_ble_eq_true rfl) dL_law_17 (fun H hz hkp hOut hS => ?_)
  refine W.widen (k := 592) (n := 16541) (Nat.le_of_ble_eq_true rfl) (Nat.le_of_ble_eq_true rfl) ?_
  rw [hsz] at hOut hz hkp ⊢
  replace hD := hD.kept (fun q h1 h2 => hkp q (by omega))
  replace hMd := hMd.kept (fun q h1 h2 h3 => hkp q (by omega))
  refine lv_astore_n (lv' := [(3, .ref (a + 591)), (2, .ref (a + 579)), (1, .ref a), (0, .ref b0)]) hx hb dL_law_19 rfl hl (by decide) rfl (fun ls hl => ?_)
  refine lv_iconst (v := 0) hx hb dL_law_20 (by decide) ?_
  refine xr_ti (x' := nI (5 * 0)) (by decide) ?_
  refine lv_istore (lv' := [(4, .int (nI (5 * 0))), (3, .ref (a + 591)), (2, .ref (a + 579)), (1, .ref a), (0, .ref b0)]) hx hb dL_law_21 hl (by decide) rfl (fun ls hl => ?_)
  exact lw_loop l g pgm env s mid below meth cde b0 L xs hx hb hml hts hown hK hX hb0 hL a ha sa sb hl9 hKX hr hlocks 513 0 rfl H locs ls ⟨_, _, _, _, _, _, _, _, _, _, _, _, _, _, _, _, _, _, hD, hMd, ans0, fun j hj q => absurd q.symm (nI_m1 (by omega)), hOut⟩ hS hl
