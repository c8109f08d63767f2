set_option maxHeartbeats 1000000 in
set_option maxRecDepth 100000 in
theorem lwC_0 (l : Launch) (g : WG) (pgm : Program) (env : Env) (s : State) (mid : MethodId) (below : List Frame) (meth : Method) (cde : Code) (b0 L : Nat) (xs : Nat → Int32) (hx : pgm.tables.exec = Jvm.exec) (hb : cde.code = cL_law) (hml : cde.maxLocals = 7) (hts : ∀ w ∈ wsL_law, w.before #[Value.ref b0] s = true) (hown : s.vm.findClass RL = some mid.cls) (hK : KK g s) (hX : va_X b0 L xs s s.heap) (hb0 : b0 < s.heap.size) (hL : L ≤ 2560) (a : Nat) (ha : a = s.heap.size) (H : Heap) (locs : List Loc) (cs sl i : Nat) (hi : i + 5 ≤ L) (hcs : cs ≤ 600000) (hsl : sl ≤ 7000000) (hJ : JT g H a) (hS : va_S (fun q => a ≤ q) s.heap H locs) (ls : Array Slot) (hl : lv_has ls 7 [(4, .int (nI i)), (3, .ref (a + 591)), (2, .ref (a + 579)), (1, .ref a), (0, .ref b0)]) (kk : ∀ (H1 : Heap) (locs1 : List Loc) (ls1 : Array Slot), JT g H1 a → va_S (fun q => a ≤ q) s.heap H1 locs1 → lv_has ls1 7 [(4, .int (nI i)), (3, .ref (a + 591)), (2, .ref (a + 579)), (1, .ref a), (0, .ref b0)] → W pgm l env room_1 s mid #[Value.ref b0] below meth cde H1 locs1 (cs + 1) (sl + 6) (lw_Z below #[Value.ref b0] s) (F0 mid 767 ls1 [])) : W pgm l env room_1 s mid #[Value.ref b0] below meth cde H locs cs sl (lw_Z below #[Value.ref b0] s) (F0 mid 120 ls []) := by
  obtain ⟨c0, vs0, ap0, bu0, c, vs, ap, bu, n, S, ow, tx, th, cn, Rw, ord, ch, f, hD, hMd, hAns, hSl, hOut⟩ := hJ
  have hbA : ¬ a ≤ b0 := by omega
  refine lv_aload_n hx hb dL_law_120 rfl (lv_at hl 3 rfl) ?_
  refine lv_aload_n hx hb dL_law_121 rfl (lv_at hl 4 rfl) ?_
  refine lv_iload hx hb dL_law_122 (lv_at hl 0 rfl) ?_
  refine lv_iconst (v := 1) hx hb dL_law_124 (by decide) ?_
  refine xr_ti (x' := nI 1) rfl ?_
  refine lv_iadd hx hb dL_law_125 ?_
  refine xr_ti (x' := nI (i + 1)) (nI_add _ _) ?_
  refine va_sld hx hb hX hb0 hbA hS (vp_in_nI (show i + 1 < L by omega) (by omega)) dL_law_126 ?_
  rw [nI_clamp (show i + 1 < 2 ^ 31 by omega)]
  refine lv_aload_n hx hb dL_law_127 rfl (lv_at hl 4 rfl) ?_
  refine lv_iload hx hb dL_law_128 (lv_at hl 0 rfl) ?_
  refine lv_iconst (v := 2) hx hb dL_law_130 (by decide) ?_
  refine xr_ti (x' := nI 2) rfl ?_
  refine lv_iadd hx hb dL_law_131 ?_
  refine xr_ti (x' := nI (i + 2)) (nI_add _ _) ?_
  refine va_sld hx hb hX hb0 hbA hS (vp_in_nI (show i + 2 < L by omega) (by omega)) dL_law_132 ?_
  rw [nI_clamp (show i + 2 < 2 ^ 31 by omega)]
  refine xr_Vi (rest := []) ⟨hx, hb, hml, hown, hts⟩ (KK_ok g) hK (c_X6_project l g H a c0 vs0 ap0 bu0 c vs ap bu n S ow tx hD (xs (i + 1)) (xs (i + 2))) (cwV 2 hts gL_law_X6_project rfl rfl rfl (by decide +kernel) ⟨Nat.le_of_ble_eq_true rfl, Nat.le_of_ble_eq_true rfl⟩) (xr_rec hK (show obj g H a 6 _ from hD.choose_spec.choose_spec.choose_spec.choose_spec.choose_spec.choose_spec.choose_spec.2.1) rfl) rfl hl.1 rfl (Nat.le_of_ble_eq_true rfl) dL_law_133 ⟨(by show (_ : Nat) ≤ 601024; first | omega | (dsimp only; omega)), (by show (_ : Nat) ≤ 7293034; first | omega | (dsimp only; omega))⟩ hS (fun q h => by have h : a ≤ q ∧ q < a + 579 := h; show a ≤ q; omega) (fun r1 H locs hq hz hkp hS => ?_)
  replace hkp := fun (q : Nat) h1 (h2 : ¬ (a ≤ q ∧ q < a + 579)) => hkp q h1 h2
  have hMd := hMd.kept (fun q h1 h2 h3 => hkp q h1 (by omega))
  have hOut := hOut.kept (hkp _ hOut.lt (by omega))
  obtain ⟨hr1, hD⟩ := hq
  refine lv_aload_n hx hb dL_law_136 rfl (lv_at hl 2 rfl) ?_
  refine lv_aload_n hx hb dL_law_137 rfl (lv_at hl 4 rfl) ?_
  refine lv_iload hx hb dL_law_138 (lv_at hl 0 rfl) ?_
  refine lv_iconst (v := 1) hx hb dL_law_140 (by decide) ?_
  refine xr_ti (x' := nI 1) rfl ?_
  refine lv_iadd hx hb dL_law_141 ?_
  refine xr_ti (x' := nI (i + 1)) (nI_add _ _) ?_
  refine va_sld hx hb hX hb0 hbA hS (vp_in_nI (show i + 1 < L by omega) (by omega)) dL_law_142 ?_
  rw [nI_clamp (show i + 1 < 2 ^ 31 by omega)]
  refine lv_aload_n hx hb dL_law_143 rfl (lv_at hl 4 rfl) ?_
  refine lv_iload hx hb dL_law_144 (lv_at hl 0 rfl) ?_
  refine lv_iconst (v := 2) hx hb dL_law_146 (by decide) ?_
  refine xr_ti (x' := nI 2) rfl ?_
  refine lv_iadd hx hb dL_law_147 ?_
  refine xr_ti (x' := nI (i + 2)) (nI_add _ _) ?_
  refine va_sld hx hb hX hb0 hbA hS (vp_in_nI (show i + 2 < L by omega) (by omega)) dL_law_148 ?_
  rw [nI_clamp (show i + 2 < 2 ^ 31 by omega)]
  refine xr_Vi (rest := [.int r1]) ⟨hx, hb, hml, hown, hts⟩ (KK_ok g) hK (c_X7_project l g H (a + 579) th c0 vs0 ap0 bu0 c vs ap bu cn n Rw ord ch hMd (xs (i + 1)) (xs (i + 2))) (cwV 2 hts gL_law_X7_project rfl rfl rfl (by decide +kernel) ⟨Nat.le_of_ble_eq_true rfl, Nat.le_of_ble_eq_true rfl⟩) (xr_rec hK (show obj g H (a + 579) 7 _ from hMd.choose_spec.choose_spec.choose_spec.choose_spec.1) rfl) rfl hl.1 rfl (Nat.le_of_ble_eq_true rfl) dL_law_149 ⟨(by show (_ : Nat) ≤ 601024; first | omega | (dsimp only; omega)), (by show (_ : Nat) ≤ 7293034; first | omega | (dsimp only; omega))⟩ hS (fun q h => by have h : a + 579 ≤ q ∧ q < a + 579 + 12 := h; show a ≤ q; omega) (fun r2 H locs hq hz hkp hS => ?_)
  replace hkp := fun (q : Nat) h1 (h2 : ¬ (a + 579 ≤ q ∧ q < a + 579 + 12)) => hkp q h1 h2
  have hD := hD.kept (fun q h1 h2 => hkp q h1 (by omega))
  have hOut := hOut.kept (hkp _ hOut.lt (by omega))
  obtain ⟨hr2, hMd⟩ := hq
  refine lv_icmp_eq (tgt := 767) hx hb dL_law_152 (by decide) (fun hcmp => ?_) (fun hcmp => ?_)
  · clear hcmp
    refine W.widen (k := cs + 1) (n := sl + 6) (by show (_ : Nat) ≤ cs + 1; first | omega | (dsimp only; omega)) (by show (_ : Nat) ≤ sl + 6; first | omega | (dsimp only; omega)) ?_
    exact kk H _ ls ⟨_, _, _, _, _, _, _, _, _, _, _, _, _, _, _, _, _, _, hD, hMd, hAns, hSl, hOut⟩ hS hl
  · exact absurd (hr1.trans hr2.symm) hcmp
set_option maxHeartbeats 1000000 in
set_option maxRecDepth 100000 in
theorem lwC_1 (l : Launch) (g : WG) (pgm : Program) (env : Env) (s : State) (mid : MethodId) (below : List Frame) (meth : Method) (cde : Code) (b0 L : Nat) (xs : Nat → Int32) (hx : pgm.tables.exec = Jvm.exec) (hb : cde.code = cL_law) (hml : cde.maxLocals = 7) (hts : ∀ w ∈ wsL_law, w.before #[Value.ref b0] s = true) (hown : s.vm.findClass RL = some mid.cls) (hK : KK g s) (hX : va_X b0 L xs s s.heap) (hb0 : b0 < s.heap.size) (hL : L ≤ 2560) (a : Nat) (ha : a = s.heap.size) (H : Heap) (locs : List Loc) (cs sl i : Nat) (hi : i + 5 ≤ L) (hcs : cs ≤ 600000) (hsl : sl ≤ 7000000) (hJ : JT g H a) (hS : va_S (fun q => a ≤ q) s.heap H locs) (ls : Array Slot) (hl : lv_has ls 7 [(4, .int (nI i)), (3, .ref (a + 591)), (2, .ref (a + 579)), (1, .ref a), (0, .ref b0)]) (kk : ∀ (H1 : Heap) (locs1 : List Loc) (ls1 : Array Slot), JT g H1 a → va_S (fun q => a ≤ q) s.heap H1 locs1 → lv_has ls1 7 [(4, .int (nI i)), (3, .ref (a + 591)), (2, .ref (a + 579)), (1, .ref a), (0, .ref b0)] → W pgm l env room_1 s mid #[Value.ref b0] below meth cde H1 locs1 (cs + 1) (sl + 6) (lw_Z below #[Value.ref b0] s) (F0 mid 767 ls1 [])) : W pgm l env room_1 s mid #[Value.ref b0] below meth cde H locs cs sl (lw_Z below #[Value.ref b0] s) (F0 mid 157 ls []) := by
  obtain ⟨c0, vs0, ap0, bu0, c, vs, ap, bu, n, S, ow, tx, th, cn, Rw, ord, ch, f, hD, hMd, hAns, hSl, hOut⟩ := hJ
  have hbA : ¬ a ≤ b0 := by omega
  refine lv_aload_n hx hb dL_law_157 rfl (lv_at hl 3 rfl) ?_
  refine lv_aload_n hx hb dL_law_158 rfl (lv_at hl 4 rfl) ?_
  refine lv_iload hx hb dL_law_159 (lv_at hl 0 rfl) ?_
  refine lv_iconst (v := 1) hx hb dL_law_161 (by decide) ?_
  refine xr_ti (x' := nI 1) rfl ?_
  refine lv_iadd hx hb dL_law_162 ?_
  refine xr_ti (x' := nI (i + 1)) (nI_add _ _) ?_
  refine va_sld hx hb hX hb0 hbA hS (vp_in_nI (show i + 1 < L by omega) (by omega)) dL_law_163 ?_
  rw [nI_clamp (show i + 1 < 2 ^ 31 by omega)]
  refine xr_Vi (rest := []) ⟨hx, hb, hml, hown, hts⟩ (KK_ok g) hK (c_X6_drop l g H a c0 vs0 ap0 bu0 c vs ap bu n S ow tx hD (xs (i + 1))) (cwV 1 hts gL_law_X6_drop rfl rfl rfl (by decide +kernel) ⟨Nat.le_of_ble_eq_true rfl, Nat.le_of_ble_eq_true rfl⟩) (xr_rec hK (show obj g H a 6 _ from hD.choose_spec.choose_spec.choose_spec.choose_spec.choose_spec.choose_spec.choose_spec.2.1) rfl) rfl hl.1 rfl (Nat.le_of_ble_eq_true rfl) dL_law_164 ⟨(by show (_ : Nat) ≤ 601024; first | omega | (dsimp only; omega)), (by show (_ : Nat) ≤ 7293034; first | omega | (dsimp only; omega))⟩ hS (fun q h => by have h : a ≤ q ∧ q < a + 579 := h; show a ≤ q; omega) (fun r1 H locs hq hz hkp hS => ?_)
  replace hkp := fun (q : Nat) h1 (h2 : ¬ (a ≤ q ∧ q < a + 579)) => hkp q h1 h2
  have hMd := hMd.kept (fun q h1 h2 h3 => hkp q h1 (by omega))
  have hOut := hOut.kept (hkp _ hOut.lt (by omega))
  obtain ⟨hr1, hD⟩ := hq
  refine lv_aload_n hx hb dL_law_167 rfl (lv_at hl 2 rfl) ?_
  refine lv_aload_n hx hb dL_law_168 rfl (lv_at hl 4 rfl) ?_
  refine lv_iload hx hb dL_law_169 (lv_at hl 0 rfl) ?_
  refine lv_iconst (v := 1) hx hb dL_law_171 (by decide) ?_
  refine xr_ti (x' := nI 1) rfl ?_
  refine lv_iadd hx hb dL_law_172 ?_
  refine xr_ti (x' := nI (i + 1)) (nI_add _ _) ?_
  refine va_sld hx hb hX hb0 hbA hS (vp_in_nI (show i + 1 < L by omega) (by omega)) dL_law_173 ?_
  rw [nI_clamp (show i + 1 < 2 ^ 31 by omega)]
  refine xr_Vi (rest := [.int r1]) ⟨hx, hb, hml, hown, hts⟩ (KK_ok g) hK (c_X7_drop l g H (a + 579) th c0 vs0 ap0 bu0 c vs ap bu cn n Rw ord ch hMd (xs (i + 1))) (cwV 1 hts gL_law_X7_drop rfl rfl rfl (by decide +kernel) ⟨Nat.le_of_ble_eq_true rfl, Nat.le_of_ble_eq_true rfl⟩) (xr_rec hK (show obj g H (a + 579) 7 _ from hMd.choose_spec.choose_spec.choose_spec.choose_spec.1) rfl) rfl hl.1 rfl (Nat.le_of_ble_eq_true rfl) dL_law_174 ⟨(by show (_ : Nat) ≤ 601024; first | omega | (dsimp only; omega)), (by show (_ : Nat) ≤ 7293034; first | omega | (dsimp only; omega))⟩ hS (fun q h => by have h : a + 579 ≤ q ∧ q < a + 579 + 12 := h; show a ≤ q; omega) (fun r2 H locs hq hz hkp hS => ?_)
  replace hkp := fun (q : Nat) h1 (h2 : ¬ (a + 579 ≤ q ∧ q < a + 579 + 12)) => hkp q h1 h2
  have hD := hD.kept (fun q h1 h2 => hkp q h1 (by omega))
  have hOut := hOut.kept (hkp _ hOut.lt (by omega))
  obtain ⟨hr2, hMd⟩ := hq
  refine lv_icmp_eq (tgt := 767) hx hb dL_law_177 (by decide) (fun hcmp => ?_) (fun hcmp => ?_)
  · clear hcmp
    refine W.widen (k := cs + 1) (n := sl + 6) (by show (_ : Nat) ≤ cs + 1; first | omega | (dsimp only; omega)) (by show (_ : Nat) ≤ sl + 6; first | omega | (dsimp only; omega)) ?_
    exact kk H _ ls ⟨_, _, _, _, _, _, _, _, _, _, _, _, _, _, _, _, _, _, hD, hMd, hAns, hSl, hOut⟩ hS hl
  · exact absurd (hr1.trans hr2.symm) hcmp
set_option maxHeartbeats 1000000 in
set_option maxRecDepth 100000 in
theorem lwC_2 (l : Launch) (g : WG) (pgm : Program) (env : Env) (s : State) (mid : MethodId) (below : List Frame) (meth : Method) (cde : Code) (b0 L : Nat) (xs : Nat → Int32) (hx : pgm.tables.exec = Jvm.exec) (hb : cde.code = cL_law) (hml : cde.maxLocals = 7) (hts : ∀ w ∈ wsL_law, w.before #[Value.ref b0] s = true) (hown : s.vm.findClass RL = some mid.cls) (hK : KK g s) (hX : va_X b0 L xs s s.heap) (hb0 : b0 < s.heap.size) (hL : L ≤ 2560) (a : Nat) (ha : a = s.heap.size) (H : Heap) (locs : List Loc) (cs sl i : Nat) (hi : i + 5 ≤ L) (hcs : cs ≤ 600000) (hsl : sl ≤ 7000000) (hJ : JT g H a) (hS : va_S (fun q => a ≤ q) s.heap H locs) (ls : Array Slot) (hl : lv_has ls 7 [(4, .int (nI i)), (3, .ref (a + 591)), (2, .ref (a + 579)), (1, .ref a), (0, .ref b0)]) (kk : ∀ (H1 : Heap) (locs1 : List Loc) (ls1 : Array Slot), JT g H1 a → va_S (fun q => a ≤ q) s.heap H1 locs1 → lv_has ls1 7 [(4, .int (nI i)), (3, .ref (a + 591)), (2, .ref (a + 579)), (1, .ref a), (0, .ref b0)] → W pgm l env room_1 s mid #[Value.ref b0] below meth cde H1 locs1 (cs + 1) (sl + 6) (lw_Z below #[Value.ref b0] s) (F0 mid 767 ls1 [])) : W pgm l env room_1 s mid #[Value.ref b0] below meth cde H locs cs sl (lw_Z below #[Value.ref b0] s) (F0 mid 182 ls []) := by
  obtain ⟨c0, vs0, ap0, bu0, c, vs, ap, bu, n, S, ow, tx, th, cn, Rw, ord, ch, f, hD, hMd, hAns, hSl, hOut⟩ := hJ
  have hbA : ¬ a ≤ b0 := by omega
  refine lv_aload_n hx hb dL_law_182 rfl (lv_at hl 3 rfl) ?_
  refine lv_aload_n hx hb dL_law_183 rfl (lv_at hl 4 rfl) ?_
  refine lv_iload hx hb dL_law_184 (lv_at hl 0 rfl) ?_
  refine lv_iconst (v := 1) hx hb dL_law_186 (by decide) ?_
  refine xr_ti (x' := nI 1) rfl ?_
  refine lv_iadd hx hb dL_law_187 ?_
  refine xr_ti (x' := nI (i + 1)) (nI_add _ _) ?_
  refine va_sld hx hb hX hb0 hbA hS (vp_in_nI (show i + 1 < L by omega) (by omega)) dL_law_188 ?_
  rw [nI_clamp (show i + 1 < 2 ^ 31 by omega)]
  refine xr_Vi (rest := []) ⟨hx, hb, hml, hown, hts⟩ (KK_ok g) hK (c_X6_budget l g H a c0 vs0 ap0 bu0 c vs ap bu n S ow tx hD (xs (i + 1))) (cwV 1 hts gL_law_X6_budget rfl rfl rfl (by decide +kernel) ⟨Nat.le_of_ble_eq_true rfl, Nat.le_of_ble_eq_true rfl⟩) (xr_rec hK (show obj g H a 6 _ from hD.choose_spec.choose_spec.choose_spec.choose_spec.choose_spec.choose_spec.choose_spec.2.1) rfl) rfl hl.1 rfl (Nat.le_of_ble_eq_true rfl) dL_law_189 ⟨(by show (_ : Nat) ≤ 601024; first | omega | (dsimp only; omega)), (by show (_ : Nat) ≤ 7293034; first | omega | (dsimp only; omega))⟩ hS (fun q h => by have h : a ≤ q ∧ q < a + 579 := h; show a ≤ q; omega) (fun r1 H locs hq hz hkp hS => ?_)
  replace hkp := fun (q : Nat) h1 (h2 : ¬ (a ≤ q ∧ q < a + 579)) => hkp q h1 h2
  have hMd := hMd.kept (fun q h1 h2 h3 => hkp q h1 (by omega))
  have hOut := hOut.kept (hkp _ hOut.lt (by omega))
  obtain ⟨hr1, hD⟩ := hq
  refine lv_aload_n hx hb dL_law_192 rfl (lv_at hl 2 rfl) ?_
  refine lv_aload_n hx hb dL_law_193 rfl (lv_at hl 4 rfl) ?_
  refine lv_iload hx hb dL_law_194 (lv_at hl 0 rfl) ?_
  refine lv_iconst (v := 1) hx hb dL_law_196 (by decide) ?_
  refine xr_ti (x' := nI 1) rfl ?_
  refine lv_iadd hx hb dL_law_197 ?_
  refine xr_ti (x' := nI (i + 1)) (nI_add _ _) ?_
  refine va_sld hx hb hX hb0 hbA hS (vp_in_nI (show i + 1 < L by omega) (by omega)) dL_law_198 ?_
  rw [nI_clamp (show i + 1 < 2 ^ 31 by omega)]
  refine xr_Vi (rest := [.int r1]) ⟨hx, hb, hml, hown, hts⟩ (KK_ok g) hK (c_X7_budget l g H (a + 579) th c0 vs0 ap0 bu0 c vs ap bu cn n Rw ord ch hMd (xs (i + 1))) (cwV 1 hts gL_law_X7_budget rfl rfl rfl (by decide +kernel) ⟨Nat.le_of_ble_eq_true rfl, Nat.le_of_ble_eq_true rfl⟩) (xr_rec hK (show obj g H (a + 579) 7 _ from hMd.choose_spec.choose_spec.choose_spec.choose_spec.1) rfl) rfl hl.1 rfl (Nat.le_of_ble_eq_true rfl) dL_law_199 ⟨(by show (_ : Nat) ≤ 601024; first | omega | (dsimp only; omega)), (by show (_ : Nat) ≤ 7293034; first | omega | (dsimp only; omega))⟩ hS (fun q h => by have h : a + 579 ≤ q ∧ q < a + 579 + 12 := h; show a ≤ q; omega) (fun r2 H locs hq hz hkp hS => ?_)
  replace hkp := fun (q : Nat) h1 (h2 : ¬ (a + 579 ≤ q ∧ q < a + 579 + 12)) => hkp q h1 h2
  have hD := hD.kept (fun q h1 h2 => hkp q h1 (by omega))
  have hOut := hOut.kept (hkp _ hOut.lt (by omega))
  obtain ⟨hr2, hMd⟩ := hq
  refine lv_icmp_eq (tgt := 767) hx hb dL_law_202 (by decide) (fun hcmp => ?_) (fun hcmp => ?_)
  · clear hcmp
    refine W.widen (k := cs + 1) (n := sl + 6) (by show (_ : Nat) ≤ cs + 1; first | omega | (dsimp only; omega)) (by show (_ : Nat) ≤ sl + 6; first | omega | (dsimp only; omega)) ?_
    exact kk H _ ls ⟨_, _, _, _, _, _, _, _, _, _, _, _, _, _, _, _, _, _, hD, hMd, hAns, hSl, hOut⟩ hS hl
  · exact absurd (hr1.trans hr2.symm) hcmp
set_option maxHeartbeats 1000000 in
set_option maxRecDepth 100000 in
theorem lwC_3 (l : Launch) (g : WG) (pgm : Program) (env : Env) (s : State) (mid : MethodId) (below : List Frame) (meth : Method) (cde : Code) (b0 L : Nat) (xs : Nat → Int32) (hx : pgm.tables.exec = Jvm.exec) (hb : cde.code = cL_law) (hml : cde.maxLocals = 7) (hts : ∀ w ∈ wsL_law, w.before #[Value.ref b0] s = true) (hown : s.vm.findClass RL = some mid.cls) (hK : KK g s) (hX : va_X b0 L xs s s.heap) (hb0 : b0 < s.heap.size) (hL : L ≤ 2560) (a : Nat) (ha : a = s.heap.size) (H : Heap) (locs : List Loc) (cs sl i : Nat) (hi : i + 5 ≤ L) (hcs : cs ≤ 600000) (hsl : sl ≤ 7000000) (hJ : JT g H a) (hS : va_S (fun q => a ≤ q) s.heap H locs) (ls : Array Slot) (hl : lv_has ls 7 [(4, .int (nI i)), (3, .ref (a + 591)), (2, .ref (a + 579)), (1, .ref a), (0, .ref b0)]) (kk : ∀ (H1 : Heap) (locs1 : List Loc) (ls1 : Array Slot), JT g H1 a → va_S (fun q => a ≤ q) s.heap H1 locs1 → lv_has ls1 7 [(4, .int (nI i)), (3, .ref (a + 591)), (2, .ref (a + 579)), (1, .ref a), (0, .ref b0)] → W pgm l env room_1 s mid #[Value.ref b0] below meth cde H1 locs1 (cs + 1) (sl + 6) (lw_Z below #[Value.ref b0] s) (F0 mid 767 ls1 [])) : W pgm l env room_1 s mid #[Value.ref b0] below meth cde H locs cs sl (lw_Z below #[Value.ref b0] s) (F0 mid 207 ls []) := by
  obtain ⟨c0, vs0, ap0, bu0, c, vs, ap, bu, n, S, ow, tx, th, cn, Rw, ord, ch, f, hD, hMd, hAns, hSl, hOut⟩ := hJ
  have hbA : ¬ a ≤ b0 := by omega
  refine lv_aload_n hx hb dL_law_207 rfl (lv_at hl 3 rfl) ?_
  refine lv_aload_n hx hb dL_law_208 rfl (lv_at hl 4 rfl) ?_
  refine lv_iload hx hb dL_law_209 (lv_at hl 0 rfl) ?_
  refine lv_iconst (v := 1) hx hb dL_law_211 (by decide) ?_
  refine xr_ti (x' := nI 1) rfl ?_
  refine lv_iadd hx hb dL_law_212 ?_
  refine xr_ti (x' := nI (i + 1)) (nI_add _ _) ?_
  refine va_sld hx hb hX hb0 hbA hS (vp_in_nI (show i + 1 < L by omega) (by omega)) dL_law_213 ?_
  rw [nI_clamp (show i + 1 < 2 ^ 31 by omega)]
  refine xr_Vi (rest := []) ⟨hx, hb, hml, hown, hts⟩ (KK_ok g) hK (c_X6_voter l g H a c0 vs0 ap0 bu0 c vs ap bu n S ow tx hD (xs (i + 1))) (cwV 1 hts gL_law_X6_voter rfl rfl rfl (by decide +kernel) ⟨Nat.le_of_ble_eq_true rfl, Nat.le_of_ble_eq_true rfl⟩) (xr_rec hK (show obj g H a 6 _ from hD.choose_spec.choose_spec.choose_spec.choose_spec.choose_spec.choose_spec.choose_spec.2.1) rfl) rfl hl.1 rfl (Nat.le_of_ble_eq_true rfl) dL_law_214 ⟨(by show (_ : Nat) ≤ 601024; first | omega | (dsimp only; omega)), (by show (_ : Nat) ≤ 7293034; first | omega | (dsimp only; omega))⟩ hS (fun q h => by have h : a ≤ q ∧ q < a + 579 := h; show a ≤ q; omega) (fun r1 H locs hq hz hkp hS => ?_)
  replace hkp := fun (q : Nat) h1 (h2 : ¬ (a ≤ q ∧ q < a + 579)) => hkp q h1 h2
  have hMd := hMd.kept (fun q h1 h2 h3 => hkp q h1 (by omega))
  have hOut := hOut.kept (hkp _ hOut.lt (by omega))
  obtain ⟨hr1, hD⟩ := hq
  refine lv_aload_n hx hb dL_law_217 rfl (lv_at hl 2 rfl) ?_
  refine lv_aload_n hx hb dL_law_218 rfl (lv_at hl 4 rfl) ?_
  refine lv_iload hx hb dL_law_219 (lv_at hl 0 rfl) ?_
  refine lv_iconst (v := 1) hx hb dL_law_221 (by decide) ?_
  refine xr_ti (x' := nI 1) rfl ?_
  refine lv_iadd hx hb dL_law_222 ?_
  refine xr_ti (x' := nI (i + 1)) (nI_add _ _) ?_
  refine va_sld hx hb hX hb0 hbA hS (vp_in_nI (show i + 1 < L by omega) (by omega)) dL_law_223 ?_
  rw [nI_clamp (show i + 1 < 2 ^ 31 by omega)]
  refine xr_Vi (rest := [.int r1]) ⟨hx, hb, hml, hown, hts⟩ (KK_ok g) hK (c_X7_voter l g H (a + 579) th c0 vs0 ap0 bu0 c vs ap bu cn n Rw ord ch hMd (xs (i + 1))) (cwV 1 hts gL_law_X7_voter rfl rfl rfl (by decide +kernel) ⟨Nat.le_of_ble_eq_true rfl, Nat.le_of_ble_eq_true rfl⟩) (xr_rec hK (show obj g H (a + 579) 7 _ from hMd.choose_spec.choose_spec.choose_spec.choose_spec.1) rfl) rfl hl.1 rfl (Nat.le_of_ble_eq_true rfl) dL_law_224 ⟨(by show (_ : Nat) ≤ 601024; first | omega | (dsimp only; omega)), (by show (_ : Nat) ≤ 7293034; first | omega | (dsimp only; omega))⟩ hS (fun q h => by have h : a + 579 ≤ q ∧ q < a + 579 + 12 := h; show a ≤ q; omega) (fun r2 H locs hq hz hkp hS => ?_)
  replace hkp := fun (q : Nat) h1 (h2 : ¬ (a + 579 ≤ q ∧ q < a + 579 + 12)) => hkp q h1 h2
  have hD := hD.kept (fun q h1 h2 => hkp q h1 (by omega))
  have hOut := hOut.kept (hkp _ hOut.lt (by omega))
  obtain ⟨hr2, hMd⟩ := hq
  refine lv_icmp_eq (tgt := 767) hx hb dL_law_227 (by decide) (fun hcmp => ?_) (fun hcmp => ?_)
  · clear hcmp
    refine W.widen (k := cs + 1) (n := sl + 6) (by show (_ : Nat) ≤ cs + 1; first | omega | (dsimp only; omega)) (by show (_ : Nat) ≤ sl + 6; first | omega | (dsimp only; omega)) ?_
    exact kk H _ ls ⟨_, _, _, _, _, _, _, _, _, _, _, _, _, _, _, _, _, _, hD, hMd, hAns, hSl, hOut⟩ hS hl
  · exact absurd (hr1.trans hr2.symm) hcmp
set_option maxHeartbeats 1000000 in
set_option maxRecDepth 100000 in
theorem lwC_4 (l : Launch) (g : WG) (pgm : Program) (env : Env) (s : State) (mid : MethodId) (below : List Frame) (meth : Method) (cde : Code) (b0 L : Nat) (xs : Nat → Int32) (hx : pgm.tables.exec = Jvm.exec) (hb : cde.code = cL_law) (hml : cde.maxLocals = 7) (hts : ∀ w ∈ wsL_law, w.before #[Value.ref b0] s = true) (hown : s.vm.findClass RL = some mid.cls) (hK : KK g s) (hX : va_X b0 L xs s s.heap) (hb0 : b0 < s.heap.size) (hL : L ≤ 2560) (a : Nat) (ha : a = s.heap.size) (H : Heap) (locs : List Loc) (cs sl i : Nat) (hi : i + 5 ≤ L) (hcs : cs ≤ 600000) (hsl : sl ≤ 7000000) (hJ : JT g H a) (hS : va_S (fun q => a ≤ q) s.heap H locs) (ls : Array Slot) (hl : lv_has ls 7 [(4, .int (nI i)), (3, .ref (a + 591)), (2, .ref (a + 579)), (1, .ref a), (0, .ref b0)]) (kk : ∀ (H1 : Heap) (locs1 : List Loc) (ls1 : Array Slot), JT g H1 a → va_S (fun q => a ≤ q) s.heap H1 locs1 → lv_has ls1 7 [(4, .int (nI i)), (3, .ref (a + 591)), (2, .ref (a + 579)), (1, .ref a), (0, .ref b0)] → W pgm l env room_1 s mid #[Value.ref b0] below meth cde H1 locs1 (cs + 1) (sl + 6) (lw_Z below #[Value.ref b0] s) (F0 mid 767 ls1 [])) : W pgm l env room_1 s mid #[Value.ref b0] below meth cde H locs cs sl (lw_Z below #[Value.ref b0] s) (F0 mid 232 ls []) := by
  obtain ⟨c0, vs0, ap0, bu0, c, vs, ap, bu, n, S, ow, tx, th, cn, Rw, ord, ch, f, hD, hMd, hAns, hSl, hOut⟩ := hJ
  have hbA : ¬ a ≤ b0 := by omega
  refine lv_aload_n hx hb dL_law_232 rfl (lv_at hl 3 rfl) ?_
  refine lv_aload_n hx hb dL_law_233 rfl (lv_at hl 4 rfl) ?_
  refine lv_iload hx hb dL_law_234 (lv_at hl 0 rfl) ?_
  refine lv_iconst (v := 1) hx hb dL_law_236 (by decide) ?_
  refine xr_ti (x' := nI 1) rfl ?_
  refine lv_iadd hx hb dL_law_237 ?_
  refine xr_ti (x' := nI (i + 1)) (nI_add _ _) ?_
  refine va_sld hx hb hX hb0 hbA hS (vp_in_nI (show i + 1 < L by omega) (by omega)) dL_law_238 ?_
  rw [nI_clamp (show i + 1 < 2 ^ 31 by omega)]
  refine xr_Vi (rest := []) ⟨hx, hb, hml, hown, hts⟩ (KK_ok g) hK (c_X6_strike l g H a c0 vs0 ap0 bu0 c vs ap bu n S ow tx hD (xs (i + 1))) (cwV 1 hts gL_law_X6_strike rfl rfl rfl (by decide +kernel) ⟨Nat.le_of_ble_eq_true rfl, Nat.le_of_ble_eq_true rfl⟩) (xr_rec hK (show obj g H a 6 _ from hD.choose_spec.choose_spec.choose_spec.choose_spec.choose_spec.choose_spec.choose_spec.2.1) rfl) rfl hl.1 rfl (Nat.le_of_ble_eq_true rfl) dL_law_239 ⟨(by show (_ : Nat) ≤ 601024; first | omega | (dsimp only; omega)), (by show (_ : Nat) ≤ 7293034; first | omega | (dsimp only; omega))⟩ hS (fun q h => by have h : a ≤ q ∧ q < a + 579 := h; show a ≤ q; omega) (fun r1 H locs hq hz hkp hS => ?_)
  replace hkp := fun (q : Nat) h1 (h2 : ¬ (a ≤ q ∧ q < a + 579)) => hkp q h1 h2
  have hMd := hMd.kept (fun q h1 h2 h3 => hkp q h1 (by omega))
  have hOut := hOut.kept (hkp _ hOut.lt (by omega))
  obtain ⟨hr1, hD⟩ := hq
  refine lv_aload_n hx hb dL_law_242 rfl (lv_at hl 2 rfl) ?_
  refine lv_aload_n hx hb dL_law_243 rfl (lv_at hl 4 rfl) ?_
  refine lv_iload hx hb dL_law_244 (lv_at hl 0 rfl) ?_
  refine lv_iconst (v := 1) hx hb dL_law_246 (by decide) ?_
  refine xr_ti (x' := nI 1) rfl ?_
  refine lv_iadd hx hb dL_law_247 ?_
  refine xr_ti (x' := nI (i + 1)) (nI_add _ _) ?_
  refine va_sld hx hb hX hb0 hbA hS (vp_in_nI (show i + 1 < L by omega) (by omega)) dL_law_248 ?_
  rw [nI_clamp (show i + 1 < 2 ^ 31 by omega)]
  refine xr_Vi (rest := [.int r1]) ⟨hx, hb, hml, hown, hts⟩ (KK_ok g) hK (c_X7_strike l g H (a + 579) th c0 vs0 ap0 bu0 c vs ap bu cn n Rw ord ch hMd (xs (i + 1))) (cwV 1 hts gL_law_X7_strike rfl rfl rfl (by decide +kernel) ⟨Nat.le_of_ble_eq_true rfl, Nat.le_of_ble_eq_true rfl⟩) (xr_rec hK (show obj g H (a + 579) 7 _ from hMd.choose_spec.choose_spec.choose_spec.choose_spec.1) rfl) rfl hl.1 rfl (Nat.le_of_ble_eq_true rfl) dL_law_249 ⟨(by show (_ : Nat) ≤ 601024; first | omega | (dsimp only; omega)), (by show (_ : Nat) ≤ 7293034; first | omega | (dsimp only; omega))⟩ hS (fun q h => by have h : a + 579 ≤ q ∧ q < a + 579 + 12 := h; show a ≤ q; omega) (fun r2 H locs hq hz hkp hS => ?_)
  replace hkp := fun (q : Nat) h1 (h2 : ¬ (a + 579 ≤ q ∧ q < a + 579 + 12)) => hkp q h1 h2
  have hD := hD.kept (fun q h1 h2 => hkp q h1 (by omega))
  have hOut := hOut.kept (hkp _ hOut.lt (by omega))
  obtain ⟨hr2, hMd⟩ := hq
  refine lv_icmp_eq (tgt := 767) hx hb dL_law_252 (by decide) (fun hcmp => ?_) (fun hcmp => ?_)
  · clear hcmp
    refine W.widen (k := cs + 1) (n := sl + 6) (by show (_ : Nat) ≤ cs + 1; first | omega | (dsimp only; omega)) (by show (_ : Nat) ≤ sl + 6; first | omega | (dsimp only; omega)) ?_
    exact kk H _ ls ⟨_, _, _, _, _, _, _, _, _, _, _, _, _, _, _, _, _, _, hD, hMd, hAns, hSl, hOut⟩ hS hl
  · exact absurd (hr1.trans hr2.symm) hcmp
set_option maxHeartbeats 1000000 in
set_option maxRecDepth 100000 in
theorem lwC_5 (l : Launch) (g : WG) (pgm : Program) (env : Env) (s : State) (mid : MethodId) (below : List Frame) (meth : Method) (cde : Code) (b0 L : Nat) (xs : Nat → Int32) (hx : pgm.tables.exec = Jvm.exec) (hb : cde.code = cL_law) (hml : cde.maxLocals = 7) (hts : ∀ w ∈ wsL_law, w.before #[Value.ref b0] s = true) (hown : s.vm.findClass RL = some mid.cls) (hK : KK g s) (hX : va_X b0 L xs s s.heap) (hb0 : b0 < s.heap.size) (hL : L ≤ 2560) (a : Nat) (ha : a = s.heap.size) (H : Heap) (locs : List Loc) (cs sl i : Nat) (hi : i + 5 ≤ L) (hcs : cs ≤ 600000) (hsl : sl ≤ 7000000) (hJ : JT g H a) (hS : va_S (fun q => a ≤ q) s.heap H locs) (ls : Array Slot) (hl : lv_has ls 7 [(4, .int (nI i)), (3, .ref (a + 591)), (2, .ref (a + 579)), (1, .ref a), (0, .ref b0)]) (kk : ∀ (H1 : Heap) (locs1 : List Loc) (ls1 : Array Slot), JT g H1 a → va_S (fun q => a ≤ q) s.heap H1 locs1 → lv_has ls1 7 [(4, .int (nI i)), (3, .ref (a + 591)), (2, .ref (a + 579)), (1, .ref a), (0, .ref b0)] → W pgm l env room_1 s mid #[Value.ref b0] below meth cde H1 locs1 (cs + 1) (sl + 6) (lw_Z below #[Value.ref b0] s) (F0 mid 767 ls1 [])) : W pgm l env room_1 s mid #[Value.ref b0] below meth cde H locs cs sl (lw_Z below #[Value.ref b0] s) (F0 mid 257 ls []) := by
  obtain ⟨c0, vs0, ap0, bu0, c, vs, ap, bu, n, S, ow, tx, th, cn, Rw, ord, ch, f, hD, hMd, hAns, hSl, hOut⟩ := hJ
  have hbA : ¬ a ≤ b0 := by omega
  refine lv_aload_n hx hb dL_law_257 rfl (lv_at hl 3 rfl) ?_
  refine lv_aload_n hx hb dL_law_258 rfl (lv_at hl 4 rfl) ?_
  refine lv_iload hx hb dL_law_259 (lv_at hl 0 rfl) ?_
  refine lv_iconst (v := 1) hx hb dL_law_261 (by decide) ?_
  refine xr_ti (x' := nI 1) rfl ?_
  refine lv_iadd hx hb dL_law_262 ?_
  refine xr_ti (x' := nI (i + 1)) (nI_add _ _) ?_
  refine va_sld hx hb hX hb0 hbA hS (vp_in_nI (show i + 1 < L by omega) (by omega)) dL_law_263 ?_
  rw [nI_clamp (show i + 1 < 2 ^ 31 by omega)]
  refine lv_aload_n hx hb dL_law_264 rfl (lv_at hl 4 rfl) ?_
  refine lv_iload hx hb dL_law_265 (lv_at hl 0 rfl) ?_
  refine lv_iconst (v := 2) hx hb dL_law_267 (by decide) ?_
  refine xr_ti (x' := nI 2) rfl ?_
  refine lv_iadd hx hb dL_law_268 ?_
  refine xr_ti (x' := nI (i + 2)) (nI_add _ _) ?_
  refine va_sld hx hb hX hb0 hbA hS (vp_in_nI (show i + 2 < L by omega) (by omega)) dL_law_269 ?_
  rw [nI_clamp (show i + 2 < 2 ^ 31 by omega)]
  refine lv_aload_n hx hb dL_law_270 rfl (lv_at hl 4 rfl) ?_
  refine lv_iload hx hb dL_law_271 (lv_at hl 0 rfl) ?_
  refine lv_iconst (v := 3) hx hb dL_law_273 (by decide) ?_
  refine xr_ti (x' := nI 3) rfl ?_
  refine lv_iadd hx hb dL_law_274 ?_
  refine xr_ti (x' := nI (i + 3)) (nI_add _ _) ?_
  refine va_sld hx hb hX hb0 hbA hS (vp_in_nI (show i + 3 < L by omega) (by omega)) dL_law_275 ?_
  rw [nI_clamp (show i + 3 < 2 ^ 31 by omega)]
  refine lv_if_eq (tgt := 283) hx hb dL_law_276 (by decide) (fun hbb => ?_) (fun hbb => ?_)
  · have hy : decide (xs (i + 3) ≠ 0) = false := decide_eq_false (fun q => q hbb)
    refine lv_iconst (v := 0) hx hb dL_law_283 (by decide) ?_
    refine xr_ti (x' := b2i (decide (xs (i + 3) ≠ 0))) (by rw [hy]; rfl) ?_
    refine xr_Vi (rest := []) ⟨hx, hb, hml, hown, hts⟩ (KK_ok g) hK (c_X6_approve l g H a c0 vs0 ap0 bu0 c vs ap bu n S ow tx hD (xs (i + 1)) (xs (i + 2)) (decide (xs (i + 3) ≠ 0))) (cwV 3 hts gL_law_X6_approve rfl rfl rfl (by decide +kernel) ⟨Nat.le_of_ble_eq_true rfl, Nat.le_of_ble_eq_true rfl⟩) (xr_rec hK (show obj g H a 6 _ from hD.choose_spec.choose_spec.choose_spec.choose_spec.choose_spec.choose_spec.choose_spec.2.1) rfl) rfl hl.1 rfl (Nat.le_of_ble_eq_true rfl) dL_law_284 ⟨(by show (_ : Nat) ≤ 601024; first | omega | (dsimp only; omega)), (by show (_ : Nat) ≤ 7293034; first | omega | (dsimp only; omega))⟩ hS (fun q h => by have h : a ≤ q ∧ q < a + 579 := h; show a ≤ q; omega) (fun r1 H locs hq hz hkp hS => ?_)
    replace hkp := fun (q : Nat) h1 (h2 : ¬ (a ≤ q ∧ q < a + 579)) => hkp q h1 h2
    have hMd := hMd.kept (fun q h1 h2 h3 => hkp q h1 (by omega))
    have hOut := hOut.kept (hkp _ hOut.lt (by omega))
    obtain ⟨hr1, hD⟩ := hq
    refine lv_aload_n hx hb dL_law_287 rfl (lv_at hl 2 rfl) ?_
    refine lv_aload_n hx hb dL_law_288 rfl (lv_at hl 4 rfl) ?_
    refine lv_iload hx hb dL_law_289 (lv_at hl 0 rfl) ?_
    refine lv_iconst (v := 1) hx hb dL_law_291 (by decide) ?_
    refine xr_ti (x' := nI 1) rfl ?_
    refine lv_iadd hx hb dL_law_292 ?_
    refine xr_ti (x' := nI (i + 1)) (nI_add _ _) ?_
    refine va_sld hx hb hX hb0 hbA hS (vp_in_nI (show i + 1 < L by omega) (by omega)) dL_law_293 ?_
    rw [nI_clamp (show i + 1 < 2 ^ 31 by omega)]
    refine lv_aload_n hx hb dL_law_294 rfl (lv_at hl 4 rfl) ?_
    refine lv_iload hx hb dL_law_295 (lv_at hl 0 rfl) ?_
    refine lv_iconst (v := 2) hx hb dL_law_297 (by decide) ?_
    refine xr_ti (x' := nI 2) rfl ?_
    refine lv_iadd hx hb dL_law_298 ?_
    refine xr_ti (x' := nI (i + 2)) (nI_add _ _) ?_
    refine va_sld hx hb hX hb0 hbA hS (vp_in_nI (show i + 2 < L by omega) (by omega)) dL_law_299 ?_
    rw [nI_clamp (show i + 2 < 2 ^ 31 by omega)]
    refine lv_aload_n hx hb dL_law_300 rfl (lv_at hl 4 rfl) ?_
    refine lv_iload hx hb dL_law_301 (lv_at hl 0 rfl) ?_
    refine lv_iconst (v := 3) hx hb dL_law_303 (by decide) ?_
    refine xr_ti (x' := nI 3) rfl ?_
    refine lv_iadd hx hb dL_law_304 ?_
    refine xr_ti (x' := nI (i + 3)) (nI_add _ _) ?_
    refine va_sld hx hb hX hb0 hbA hS (vp_in_nI (show i + 3 < L by omega) (by omega)) dL_law_305 ?_
    rw [nI_clamp (show i + 3 < 2 ^ 31 by omega)]
    refine lv_if_eq (tgt := 313) hx hb dL_law_306 (by decide) (fun hbb => ?_) (fun hbb => ?_)
    · have hy : decide (xs (i + 3) ≠ 0) = false := decide_eq_false (fun q => q hbb)
      refine lv_iconst (v := 0) hx hb dL_law_313 (by decide) ?_
      refine xr_ti (x' := b2i (decide (xs (i + 3) ≠ 0))) (by rw [hy]; rfl) ?_
      refine xr_Vi (rest := [.int r1]) ⟨hx, hb, hml, hown, hts⟩ (KK_ok g) hK (c_X7_approve l g H (a + 579) th c0 vs0 ap0 bu0 c vs ap bu cn n Rw ord ch hMd (xs (i + 1)) (xs (i + 2)) (decide (xs (i + 3) ≠ 0))) (cwV 3 hts gL_law_X7_approve rfl rfl rfl (by decide +kernel) ⟨Nat.le_of_ble_eq_true rfl, Nat.le_of_ble_eq_true rfl⟩) (xr_rec hK (show obj g H (a + 579) 7 _ from hMd.choose_spec.choose_spec.choose_spec.choose_spec.1) rfl) rfl hl.1 rfl (Nat.le_of_ble_eq_true rfl) dL_law_314 ⟨(by show (_ : Nat) ≤ 601024; first | omega | (dsimp only; omega)), (by show (_ : Nat) ≤ 7293034; first | omega | (dsimp only; omega))⟩ hS (fun q h => by have h : a + 579 ≤ q ∧ q < a + 579 + 12 := h; show a ≤ q; omega) (fun r2 H locs hq hz hkp hS => ?_)
      replace hkp := fun (q : Nat) h1 (h2 : ¬ (a + 579 ≤ q ∧ q < a + 579 + 12)) => hkp q h1 h2
      have hD := hD.kept (fun q h1 h2 => hkp q h1 (by omega))
      have hOut := hOut.kept (hkp _ hOut.lt (by omega))
      obtain ⟨hr2, hMd⟩ := hq
      refine lv_icmp_eq (tgt := 767) hx hb dL_law_317 (by decide) (fun hcmp => ?_) (fun hcmp => ?_)
      · clear hcmp
        refine W.widen (k := cs + 1) (n := sl + 6) (by show (_ : Nat) ≤ cs + 1; first | omega | (dsimp only; omega)) (by show (_ : Nat) ≤ sl + 6; first | omega | (dsimp only; omega)) ?_
        exact kk H _ ls ⟨_, _, _, _, _, _, _, _, _, _, _, _, _, _, _, _, _, _, hD, hMd, hAns, hSl, hOut⟩ hS hl
      · exact absurd (hr1.trans hr2.symm) hcmp
    · have hy : decide (xs (i + 3) ≠ 0) = true := decide_eq_true hbb
      refine lv_iconst (v := 1) hx hb dL_law_309 (by decide) ?_
      refine xr_ti (x' := b2i (decide (xs (i + 3) ≠ 0))) (by rw [hy]; rfl) ?_
      refine lv_goto (tgt := 314) hx hb dL_law_310 (by decide) ?_
      refine xr_Vi (rest := [.int r1]) ⟨hx, hb, hml, hown, hts⟩ (KK_ok g) hK (c_X7_approve l g H (a + 579) th c0 vs0 ap0 bu0 c vs ap bu cn n Rw ord ch hMd (xs (i + 1)) (xs (i + 2)) (decide (xs (i + 3) ≠ 0))) (cwV 3 hts gL_law_X7_approve rfl rfl rfl (by decide +kernel) ⟨Nat.le_of_ble_eq_true rfl, Nat.le_of_ble_eq_true rfl⟩) (xr_rec hK (show obj g H (a + 579) 7 _ from hMd.choose_spec.choose_spec.choose_spec.choose_spec.1) rfl) rfl hl.1 rfl (Nat.le_of_ble_eq_true rfl) dL_law_314 ⟨(by show (_ : Nat) ≤ 601024; first | omega | (dsimp only; omega)), (by show (_ : Nat) ≤ 7293034; first | omega | (dsimp only; omega))⟩ hS (fun q h => by have h : a + 579 ≤ q ∧ q < a + 579 + 12 := h; show a ≤ q; omega) (fun r2 H locs hq hz hkp hS => ?_)
      replace hkp := fun (q : Nat) h1 (h2 : ¬ (a + 579 ≤ q ∧ q < a + 579 + 12)) => hkp q h1 h2
      have hD := hD.kept (fun q h1 h2 => hkp q h1 (by omega))
      have hOut := hOut.kept (hkp _ hOut.lt (by omega))
      obtain ⟨hr2, hMd⟩ := hq
      refine lv_icmp_eq (tgt := 767) hx hb dL_law_317 (by decide) (fun hcmp => ?_) (fun hcmp => ?_)
      · clear hcmp
        refine W.widen (k := cs + 1) (n := sl + 6) (by show (_ : Nat) ≤ cs + 1; first | omega | (dsimp only; omega)) (by show (_ : Nat) ≤ sl + 6; first | omega | (dsimp only; omega)) ?_
        exact kk H _ ls ⟨_, _, _, _, _, _, _, _, _, _, _, _, _, _, _, _, _, _, hD, hMd, hAns, hSl, hOut⟩ hS hl
      · exact absurd (hr1.trans hr2.symm) hcmp
  · have hy : decide (xs (i + 3) ≠ 0) = true := decide_eq_true hbb
    refine lv_iconst (v := 1) hx hb dL_law_279 (by decide) ?_
    refine xr_ti (x' := b2i (decide (xs (i + 3) ≠ 0))) (by rw [hy]; rfl) ?_
    refine lv_goto (tgt := 284) hx hb dL_law_280 (by decide) ?_
    refine xr_Vi (rest := []) ⟨hx, hb, hml, hown, hts⟩ (KK_ok g) hK (c_X6_approve l g H a c0 vs0 ap0 bu0 c vs ap bu n S ow tx hD (xs (i + 1)) (xs (i + 2)) (decide (xs (i + 3) ≠ 0))) (cwV 3 hts gL_law_X6_approve rfl rfl rfl (by decide +kernel) ⟨Nat.le_of_ble_eq_true rfl, Nat.le_of_ble_eq_true rfl⟩) (xr_rec hK (show obj g H a 6 _ from hD.choose_spec.choose_spec.choose_spec.choose_spec.choose_spec.choose_spec.choose_spec.2.1) rfl) rfl hl.1 rfl (Nat.le_of_ble_eq_true rfl) dL_law_284 ⟨(by show (_ : Nat) ≤ 601024; first | omega | (dsimp only; omega)), (by show (_ : Nat) ≤ 7293034; first | omega | (dsimp only; omega))⟩ hS (fun q h => by have h : a ≤ q ∧ q < a + 579 := h; show a ≤ q; omega) (fun r1 H locs hq hz hkp hS => ?_)
    replace hkp := fun (q : Nat) h1 (h2 : ¬ (a ≤ q ∧ q < a + 579)) => hkp q h1 h2
    have hMd := hMd.kept (fun q h1 h2 h3 => hkp q h1 (by omega))
    have hOut := hOut.kept (hkp _ hOut.lt (by omega))
    obtain ⟨hr1, hD⟩ := hq
    refine lv_aload_n hx hb dL_law_287 rfl (lv_at hl 2 rfl) ?_
    refine lv_aload_n hx hb dL_law_288 rfl (lv_at hl 4 rfl) ?_
    refine lv_iload hx hb dL_law_289 (lv_at hl 0 rfl) ?_
    refine lv_iconst (v := 1) hx hb dL_law_291 (by decide) ?_
    refine xr_ti (x' := nI 1) rfl ?_
    refine lv_iadd hx hb dL_law_292 ?_
    refine xr_ti (x' := nI (i + 1)) (nI_add _ _) ?_
    refine va_sld hx hb hX hb0 hbA hS (vp_in_nI (show i + 1 < L by omega) (by omega)) dL_law_293 ?_
    rw [nI_clamp (show i + 1 < 2 ^ 31 by omega)]
    refine lv_aload_n hx hb dL_law_294 rfl (lv_at hl 4 rfl) ?_
    refine lv_iload hx hb dL_law_295 (lv_at hl 0 rfl) ?_
    refine lv_iconst (v := 2) hx hb dL_law_297 (by decide) ?_
    refine xr_ti (x' := nI 2) rfl ?_
    refine lv_iadd hx hb dL_law_298 ?_
    refine xr_ti (x' := nI (i + 2)) (nI_add _ _) ?_
    refine va_sld hx hb hX hb0 hbA hS (vp_in_nI (show i + 2 < L by omega) (by omega)) dL_law_299 ?_
    rw [nI_clamp (show i + 2 < 2 ^ 31 by omega)]
    refine lv_aload_n hx hb dL_law_300 rfl (lv_at hl 4 rfl) ?_
    refine lv_iload hx hb dL_law_301 (lv_at hl 0 rfl) ?_
    refine lv_iconst (v := 3) hx hb dL_law_303 (by decide) ?_
    refine xr_ti (x' := nI 3) rfl ?_
    refine lv_iadd hx hb dL_law_304 ?_
    refine xr_ti (x' := nI (i + 3)) (nI_add _ _) ?_
    refine va_sld hx hb hX hb0 hbA hS (vp_in_nI (show i + 3 < L by omega) (by omega)) dL_law_305 ?_
    rw [nI_clamp (show i + 3 < 2 ^ 31 by omega)]
    refine lv_if_eq (tgt := 313) hx hb dL_law_306 (by decide) (fun hbb => ?_) (fun hbb => ?_)
    · have hy : decide (xs (i + 3) ≠ 0) = false := decide_eq_false (fun q => q hbb)
      refine lv_iconst (v := 0) hx hb dL_law_313 (by decide) ?_
      refine xr_ti (x' := b2i (decide (xs (i + 3) ≠ 0))) (by rw [hy]; rfl) ?_
      refine xr_Vi (rest := [.int r1]) ⟨hx, hb, hml, hown, hts⟩ (KK_ok g) hK (c_X7_approve l g H (a + 579) th c0 vs0 ap0 bu0 c vs ap bu cn n Rw ord ch hMd (xs (i + 1)) (xs (i + 2)) (decide (xs (i + 3) ≠ 0))) (cwV 3 hts gL_law_X7_approve rfl rfl rfl (by decide +kernel) ⟨Nat.le_of_ble_eq_true rfl, Nat.le_of_ble_eq_true rfl⟩) (xr_rec hK (show obj g H (a + 579) 7 _ from hMd.choose_spec.choose_spec.choose_spec.choose_spec.1) rfl) rfl hl.1 rfl (Nat.le_of_ble_eq_true rfl) dL_law_314 ⟨(by show (_ : Nat) ≤ 601024; first | omega | (dsimp only; omega)), (by show (_ : Nat) ≤ 7293034; first | omega | (dsimp only; omega))⟩ hS (fun q h => by have h : a + 579 ≤ q ∧ q < a + 579 + 12 := h; show a ≤ q; omega) (fun r2 H locs hq hz hkp hS => ?_)
      replace hkp := fun (q : Nat) h1 (h2 : ¬ (a + 579 ≤ q ∧ q < a + 579 + 12)) => hkp q h1 h2
      have hD := hD.kept (fun q h1 h2 => hkp q h1 (by omega))
      have hOut := hOut.kept (hkp _ hOut.lt (by omega))
      obtain ⟨hr2, hMd⟩ := hq
      refine lv_icmp_eq (tgt := 767) hx hb dL_law_317 (by decide) (fun hcmp => ?_) (fun hcmp => ?_)
      · clear hcmp
        refine W.widen (k := cs + 1) (n := sl + 6) (by show (_ : Nat) ≤ cs + 1; first | omega | (dsimp only; omega)) (by show (_ : Nat) ≤ sl + 6; first | omega | (dsimp only; omega)) ?_
        exact kk H _ ls ⟨_, _, _, _, _, _, _, _, _, _, _, _, _, _, _, _, _, _, hD, hMd, hAns, hSl, hOut⟩ hS hl
      · exact absurd (hr1.trans hr2.symm) hcmp
    · have hy : decide (xs (i + 3) ≠ 0) = true := decide_eq_true hbb
      refine lv_iconst (v := 1) hx hb dL_law_309 (by decide) ?_
      refine xr_ti (x' := b2i (decide (xs (i + 3) ≠ 0))) (by rw [hy]; rfl) ?_
      refine lv_goto (tgt := 314) hx hb dL_law_310 (by decide) ?_
      refine xr_Vi (rest := [.int r1]) ⟨hx, hb, hml, hown, hts⟩ (KK_ok g) hK (c_X7_approve l g H (a + 579) th c0 vs0 ap0 bu0 c vs ap bu cn n Rw ord ch hMd (xs (i + 1)) (xs (i + 2)) (decide (xs (i + 3) ≠ 0))) (cwV 3 hts gL_law_X7_approve rfl rfl rfl (by decide +kernel) ⟨Nat.le_of_ble_eq_true rfl, Nat.le_of_ble_eq_true rfl⟩) (xr_rec hK (show obj g H (a + 579) 7 _ from hMd.choose_spec.choose_spec.choose_spec.choose_spec.1) rfl) rfl hl.1 rfl (Nat.le_of_ble_eq_true rfl) dL_law_314 ⟨(by show (_ : Nat) ≤ 601024; first | omega | (dsimp only; omega)), (by show (_ : Nat) ≤ 7293034; first | omega | (dsimp only; omega))⟩ hS (fun q h => by have h : a + 579 ≤ q ∧ q < a + 579 + 12 := h; show a ≤ q; omega) (fun r2 H locs hq hz hkp hS => ?_)
      replace hkp := fun (q : Nat) h1 (h2 : ¬ (a + 579 ≤ q ∧ q < a + 579 + 12)) => hkp q h1 h2
      have hD := hD.kept (fun q h1 h2 => hkp q h1 (by omega))
      have hOut := hOut.kept (hkp _ hOut.lt (by omega))
      obtain ⟨hr2, hMd⟩ := hq
      refine lv_icmp_eq (tgt := 767) hx hb dL_law_317 (by decide) (fun hcmp => ?_) (fun hcmp => ?_)
      · clear hcmp
        refine W.widen (k := cs + 1) (n := sl + 6) (by show (_ : Nat) ≤ cs + 1; first | omega | (dsimp only; omega)) (by show (_ : Nat) ≤ sl + 6; first | omega | (dsimp only; omega)) ?_
        exact kk H _ ls ⟨_, _, _, _, _, _, _, _, _, _, _, _, _, _, _, _, _, _, hD, hMd, hAns, hSl, hOut⟩ hS hl
      · exact absurd (hr1.trans hr2.symm) hcmp
set_option maxHeartbeats 1000000 in
set_option maxRecDepth 100000 in
theorem lwC_6 (l : Launch) (g : WG) (pgm : Program) (env : Env) (s : State) (mid : MethodId) (below : List Frame) (meth : Method) (cde : Code) (b0 L : Nat) (xs : Nat → Int32) (hx : pgm.tables.exec = Jvm.exec) (hb : cde.code = cL_law) (hml : cde.maxLocals = 7) (hts : ∀ w ∈ wsL_law, w.before #[Value.ref b0] s = true) (hown : s.vm.findClass RL = some mid.cls) (hK : KK g s) (hX : va_X b0 L xs s s.heap) (hb0 : b0 < s.heap.size) (hL : L ≤ 2560) (a : Nat) (ha : a = s.heap.size) (H : Heap) (locs : List Loc) (cs sl i : Nat) (hi : i + 5 ≤ L) (hcs : cs ≤ 600000) (hsl : sl ≤ 7000000) (hJ : JT g H a) (hS : va_S (fun q => a ≤ q) s.heap H locs) (ls : Array Slot) (hl : lv_has ls 7 [(4, .int (nI i)), (3, .ref (a + 591)), (2, .ref (a + 579)), (1, .ref a), (0, .ref b0)]) (kk : ∀ (H1 : Heap) (locs1 : List Loc) (ls1 : Array Slot), JT g H1 a → va_S (fun q => a ≤ q) s.heap H1 locs1 → lv_has ls1 7 [(4, .int (nI i)), (3, .ref (a + 591)), (2, .ref (a + 579)), (1, .ref a), (0, .ref b0)] → W pgm l env room_1 s mid #[Value.ref b0] below meth cde H1 locs1 (cs + 1) (sl + 6) (lw_Z below #[Value.ref b0] s) (F0 mid 767 ls1 [])) : W pgm l env room_1 s mid #[Value.ref b0] below meth cde H locs cs sl (lw_Z below #[Value.ref b0] s) (F0 mid 322 ls []) := by
  obtain ⟨c0, vs0, ap0, bu0, c, vs, ap, bu, n, S, ow, tx, th, cn, Rw, ord, ch, f, hD, hMd, hAns, hSl, hOut⟩ := hJ
  have hbA : ¬ a ≤ b0 := by omega
  refine lv_aload_n hx hb dL_law_322 rfl (lv_at hl 3 rfl) ?_
  refine xr_Vi (rest := []) ⟨hx, hb, hml, hown, hts⟩ (KK_ok g) hK (c_X6_run l g H a c0 vs0 ap0 bu0 c vs ap bu n S ow tx hD) (cwV 0 hts gL_law_X6_run rfl rfl rfl (by decide +kernel) ⟨Nat.le_of_ble_eq_true rfl, Nat.le_of_ble_eq_true rfl⟩) (xr_rec hK (show obj g H a 6 _ from hD.choose_spec.choose_spec.choose_spec.choose_spec.choose_spec.choose_spec.choose_spec.2.1) rfl) rfl hl.1 rfl (Nat.le_of_ble_eq_true rfl) dL_law_323 ⟨(by show (_ : Nat) ≤ 601024; first | omega | (dsimp only; omega)), (by show (_ : Nat) ≤ 7293034; first | omega | (dsimp only; omega))⟩ hS (fun q h => by have h : a ≤ q ∧ q < a + 579 := h; show a ≤ q; omega) (fun r1 H locs hq hz hkp hS => ?_)
  replace hkp := fun (q : Nat) h1 (h2 : ¬ (a ≤ q ∧ q < a + 579)) => hkp q h1 h2
  have hMd := hMd.kept (fun q h1 h2 h3 => hkp q h1 (by omega))
  have hOut := hOut.kept (hkp _ hOut.lt (by omega))
  obtain ⟨n1, S1, hr1, hR1, hD⟩ := hq
  refine lv_aload_n hx hb dL_law_326 rfl (lv_at hl 2 rfl) ?_
  refine xr_Vi (rest := [.int r1]) ⟨hx, hb, hml, hown, hts⟩ (KK_ok g) hK (c_X7_run l g H (a + 579) th c0 vs0 ap0 bu0 c vs ap bu cn n Rw ord ch hMd) (cwV 0 hts gL_law_X7_run rfl rfl rfl (by decide +kernel) ⟨Nat.le_of_ble_eq_true rfl, Nat.le_of_ble_eq_true rfl⟩) (xr_rec hK (show obj g H (a + 579) 7 _ from hMd.choose_spec.choose_spec.choose_spec.choose_spec.1) rfl) rfl hl.1 rfl (Nat.le_of_ble_eq_true rfl) dL_law_327 ⟨(by show (_ : Nat) ≤ 601024; first | omega | (dsimp only; omega)), (by show (_ : Nat) ≤ 7293034; first | omega | (dsimp only; omega))⟩ hS (fun q h => by have h : a + 579 ≤ q ∧ q < a + 579 + 12 := h; show a ≤ q; omega) (fun r2 H locs hq hz hkp hS => ?_)
  replace hkp := fun (q : Nat) h1 (h2 : ¬ (a + 579 ≤ q ∧ q < a + 579 + 12)) => hkp q h1 h2
  have hD := hD.kept (fun q h1 h2 => hkp q h1 (by omega))
  have hOut := hOut.kept (hkp _ hOut.lt (by omega))
  obtain ⟨n2, R2, ord2, ch2, hr2, hMd, hW2, hR2⟩ := hq
  obtain ⟨d1, d2, d3, d4, -, -⟩ := desk_bd hD
  obtain ⟨en, hC⟩ := res_ok d3 hR1 hR2 ⟨_, _, hR2, mres_cons hR2⟩
  subst en
  have hAns := ans_of hR1 hR2 hW2 hC d1 d2
  have hSl : SlOK ap0 n1 S1 (-1) [] := fun j hj q => absurd q.symm (nI_m1 (by omega))
  refine lv_icmp_eq (tgt := 767) hx hb dL_law_330 (by decide) (fun hcmp => ?_) (fun hcmp => ?_)
  · clear hcmp
    refine W.widen (k := cs + 1) (n := sl + 6) (by show (_ : Nat) ≤ cs + 1; first | omega | (dsimp only; omega)) (by show (_ : Nat) ≤ sl + 6; first | omega | (dsimp only; omega)) ?_
    exact kk H _ ls ⟨_, _, _, _, _, _, _, _, _, _, _, _, _, _, _, _, _, _, hD, hMd, hAns, hSl, hOut⟩ hS hl
  · exact absurd (hr1.trans hr2.symm) hcmp
set_option maxHeartbeats 1000000 in
set_option maxRecDepth 100000 in
theorem lwC_8 (l : Launch) (g : WG) (pgm : Program) (env : Env) (s : State) (mid : MethodId) (below : List Frame) (meth : Method) (cde : Code) (b0 L : Nat) (xs : Nat → Int32) (hx : pgm.tables.exec = Jvm.exec) (hb : cde.code = cL_law) (hml : cde.maxLocals = 7) (hts : ∀ w ∈ wsL_law, w.before #[Value.ref b0] s = true) (hown : s.vm.findClass RL = some mid.cls) (hK : KK g s) (hX : va_X b0 L xs s s.heap) (hb0 : b0 < s.heap.size) (hL : L ≤ 2560) (a : Nat) (ha : a = s.heap.size) (H : Heap) (locs : List Loc) (cs sl i : Nat) (hi : i + 5 ≤ L) (hcs : cs ≤ 600000) (hsl : sl ≤ 7000000) (hJ : JT g H a) (hS : va_S (fun q => a ≤ q) s.heap H locs) (ls : Array Slot) (hl : lv_has ls 7 [(4, .int (nI i)), (3, .ref (a + 591)), (2, .ref (a + 579)), (1, .ref a), (0, .ref b0)]) (kk : ∀ (H1 : Heap) (locs1 : List Loc) (ls1 : Array Slot), JT g H1 a → va_S (fun q => a ≤ q) s.heap H1 locs1 → lv_has ls1 7 [(4, .int (nI i)), (3, .ref (a + 591)), (2, .ref (a + 579)), (1, .ref a), (0, .ref b0)] → W pgm l env room_1 s mid #[Value.ref b0] below meth cde H1 locs1 (cs + 1) (sl + 6) (lw_Z below #[Value.ref b0] s) (F0 mid 767 ls1 [])) : W pgm l env room_1 s mid #[Value.ref b0] below meth cde H locs cs sl (lw_Z below #[Value.ref b0] s) (F0 mid 403 ls []) := by
  obtain ⟨c0, vs0, ap0, bu0, c, vs, ap, bu, n, S, ow, tx, th, cn, Rw, ord, ch, f, hD, hMd, hAns, hSl, hOut⟩ := hJ
  have hbA : ¬ a ≤ b0 := by omega
  refine lv_aload_n hx hb dL_law_403 rfl (lv_at hl 3 rfl) ?_
  refine lv_aload_n hx hb dL_law_404 rfl (lv_at hl 4 rfl) ?_
  refine lv_iload hx hb dL_law_405 (lv_at hl 0 rfl) ?_
  refine lv_iconst (v := 1) hx hb dL_law_407 (by decide) ?_
  refine xr_ti (x' := nI 1) rfl ?_
  refine lv_iadd hx hb dL_law_408 ?_
  refine xr_ti (x' := nI (i + 1)) (nI_add _ _) ?_
  refine va_sld hx hb hX hb0 hbA hS (vp_in_nI (show i + 1 < L by omega) (by omega)) dL_law_409 ?_
  rw [nI_clamp (show i + 1 < 2 ^ 31 by omega)]
  refine xr_Vi (rest := []) ⟨hx, hb, hml, hown, hts⟩ (KK_ok g) hK (c_X6_chosen l g H a c0 vs0 ap0 bu0 c vs ap bu n S ow tx hD hAns.1 (xs (i + 1))) (cwV 1 hts gL_law_X6_chosen rfl rfl rfl (by decide +kernel) ⟨Nat.le_of_ble_eq_true rfl, Nat.le_of_ble_eq_true rfl⟩) (xr_rec hK (show obj g H a 6 _ from hD.choose_spec.choose_spec.choose_spec.choose_spec.choose_spec.choose_spec.choose_spec.2.1) rfl) rfl hl.1 rfl (Nat.le_of_ble_eq_true rfl) dL_law_410 ⟨(by show (_ : Nat) ≤ 601024; first | omega | (dsimp only; omega)), (by show (_ : Nat) ≤ 7293034; first | omega | (dsimp only; omega))⟩ hS (fun q h => h.elim) (fun r1 H locs hq hz hkp hS1 => ?_)
  obtain ⟨hr1, rfl⟩ := hq
  have hS := hS1
  refine lv_aload_n hx hb dL_law_413 rfl (lv_at hl 2 rfl) ?_
  refine lv_aload_n hx hb dL_law_414 rfl (lv_at hl 4 rfl) ?_
  refine lv_iload hx hb dL_law_415 (lv_at hl 0 rfl) ?_
  refine lv_iconst (v := 1) hx hb dL_law_417 (by decide) ?_
  refine xr_ti (x' := nI 1) rfl ?_
  refine lv_iadd hx hb dL_law_418 ?_
  refine xr_ti (x' := nI (i + 1)) (nI_add _ _) ?_
  refine va_sld hx hb hX hb0 hbA hS (vp_in_nI (show i + 1 < L by omega) (by omega)) dL_law_419 ?_
  rw [nI_clamp (show i + 1 < 2 ^ 31 by omega)]
  refine xr_Vi (rest := [.int r1]) ⟨hx, hb, hml, hown, hts⟩ (KK_ok g) hK (c_X7_chosen l g H (a + 579) th c0 vs0 ap0 bu0 c vs ap bu cn n Rw ord ch hMd hAns.2.1 (xs (i + 1))) (cwV 1 hts gL_law_X7_chosen rfl rfl rfl (by decide +kernel) ⟨Nat.le_of_ble_eq_true rfl, Nat.le_of_ble_eq_true rfl⟩) (xr_rec hK (show obj g H (a + 579) 7 _ from hMd.choose_spec.choose_spec.choose_spec.choose_spec.1) rfl) rfl hl.1 rfl (Nat.le_of_ble_eq_true rfl) dL_law_420 ⟨(by show (_ : Nat) ≤ 601024; first | omega | (dsimp only; omega)), (by show (_ : Nat) ≤ 7293034; first | omega | (dsimp only; omega))⟩ hS (fun q h => by have h : a + 579 ≤ q ∧ q < a + 579 + 12 := h; show a ≤ q; omega) (fun r2 H locs hq hz hkp hS => ?_)
  replace hkp := fun (q : Nat) h1 (h2 : ¬ (a + 579 ≤ q ∧ q < a + 579 + 12)) => hkp q h1 h2
  have hD := hD.kept (fun q h1 h2 => hkp q h1 (by omega))
  have hOut := hOut.kept (hkp _ hOut.lt (by omega))
  obtain ⟨hr2, hMd⟩ := hq
  refine lv_icmp_eq (tgt := 767) hx hb dL_law_423 (by decide) (fun hcmp => ?_) (fun hcmp => ?_)
  · clear hcmp
    refine W.widen (k := cs + 1) (n := sl + 6) (by show (_ : Nat) ≤ cs + 1; first | omega | (dsimp only; omega)) (by show (_ : Nat) ≤ sl + 6; first | omega | (dsimp only; omega)) ?_
    exact kk H _ ls ⟨_, _, _, _, _, _, _, _, _, _, _, _, _, _, _, _, _, _, hD, hMd, hAns, hSl, hOut⟩ hS hl
  · exact absurd (hr1.trans ((hAns.ch_ _).trans hr2.symm)) hcmp
set_option maxHeartbeats 1000000 in
set_option maxRecDepth 100000 in
theorem lwC_9 (l : Launch) (g : WG) (pgm : Program) (env : Env) (s : State) (mid : MethodId) (below : List Frame) (meth : Method) (cde : Code) (b0 L : Nat) (xs : Nat → Int32) (hx : pgm.tables.exec = Jvm.exec) (hb : cde.code = cL_law) (hml : cde.maxLocals = 7) (hts : ∀ w ∈ wsL_law, w.before #[Value.ref b0] s = true) (hown : s.vm.findClass RL = some mid.cls) (hK : KK g s) (hX : va_X b0 L xs s s.heap) (hb0 : b0 < s.heap.size) (hL : L ≤ 2560) (a : Nat) (ha : a = s.heap.size) (H : Heap) (locs : List Loc) (cs sl i : Nat) (hi : i + 5 ≤ L) (hcs : cs ≤ 600000) (hsl : sl ≤ 7000000) (hJ : JT g H a) (hS : va_S (fun q => a ≤ q) s.heap H locs) (ls : Array Slot) (hl : lv_has ls 7 [(4, .int (nI i)), (3, .ref (a + 591)), (2, .ref (a + 579)), (1, .ref a), (0, .ref b0)]) (kk : ∀ (H1 : Heap) (locs1 : List Loc) (ls1 : Array Slot), JT g H1 a → va_S (fun q => a ≤ q) s.heap H1 locs1 → lv_has ls1 7 [(4, .int (nI i)), (3, .ref (a + 591)), (2, .ref (a + 579)), (1, .ref a), (0, .ref b0)] → W pgm l env room_1 s mid #[Value.ref b0] below meth cde H1 locs1 (cs + 1) (sl + 6) (lw_Z below #[Value.ref b0] s) (F0 mid 767 ls1 [])) : W pgm l env room_1 s mid #[Value.ref b0] below meth cde H locs cs sl (lw_Z below #[Value.ref b0] s) (F0 mid 428 ls []) := by
  obtain ⟨c0, vs0, ap0, bu0, c, vs, ap, bu, n, S, ow, tx, th, cn, Rw, ord, ch, f, hD, hMd, hAns, hSl, hOut⟩ := hJ
  have hbA : ¬ a ≤ b0 := by omega
  refine lv_aload_n hx hb dL_law_428 rfl (lv_at hl 3 rfl) ?_
  refine xr_Vi (rest := []) ⟨hx, hb, hml, hown, hts⟩ (KK_ok g) hK (c_X6_spent l g H a c0 vs0 ap0 bu0 c vs ap bu n S ow tx hD ) (cwV 0 hts gL_law_X6_spent rfl rfl rfl (by decide +kernel) ⟨Nat.le_of_ble_eq_true rfl, Nat.le_of_ble_eq_true rfl⟩) (xr_rec hK (show obj g H a 6 _ from hD.choose_spec.choose_spec.choose_spec.choose_spec.choose_spec.choose_spec.choose_spec.2.1) rfl) rfl hl.1 rfl (Nat.le_of_ble_eq_true rfl) dL_law_429 ⟨(by show (_ : Nat) ≤ 601024; first | omega | (dsimp only; omega)), (by show (_ : Nat) ≤ 7293034; first | omega | (dsimp only; omega))⟩ hS (fun q h => h.elim) (fun r1 H locs hq hz hkp hS1 => ?_)
  obtain ⟨hr1, rfl⟩ := hq
  have hS := hS1
  refine lv_aload_n hx hb dL_law_432 rfl (lv_at hl 2 rfl) ?_
  refine xr_Vi (rest := [.int r1]) ⟨hx, hb, hml, hown, hts⟩ (KK_ok g) hK (c_X7_spent l g H (a + 579) th c0 vs0 ap0 bu0 c vs ap bu cn n Rw ord ch hMd hAns.2.1 ) (cwV 0 hts gL_law_X7_spent rfl rfl rfl (by decide +kernel) ⟨Nat.le_of_ble_eq_true rfl, Nat.le_of_ble_eq_true rfl⟩) (xr_rec hK (show obj g H (a + 579) 7 _ from hMd.choose_spec.choose_spec.choose_spec.choose_spec.1) rfl) rfl hl.1 rfl (Nat.le_of_ble_eq_true rfl) dL_law_433 ⟨(by show (_ : Nat) ≤ 601024; first | omega | (dsimp only; omega)), (by show (_ : Nat) ≤ 7293034; first | omega | (dsimp only; omega))⟩ hS (fun q h => by have h : a + 579 ≤ q ∧ q < a + 579 + 12 := h; show a ≤ q; omega) (fun r2 H locs hq hz hkp hS => ?_)
  replace hkp := fun (q : Nat) h1 (h2 : ¬ (a + 579 ≤ q ∧ q < a + 579 + 12)) => hkp q h1 h2
  have hD := hD.kept (fun q h1 h2 => hkp q h1 (by omega))
  have hOut := hOut.kept (hkp _ hOut.lt (by omega))
  obtain ⟨hr2, hMd⟩ := hq
  refine lv_icmp_eq (tgt := 767) hx hb dL_law_436 (by decide) (fun hcmp => ?_) (fun hcmp => ?_)
  · clear hcmp
    refine W.widen (k := cs + 1) (n := sl + 6) (by show (_ : Nat) ≤ cs + 1; first | omega | (dsimp only; omega)) (by show (_ : Nat) ≤ sl + 6; first | omega | (dsimp only; omega)) ?_
    exact kk H _ ls ⟨_, _, _, _, _, _, _, _, _, _, _, _, _, _, _, _, _, _, hD, hMd, hAns, hSl, hOut⟩ hS hl
  · exact absurd (hr1.trans ((hAns.sp).trans hr2.symm)) hcmp
set_option maxHeartbeats 1000000 in
set_option maxRecDepth 100000 in
theorem lwC_10 (l : Launch) (g : WG) (pgm : Program) (env : Env) (s : State) (mid : MethodId) (below : List Frame) (meth : Method) (cde : Code) (b0 L : Nat) (xs : Nat → Int32) (hx : pgm.tables.exec = Jvm.exec) (hb : cde.code = cL_law) (hml : cde.maxLocals = 7) (hts : ∀ w ∈ wsL_law, w.before #[Value.ref b0] s = true) (hown : s.vm.findClass RL = some mid.cls) (hK : KK g s) (hX : va_X b0 L xs s s.heap) (hb0 : b0 < s.heap.size) (hL : L ≤ 2560) (a : Nat) (ha : a = s.heap.size) (H : Heap) (locs : List Loc) (cs sl i : Nat) (hi : i + 5 ≤ L) (hcs : cs ≤ 600000) (hsl : sl ≤ 7000000) (hJ : JT g H a) (hS : va_S (fun q => a ≤ q) s.heap H locs) (ls : Array Slot) (hl : lv_has ls 7 [(4, .int (nI i)), (3, .ref (a + 591)), (2, .ref (a + 579)), (1, .ref a), (0, .ref b0)]) (kk : ∀ (H1 : Heap) (locs1 : List Loc) (ls1 : Array Slot), JT g H1 a → va_S (fun q => a ≤ q) s.heap H1 locs1 → lv_has ls1 7 [(4, .int (nI i)), (3, .ref (a + 591)), (2, .ref (a + 579)), (1, .ref a), (0, .ref b0)] → W pgm l env room_1 s mid #[Value.ref b0] below meth cde H1 locs1 (cs + 1) (sl + 6) (lw_Z below #[Value.ref b0] s) (F0 mid 767 ls1 [])) : W pgm l env room_1 s mid #[Value.ref b0] below meth cde H locs cs sl (lw_Z below #[Value.ref b0] s) (F0 mid 441 ls []) := by
  obtain ⟨c0, vs0, ap0, bu0, c, vs, ap, bu, n, S, ow, tx, th, cn, Rw, ord, ch, f, hD, hMd, hAns, hSl, hOut⟩ := hJ
  have hbA : ¬ a ≤ b0 := by omega
  refine lv_aload_n hx hb dL_law_441 rfl (lv_at hl 3 rfl) ?_
  refine lv_aload_n hx hb dL_law_442 rfl (lv_at hl 4 rfl) ?_
  refine lv_iload hx hb dL_law_443 (lv_at hl 0 rfl) ?_
  refine lv_iconst (v := 1) hx hb dL_law_445 (by decide) ?_
  refine xr_ti (x' := nI 1) rfl ?_
  refine lv_iadd hx hb dL_law_446 ?_
  refine xr_ti (x' := nI (i + 1)) (nI_add _ _) ?_
  refine va_sld hx hb hX hb0 hbA hS (vp_in_nI (show i + 1 < L by omega) (by omega)) dL_law_447 ?_
  rw [nI_clamp (show i + 1 < 2 ^ 31 by omega)]
  refine lv_aload_n hx hb dL_law_448 rfl (lv_at hl 4 rfl) ?_
  refine lv_iload hx hb dL_law_449 (lv_at hl 0 rfl) ?_
  refine lv_iconst (v := 2) hx hb dL_law_451 (by decide) ?_
  refine xr_ti (x' := nI 2) rfl ?_
  refine lv_iadd hx hb dL_law_452 ?_
  refine xr_ti (x' := nI (i + 2)) (nI_add _ _) ?_
  refine va_sld hx hb hX hb0 hbA hS (vp_in_nI (show i + 2 < L by omega) (by omega)) dL_law_453 ?_
  rw [nI_clamp (show i + 2 < 2 ^ 31 by omega)]
  refine lv_aload_n hx hb dL_law_454 rfl (lv_at hl 4 rfl) ?_
  refine lv_iload hx hb dL_law_455 (lv_at hl 0 rfl) ?_
  refine lv_iconst (v := 3) hx hb dL_law_457 (by decide) ?_
  refine xr_ti (x' := nI 3) rfl ?_
  refine lv_iadd hx hb dL_law_458 ?_
  refine xr_ti (x' := nI (i + 3)) (nI_add _ _) ?_
  refine va_sld hx hb hX hb0 hbA hS (vp_in_nI (show i + 3 < L by omega) (by omega)) dL_law_459 ?_
  rw [nI_clamp (show i + 3 < 2 ^ 31 by omega)]
  refine xr_Vi (rest := []) ⟨hx, hb, hml, hown, hts⟩ (KK_ok g) hK (c_X6_purse l g H a c0 vs0 ap0 bu0 c vs ap bu n S ow tx hD hAns.1 (xs (i + 1)) (xs (i + 2)) (xs (i + 3))) (cwV 3 hts gL_law_X6_purse rfl rfl rfl (by decide +kernel) ⟨Nat.le_of_ble_eq_true rfl, Nat.le_of_ble_eq_true rfl⟩) (xr_rec hK (show obj g H a 6 _ from hD.choose_spec.choose_spec.choose_spec.choose_spec.choose_spec.choose_spec.choose_spec.2.1) rfl) rfl hl.1 rfl (Nat.le_of_ble_eq_true rfl) dL_law_460 ⟨(by show (_ : Nat) ≤ 601024; first | omega | (dsimp only; omega)), (by show (_ : Nat) ≤ 7293034; first | omega | (dsimp only; omega))⟩ hS (fun q h => by have h : a ≤ q ∧ q < a + 579 := h; show a ≤ q; omega) (fun r1 H locs hq hz hkp hS => ?_)
  replace hkp := fun (q : Nat) h1 (h2 : ¬ (a ≤ q ∧ q < a + 579)) => hkp q h1 h2
  have hMd := hMd.kept (fun q h1 h2 h3 => hkp q h1 (by omega))
  have hOut := hOut.kept (hkp _ hOut.lt (by omega))
  obtain ⟨hr1, hD⟩ := hq
  refine lv_aload_n hx hb dL_law_463 rfl (lv_at hl 2 rfl) ?_
  refine lv_aload_n hx hb dL_law_464 rfl (lv_at hl 4 rfl) ?_
  refine lv_iload hx hb dL_law_465 (lv_at hl 0 rfl) ?_
  refine lv_iconst (v := 1) hx hb dL_law_467 (by decide) ?_
  refine xr_ti (x' := nI 1) rfl ?_
  refine lv_iadd hx hb dL_law_468 ?_
  refine xr_ti (x' := nI (i + 1)) (nI_add _ _) ?_
  refine va_sld hx hb hX hb0 hbA hS (vp_in_nI (show i + 1 < L by omega) (by omega)) dL_law_469 ?_
  rw [nI_clamp (show i + 1 < 2 ^ 31 by omega)]
  refine lv_aload_n hx hb dL_law_470 rfl (lv_at hl 4 rfl) ?_
  refine lv_iload hx hb dL_law_471 (lv_at hl 0 rfl) ?_
  refine lv_iconst (v := 2) hx hb dL_law_473 (by decide) ?_
  refine xr_ti (x' := nI 2) rfl ?_
  refine lv_iadd hx hb dL_law_474 ?_
  refine xr_ti (x' := nI (i + 2)) (nI_add _ _) ?_
  refine va_sld hx hb hX hb0 hbA hS (vp_in_nI (show i + 2 < L by omega) (by omega)) dL_law_475 ?_
  rw [nI_clamp (show i + 2 < 2 ^ 31 by omega)]
  refine lv_aload_n hx hb dL_law_476 rfl (lv_at hl 4 rfl) ?_
  refine lv_iload hx hb dL_law_477 (lv_at hl 0 rfl) ?_
  refine lv_iconst (v := 3) hx hb dL_law_479 (by decide) ?_
  refine xr_ti (x' := nI 3) rfl ?_
  refine lv_iadd hx hb dL_law_480 ?_
  refine xr_ti (x' := nI (i + 3)) (nI_add _ _) ?_
  refine va_sld hx hb hX hb0 hbA hS (vp_in_nI (show i + 3 < L by omega) (by omega)) dL_law_481 ?_
  rw [nI_clamp (show i + 3 < 2 ^ 31 by omega)]
  refine xr_Vi (rest := [.int r1]) ⟨hx, hb, hml, hown, hts⟩ (KK_ok g) hK (c_X7_purse l g H (a + 579) th c0 vs0 ap0 bu0 c vs ap bu cn n Rw ord ch hMd hAns.2.1 (xs (i + 1)) (xs (i + 2)) (xs (i + 3))) (cwV 3 hts gL_law_X7_purse rfl rfl rfl (by decide +kernel) ⟨Nat.le_of_ble_eq_true rfl, Nat.le_of_ble_eq_true rfl⟩) (xr_rec hK (show obj g H (a + 579) 7 _ from hMd.choose_spec.choose_spec.choose_spec.choose_spec.1) rfl) rfl hl.1 rfl (Nat.le_of_ble_eq_true rfl) dL_law_482 ⟨(by show (_ : Nat) ≤ 601024; first | omega | (dsimp only; omega)), (by show (_ : Nat) ≤ 7293034; first | omega | (dsimp only; omega))⟩ hS (fun q h => by have h : a + 579 ≤ q ∧ q < a + 579 + 12 := h; show a ≤ q; omega) (fun r2 H locs hq hz hkp hS => ?_)
  replace hkp := fun (q : Nat) h1 (h2 : ¬ (a + 579 ≤ q ∧ q < a + 579 + 12)) => hkp q h1 h2
  have hD := hD.kept (fun q h1 h2 => hkp q h1 (by omega))
  have hOut := hOut.kept (hkp _ hOut.lt (by omega))
  obtain ⟨hr2, R1, hMd, eR⟩ := hq
  have hAns1 := hAns.ext eR
  refine lv_icmp_eq (tgt := 767) hx hb dL_law_485 (by decide) (fun hcmp => ?_) (fun hcmp => ?_)
  · clear hcmp
    refine W.widen (k := cs + 1) (n := sl + 6) (by show (_ : Nat) ≤ cs + 1; first | omega | (dsimp only; omega)) (by show (_ : Nat) ≤ sl + 6; first | omega | (dsimp only; omega)) ?_
    exact kk H _ ls ⟨_, _, _, _, _, _, _, _, _, _, _, _, _, _, _, _, _, _, hD, hMd, hAns1, hSl, hOut⟩ hS hl
  · exact absurd (hr1.trans ((hAns.pu _ _ _).trans hr2.symm)) hcmp
set_option maxHeartbeats 1000000 in
set_option maxRecDepth 100000 in
theorem lwC_11 (l : Launch) (g : WG) (pgm : Program) (env : Env) (s : State) (mid : MethodId) (below : List Frame) (meth : Method) (cde : Code) (b0 L : Nat) (xs : Nat → Int32) (hx : pgm.tables.exec = Jvm.exec) (hb : cde.code = cL_law) (hml : cde.maxLocals = 7) (hts : ∀ w ∈ wsL_law, w.before #[Value.ref b0] s = true) (hown : s.vm.findClass RL = some mid.cls) (hK : KK g s) (hX : va_X b0 L xs s s.heap) (hb0 : b0 < s.heap.size) (hL : L ≤ 2560) (a : Nat) (ha : a = s.heap.size) (H : Heap) (locs : List Loc) (cs sl i : Nat) (hi : i + 5 ≤ L) (hcs : cs ≤ 600000) (hsl : sl ≤ 7000000) (hJ : JT g H a) (hS : va_S (fun q => a ≤ q) s.heap H locs) (ls : Array Slot) (hl : lv_has ls 7 [(4, .int (nI i)), (3, .ref (a + 591)), (2, .ref (a + 579)), (1, .ref a), (0, .ref b0)]) (kk : ∀ (H1 : Heap) (locs1 : List Loc) (ls1 : Array Slot), JT g H1 a → va_S (fun q => a ≤ q) s.heap H1 locs1 → lv_has ls1 7 [(4, .int (nI i)), (3, .ref (a + 591)), (2, .ref (a + 579)), (1, .ref a), (0, .ref b0)] → W pgm l env room_1 s mid #[Value.ref b0] below meth cde H1 locs1 (cs + 1) (sl + 6) (lw_Z below #[Value.ref b0] s) (F0 mid 767 ls1 [])) : W pgm l env room_1 s mid #[Value.ref b0] below meth cde H locs cs sl (lw_Z below #[Value.ref b0] s) (F0 mid 490 ls []) := by
  obtain ⟨c0, vs0, ap0, bu0, c, vs, ap, bu, n, S, ow, tx, th, cn, Rw, ord, ch, f, hD, hMd, hAns, hSl, hOut⟩ := hJ
  have hbA : ¬ a ≤ b0 := by omega
  refine lv_aload_n hx hb dL_law_490 rfl (lv_at hl 3 rfl) ?_
  refine lv_aload_n hx hb dL_law_491 rfl (lv_at hl 4 rfl) ?_
  refine lv_iload hx hb dL_law_492 (lv_at hl 0 rfl) ?_
  refine lv_iconst (v := 1) hx hb dL_law_494 (by decide) ?_
  refine xr_ti (x' := nI 1) rfl ?_
  refine lv_iadd hx hb dL_law_495 ?_
  refine xr_ti (x' := nI (i + 1)) (nI_add _ _) ?_
  refine va_sld hx hb hX hb0 hbA hS (vp_in_nI (show i + 1 < L by omega) (by omega)) dL_law_496 ?_
  rw [nI_clamp (show i + 1 < 2 ^ 31 by omega)]
  refine lv_aload_n hx hb dL_law_497 rfl (lv_at hl 4 rfl) ?_
  refine lv_iload hx hb dL_law_498 (lv_at hl 0 rfl) ?_
  refine lv_iconst (v := 2) hx hb dL_law_500 (by decide) ?_
  refine xr_ti (x' := nI 2) rfl ?_
  refine lv_iadd hx hb dL_law_501 ?_
  refine xr_ti (x' := nI (i + 2)) (nI_add _ _) ?_
  refine va_sld hx hb hX hb0 hbA hS (vp_in_nI (show i + 2 < L by omega) (by omega)) dL_law_502 ?_
  rw [nI_clamp (show i + 2 < 2 ^ 31 by omega)]
  refine lv_aload_n hx hb dL_law_503 rfl (lv_at hl 4 rfl) ?_
  refine lv_iload hx hb dL_law_504 (lv_at hl 0 rfl) ?_
  refine lv_iconst (v := 3) hx hb dL_law_506 (by decide) ?_
  refine xr_ti (x' := nI 3) rfl ?_
  refine lv_iadd hx hb dL_law_507 ?_
  refine xr_ti (x' := nI (i + 3)) (nI_add _ _) ?_
  refine va_sld hx hb hX hb0 hbA hS (vp_in_nI (show i + 3 < L by omega) (by omega)) dL_law_508 ?_
  rw [nI_clamp (show i + 3 < 2 ^ 31 by omega)]
  refine lv_aload_n hx hb dL_law_509 rfl (lv_at hl 4 rfl) ?_
  refine lv_iload hx hb dL_law_510 (lv_at hl 0 rfl) ?_
  refine lv_iconst (v := 4) hx hb dL_law_512 (by decide) ?_
  refine xr_ti (x' := nI 4) rfl ?_
  refine lv_iadd hx hb dL_law_513 ?_
  refine xr_ti (x' := nI (i + 4)) (nI_add _ _) ?_
  refine va_sld hx hb hX hb0 hbA hS (vp_in_nI (show i + 4 < L by omega) (by omega)) dL_law_514 ?_
  rw [nI_clamp (show i + 4 < 2 ^ 31 by omega)]
  refine xr_Vi (rest := []) ⟨hx, hb, hml, hown, hts⟩ (KK_ok g) hK (c_X6_paid l g H a c0 vs0 ap0 bu0 c vs ap bu n S ow tx hD hAns.1 (xs (i + 1)) (xs (i + 2)) (xs (i + 3)) (xs (i + 4))) (cwV 4 hts gL_law_X6_paid rfl rfl rfl (by decide +kernel) ⟨Nat.le_of_ble_eq_true rfl, Nat.le_of_ble_eq_true rfl⟩) (xr_rec hK (show obj g H a 6 _ from hD.choose_spec.choose_spec.choose_spec.choose_spec.choose_spec.choose_spec.choose_spec.2.1) rfl) rfl hl.1 rfl (Nat.le_of_ble_eq_true rfl) dL_law_515 ⟨(by show (_ : Nat) ≤ 601024; first | omega | (dsimp only; omega)), (by show (_ : Nat) ≤ 7293034; first | omega | (dsimp only; omega))⟩ hS (fun q h => by have h : a ≤ q ∧ q < a + 579 := h; show a ≤ q; omega) (fun r1 H locs hq hz hkp hS => ?_)
  replace hkp := fun (q : Nat) h1 (h2 : ¬ (a ≤ q ∧ q < a + 579)) => hkp q h1 h2
  have hMd := hMd.kept (fun q h1 h2 h3 => hkp q h1 (by omega))
  have hOut := hOut.kept (hkp _ hOut.lt (by omega))
  obtain ⟨hr1, hD⟩ := hq
  refine lv_aload_n hx hb dL_law_518 rfl (lv_at hl 2 rfl) ?_
  refine lv_aload_n hx hb dL_law_519 rfl (lv_at hl 4 rfl) ?_
  refine lv_iload hx hb dL_law_520 (lv_at hl 0 rfl) ?_
  refine lv_iconst (v := 1) hx hb dL_law_522 (by decide) ?_
  refine xr_ti (x' := nI 1) rfl ?_
  refine lv_iadd hx hb dL_law_523 ?_
  refine xr_ti (x' := nI (i + 1)) (nI_add _ _) ?_
  refine va_sld hx hb hX hb0 hbA hS (vp_in_nI (show i + 1 < L by omega) (by omega)) dL_law_524 ?_
  rw [nI_clamp (show i + 1 < 2 ^ 31 by omega)]
  refine lv_aload_n hx hb dL_law_525 rfl (lv_at hl 4 rfl) ?_
  refine lv_iload hx hb dL_law_526 (lv_at hl 0 rfl) ?_
  refine lv_iconst (v := 2) hx hb dL_law_528 (by decide) ?_
  refine xr_ti (x' := nI 2) rfl ?_
  refine lv_iadd hx hb dL_law_529 ?_
  refine xr_ti (x' := nI (i + 2)) (nI_add _ _) ?_
  refine va_sld hx hb hX hb0 hbA hS (vp_in_nI (show i + 2 < L by omega) (by omega)) dL_law_530 ?_
  rw [nI_clamp (show i + 2 < 2 ^ 31 by omega)]
  refine lv_aload_n hx hb dL_law_531 rfl (lv_at hl 4 rfl) ?_
  refine lv_iload hx hb dL_law_532 (lv_at hl 0 rfl) ?_
  refine lv_iconst (v := 3) hx hb dL_law_534 (by decide) ?_
  refine xr_ti (x' := nI 3) rfl ?_
  refine lv_iadd hx hb dL_law_535 ?_
  refine xr_ti (x' := nI (i + 3)) (nI_add _ _) ?_
  refine va_sld hx hb hX hb0 hbA hS (vp_in_nI (show i + 3 < L by omega) (by omega)) dL_law_536 ?_
  rw [nI_clamp (show i + 3 < 2 ^ 31 by omega)]
  refine lv_aload_n hx hb dL_law_537 rfl (lv_at hl 4 rfl) ?_
  refine lv_iload hx hb dL_law_538 (lv_at hl 0 rfl) ?_
  refine lv_iconst (v := 4) hx hb dL_law_540 (by decide) ?_
  refine xr_ti (x' := nI 4) rfl ?_
  refine lv_iadd hx hb dL_law_541 ?_
  refine xr_ti (x' := nI (i + 4)) (nI_add _ _) ?_
  refine va_sld hx hb hX hb0 hbA hS (vp_in_nI (show i + 4 < L by omega) (by omega)) dL_law_542 ?_
  rw [nI_clamp (show i + 4 < 2 ^ 31 by omega)]
  refine xr_Vi (rest := [.int r1]) ⟨hx, hb, hml, hown, hts⟩ (KK_ok g) hK (c_X7_paid l g H (a + 579) th c0 vs0 ap0 bu0 c vs ap bu cn n Rw ord ch hMd hAns.2.1 (xs (i + 1)) (xs (i + 2)) (xs (i + 3)) (xs (i + 4))) (cwV 4 hts gL_law_X7_paid rfl rfl rfl (by decide +kernel) ⟨Nat.le_of_ble_eq_true rfl, Nat.le_of_ble_eq_true rfl⟩) (xr_rec hK (show obj g H (a + 579) 7 _ from hMd.choose_spec.choose_spec.choose_spec.choose_spec.1) rfl) rfl hl.1 rfl (Nat.le_of_ble_eq_true rfl) dL_law_543 ⟨(by show (_ : Nat) ≤ 601024; first | omega | (dsimp only; omega)), (by show (_ : Nat) ≤ 7293034; first | omega | (dsimp only; omega))⟩ hS (fun q h => by have h : a + 579 ≤ q ∧ q < a + 579 + 12 := h; show a ≤ q; omega) (fun r2 H locs hq hz hkp hS => ?_)
  replace hkp := fun (q : Nat) h1 (h2 : ¬ (a + 579 ≤ q ∧ q < a + 579 + 12)) => hkp q h1 h2
  have hD := hD.kept (fun q h1 h2 => hkp q h1 (by omega))
  have hOut := hOut.kept (hkp _ hOut.lt (by omega))
  obtain ⟨hr2, R1, hMd, eR⟩ := hq
  have hAns1 := hAns.ext eR
  refine lv_icmp_eq (tgt := 767) hx hb dL_law_546 (by decide) (fun hcmp => ?_) (fun hcmp => ?_)
  · clear hcmp
    refine W.widen (k := cs + 1) (n := sl + 6) (by show (_ : Nat) ≤ cs + 1; first | omega | (dsimp only; omega)) (by show (_ : Nat) ≤ sl + 6; first | omega | (dsimp only; omega)) ?_
    exact kk H _ ls ⟨_, _, _, _, _, _, _, _, _, _, _, _, _, _, _, _, _, _, hD, hMd, hAns1, hSl, hOut⟩ hS hl
  · exact absurd (hr1.trans ((hAns.pd _ _ _ _).trans hr2.symm)) hcmp
set_option maxHeartbeats 1000000 in
set_option maxRecDepth 100000 in
theorem lwC_12 (l : Launch) (g : WG) (pgm : Program) (env : Env) (s : State) (mid : MethodId) (below : List Frame) (meth : Method) (cde : Code) (b0 L : Nat) (xs : Nat → Int32) (hx : pgm.tables.exec = Jvm.exec) (hb : cde.code = cL_law) (hml : cde.maxLocals = 7) (hts : ∀ w ∈ wsL_law, w.before #[Value.ref b0] s = true) (hown : s.vm.findClass RL = some mid.cls) (hK : KK g s) (hX : va_X b0 L xs s s.heap) (hb0 : b0 < s.heap.size) (hL : L ≤ 2560) (a : Nat) (ha : a = s.heap.size) (H : Heap) (locs : List Loc) (cs sl i : Nat) (hi : i + 5 ≤ L) (hcs : cs ≤ 600000) (hsl : sl ≤ 7000000) (hJ : JT g H a) (hS : va_S (fun q => a ≤ q) s.heap H locs) (ls : Array Slot) (hl : lv_has ls 7 [(4, .int (nI i)), (3, .ref (a + 591)), (2, .ref (a + 579)), (1, .ref a), (0, .ref b0)]) (kk : ∀ (H1 : Heap) (locs1 : List Loc) (ls1 : Array Slot), JT g H1 a → va_S (fun q => a ≤ q) s.heap H1 locs1 → lv_has ls1 7 [(4, .int (nI i)), (3, .ref (a + 591)), (2, .ref (a + 579)), (1, .ref a), (0, .ref b0)] → W pgm l env room_1 s mid #[Value.ref b0] below meth cde H1 locs1 (cs + 1) (sl + 6) (lw_Z below #[Value.ref b0] s) (F0 mid 767 ls1 [])) : W pgm l env room_1 s mid #[Value.ref b0] below meth cde H locs cs sl (lw_Z below #[Value.ref b0] s) (F0 mid 551 ls []) := by
  obtain ⟨c0, vs0, ap0, bu0, c, vs, ap, bu, n, S, ow, tx, th, cn, Rw, ord, ch, f, hD, hMd, hAns, hSl, hOut⟩ := hJ
  have hbA : ¬ a ≤ b0 := by omega
  refine lv_aload_n hx hb dL_law_551 rfl (lv_at hl 3 rfl) ?_
  refine lv_aload_n hx hb dL_law_552 rfl (lv_at hl 4 rfl) ?_
  refine lv_iload hx hb dL_law_553 (lv_at hl 0 rfl) ?_
  refine lv_iconst (v := 1) hx hb dL_law_555 (by decide) ?_
  refine xr_ti (x' := nI 1) rfl ?_
  refine lv_iadd hx hb dL_law_556 ?_
  refine xr_ti (x' := nI (i + 1)) (nI_add _ _) ?_
  refine va_sld hx hb hX hb0 hbA hS (vp_in_nI (show i + 1 < L by omega) (by omega)) dL_law_557 ?_
  rw [nI_clamp (show i + 1 < 2 ^ 31 by omega)]
  refine lv_aload_n hx hb dL_law_558 rfl (lv_at hl 4 rfl) ?_
  refine lv_iload hx hb dL_law_559 (lv_at hl 0 rfl) ?_
  refine lv_iconst (v := 2) hx hb dL_law_561 (by decide) ?_
  refine xr_ti (x' := nI 2) rfl ?_
  refine lv_iadd hx hb dL_law_562 ?_
  refine xr_ti (x' := nI (i + 2)) (nI_add _ _) ?_
  refine va_sld hx hb hX hb0 hbA hS (vp_in_nI (show i + 2 < L by omega) (by omega)) dL_law_563 ?_
  rw [nI_clamp (show i + 2 < 2 ^ 31 by omega)]
  refine lv_aload_n hx hb dL_law_564 rfl (lv_at hl 4 rfl) ?_
  refine lv_iload hx hb dL_law_565 (lv_at hl 0 rfl) ?_
  refine lv_iconst (v := 3) hx hb dL_law_567 (by decide) ?_
  refine xr_ti (x' := nI 3) rfl ?_
  refine lv_iadd hx hb dL_law_568 ?_
  refine xr_ti (x' := nI (i + 3)) (nI_add _ _) ?_
  refine va_sld hx hb hX hb0 hbA hS (vp_in_nI (show i + 3 < L by omega) (by omega)) dL_law_569 ?_
  rw [nI_clamp (show i + 3 < 2 ^ 31 by omega)]
  refine xr_Vi (rest := []) ⟨hx, hb, hml, hown, hts⟩ (KK_ok g) hK (c_X6_rate l g H a c0 vs0 ap0 bu0 c vs ap bu n S ow tx hD hAns.1 (xs (i + 1)) (xs (i + 2)) (xs (i + 3))) (cwV 3 hts gL_law_X6_rate rfl rfl rfl (by decide +kernel) ⟨Nat.le_of_ble_eq_true rfl, Nat.le_of_ble_eq_true rfl⟩) (xr_rec hK (show obj g H a 6 _ from hD.choose_spec.choose_spec.choose_spec.choose_spec.choose_spec.choose_spec.choose_spec.2.1) rfl) rfl hl.1 rfl (Nat.le_of_ble_eq_true rfl) dL_law_570 ⟨(by show (_ : Nat) ≤ 601024; first | omega | (dsimp only; omega)), (by show (_ : Nat) ≤ 7293034; first | omega | (dsimp only; omega))⟩ hS (fun q h => by have h : a ≤ q ∧ q < a + 579 := h; show a ≤ q; omega) (fun r1 H locs hq hz hkp hS => ?_)
  replace hkp := fun (q : Nat) h1 (h2 : ¬ (a ≤ q ∧ q < a + 579)) => hkp q h1 h2
  have hMd := hMd.kept (fun q h1 h2 h3 => hkp q h1 (by omega))
  have hOut := hOut.kept (hkp _ hOut.lt (by omega))
  obtain ⟨hr1, hD⟩ := hq
  refine lv_aload_n hx hb dL_law_573 rfl (lv_at hl 2 rfl) ?_
  refine lv_aload_n hx hb dL_law_574 rfl (lv_at hl 4 rfl) ?_
  refine lv_iload hx hb dL_law_575 (lv_at hl 0 rfl) ?_
  refine lv_iconst (v := 1) hx hb dL_law_577 (by decide) ?_
  refine xr_ti (x' := nI 1) rfl ?_
  refine lv_iadd hx hb dL_law_578 ?_
  refine xr_ti (x' := nI (i + 1)) (nI_add _ _) ?_
  refine va_sld hx hb hX hb0 hbA hS (vp_in_nI (show i + 1 < L by omega) (by omega)) dL_law_579 ?_
  rw [nI_clamp (show i + 1 < 2 ^ 31 by omega)]
  refine lv_aload_n hx hb dL_law_580 rfl (lv_at hl 4 rfl) ?_
  refine lv_iload hx hb dL_law_581 (lv_at hl 0 rfl) ?_
  refine lv_iconst (v := 2) hx hb dL_law_583 (by decide) ?_
  refine xr_ti (x' := nI 2) rfl ?_
  refine lv_iadd hx hb dL_law_584 ?_
  refine xr_ti (x' := nI (i + 2)) (nI_add _ _) ?_
  refine va_sld hx hb hX hb0 hbA hS (vp_in_nI (show i + 2 < L by omega) (by omega)) dL_law_585 ?_
  rw [nI_clamp (show i + 2 < 2 ^ 31 by omega)]
  refine lv_aload_n hx hb dL_law_586 rfl (lv_at hl 4 rfl) ?_
  refine lv_iload hx hb dL_law_587 (lv_at hl 0 rfl) ?_
  refine lv_iconst (v := 3) hx hb dL_law_589 (by decide) ?_
  refine xr_ti (x' := nI 3) rfl ?_
  refine lv_iadd hx hb dL_law_590 ?_
  refine xr_ti (x' := nI (i + 3)) (nI_add _ _) ?_
  refine va_sld hx hb hX hb0 hbA hS (vp_in_nI (show i + 3 < L by omega) (by omega)) dL_law_591 ?_
  rw [nI_clamp (show i + 3 < 2 ^ 31 by omega)]
  refine xr_Vi (rest := [.int r1]) ⟨hx, hb, hml, hown, hts⟩ (KK_ok g) hK (c_X7_rate l g H (a + 579) th c0 vs0 ap0 bu0 c vs ap bu cn n Rw ord ch hMd hAns.2.1 (xs (i + 1)) (xs (i + 2)) (xs (i + 3))) (cwV 3 hts gL_law_X7_rate rfl rfl rfl (by decide +kernel) ⟨Nat.le_of_ble_eq_true rfl, Nat.le_of_ble_eq_true rfl⟩) (xr_rec hK (show obj g H (a + 579) 7 _ from hMd.choose_spec.choose_spec.choose_spec.choose_spec.1) rfl) rfl hl.1 rfl (Nat.le_of_ble_eq_true rfl) dL_law_592 ⟨(by show (_ : Nat) ≤ 601024; first | omega | (dsimp only; omega)), (by show (_ : Nat) ≤ 7293034; first | omega | (dsimp only; omega))⟩ hS (fun q h => by have h : a + 579 ≤ q ∧ q < a + 579 + 12 := h; show a ≤ q; omega) (fun r2 H locs hq hz hkp hS => ?_)
  replace hkp := fun (q : Nat) h1 (h2 : ¬ (a + 579 ≤ q ∧ q < a + 579 + 12)) => hkp q h1 h2
  have hD := hD.kept (fun q h1 h2 => hkp q h1 (by omega))
  have hOut := hOut.kept (hkp _ hOut.lt (by omega))
  obtain ⟨hr2, R1, hMd, eR⟩ := hq
  have hAns1 := hAns.ext eR
  refine lv_icmp_eq (tgt := 767) hx hb dL_law_595 (by decide) (fun hcmp => ?_) (fun hcmp => ?_)
  · clear hcmp
    refine W.widen (k := cs + 1) (n := sl + 6) (by show (_ : Nat) ≤ cs + 1; first | omega | (dsimp only; omega)) (by show (_ : Nat) ≤ sl + 6; first | omega | (dsimp only; omega)) ?_
    exact kk H _ ls ⟨_, _, _, _, _, _, _, _, _, _, _, _, _, _, _, _, _, _, hD, hMd, hAns1, hSl, hOut⟩ hS hl
  · exact absurd (hr1.trans ((hAns.ra _ _ _).trans hr2.symm)) hcmp
set_option maxHeartbeats 1000000 in
set_option maxRecDepth 100000 in
theorem lwC_13 (l : Launch) (g : WG) (pgm : Program) (env : Env) (s : State) (mid : MethodId) (below : List Frame) (meth : Method) (cde : Code) (b0 L : Nat) (xs : Nat → Int32) (hx : pgm.tables.exec = Jvm.exec) (hb : cde.code = cL_law) (hml : cde.maxLocals = 7) (hts : ∀ w ∈ wsL_law, w.before #[Value.ref b0] s = true) (hown : s.vm.findClass RL = some mid.cls) (hK : KK g s) (hX : va_X b0 L xs s s.heap) (hb0 : b0 < s.heap.size) (hL : L ≤ 2560) (a : Nat) (ha : a = s.heap.size) (H : Heap) (locs : List Loc) (cs sl i : Nat) (hi : i + 5 ≤ L) (hcs : cs ≤ 600000) (hsl : sl ≤ 7000000) (hJ : JT g H a) (hS : va_S (fun q => a ≤ q) s.heap H locs) (ls : Array Slot) (hl : lv_has ls 7 [(4, .int (nI i)), (3, .ref (a + 591)), (2, .ref (a + 579)), (1, .ref a), (0, .ref b0)]) (kk : ∀ (H1 : Heap) (locs1 : List Loc) (ls1 : Array Slot), JT g H1 a → va_S (fun q => a ≤ q) s.heap H1 locs1 → lv_has ls1 7 [(4, .int (nI i)), (3, .ref (a + 591)), (2, .ref (a + 579)), (1, .ref a), (0, .ref b0)] → W pgm l env room_1 s mid #[Value.ref b0] below meth cde H1 locs1 (cs + 1) (sl + 6) (lw_Z below #[Value.ref b0] s) (F0 mid 767 ls1 [])) : W pgm l env room_1 s mid #[Value.ref b0] below meth cde H locs cs sl (lw_Z below #[Value.ref b0] s) (F0 mid 600 ls []) := by
  obtain ⟨c0, vs0, ap0, bu0, c, vs, ap, bu, n, S, ow, tx, th, cn, Rw, ord, ch, f, hD, hMd, hAns, hSl, hOut⟩ := hJ
  have hbA : ¬ a ≤ b0 := by omega
  refine lv_aload_n hx hb dL_law_600 rfl (lv_at hl 3 rfl) ?_
  refine lv_aload_n hx hb dL_law_601 rfl (lv_at hl 4 rfl) ?_
  refine lv_iload hx hb dL_law_602 (lv_at hl 0 rfl) ?_
  refine lv_iconst (v := 1) hx hb dL_law_604 (by decide) ?_
  refine xr_ti (x' := nI 1) rfl ?_
  refine lv_iadd hx hb dL_law_605 ?_
  refine xr_ti (x' := nI (i + 1)) (nI_add _ _) ?_
  refine va_sld hx hb hX hb0 hbA hS (vp_in_nI (show i + 1 < L by omega) (by omega)) dL_law_606 ?_
  rw [nI_clamp (show i + 1 < 2 ^ 31 by omega)]
  refine lv_aload_n hx hb dL_law_607 rfl (lv_at hl 4 rfl) ?_
  refine lv_iload hx hb dL_law_608 (lv_at hl 0 rfl) ?_
  refine lv_iconst (v := 2) hx hb dL_law_610 (by decide) ?_
  refine xr_ti (x' := nI 2) rfl ?_
  refine lv_iadd hx hb dL_law_611 ?_
  refine xr_ti (x' := nI (i + 2)) (nI_add _ _) ?_
  refine va_sld hx hb hX hb0 hbA hS (vp_in_nI (show i + 2 < L by omega) (by omega)) dL_law_612 ?_
  rw [nI_clamp (show i + 2 < 2 ^ 31 by omega)]
  refine lv_aload_n hx hb dL_law_613 rfl (lv_at hl 4 rfl) ?_
  refine lv_iload hx hb dL_law_614 (lv_at hl 0 rfl) ?_
  refine lv_iconst (v := 3) hx hb dL_law_616 (by decide) ?_
  refine xr_ti (x' := nI 3) rfl ?_
  refine lv_iadd hx hb dL_law_617 ?_
  refine xr_ti (x' := nI (i + 3)) (nI_add _ _) ?_
  refine va_sld hx hb hX hb0 hbA hS (vp_in_nI (show i + 3 < L by omega) (by omega)) dL_law_618 ?_
  rw [nI_clamp (show i + 3 < 2 ^ 31 by omega)]
  refine xr_Vi (rest := []) ⟨hx, hb, hml, hown, hts⟩ (KK_ok g) hK (c_X6_missing l g H a c0 vs0 ap0 bu0 c vs ap bu n S ow tx hD hAns.1 (xs (i + 1)) (xs (i + 2)) (xs (i + 3))) (cwV 3 hts gL_law_X6_missing rfl rfl rfl (by decide +kernel) ⟨Nat.le_of_ble_eq_true rfl, Nat.le_of_ble_eq_true rfl⟩) (xr_rec hK (show obj g H a 6 _ from hD.choose_spec.choose_spec.choose_spec.choose_spec.choose_spec.choose_spec.choose_spec.2.1) rfl) rfl hl.1 rfl (Nat.le_of_ble_eq_true rfl) dL_law_619 ⟨(by show (_ : Nat) ≤ 601024; first | omega | (dsimp only; omega)), (by show (_ : Nat) ≤ 7293034; first | omega | (dsimp only; omega))⟩ hS (fun q h => by have h : a ≤ q ∧ q < a + 579 := h; show a ≤ q; omega) (fun r1 H locs hq hz hkp hS => ?_)
  replace hkp := fun (q : Nat) h1 (h2 : ¬ (a ≤ q ∧ q < a + 579)) => hkp q h1 h2
  have hMd := hMd.kept (fun q h1 h2 h3 => hkp q h1 (by omega))
  have hOut := hOut.kept (hkp _ hOut.lt (by omega))
  obtain ⟨hr1, hD⟩ := hq
  refine lv_aload_n hx hb dL_law_622 rfl (lv_at hl 2 rfl) ?_
  refine lv_aload_n hx hb dL_law_623 rfl (lv_at hl 4 rfl) ?_
  refine lv_iload hx hb dL_law_624 (lv_at hl 0 rfl) ?_
  refine lv_iconst (v := 1) hx hb dL_law_626 (by decide) ?_
  refine xr_ti (x' := nI 1) rfl ?_
  refine lv_iadd hx hb dL_law_627 ?_
  refine xr_ti (x' := nI (i + 1)) (nI_add _ _) ?_
  refine va_sld hx hb hX hb0 hbA hS (vp_in_nI (show i + 1 < L by omega) (by omega)) dL_law_628 ?_
  rw [nI_clamp (show i + 1 < 2 ^ 31 by omega)]
  refine lv_aload_n hx hb dL_law_629 rfl (lv_at hl 4 rfl) ?_
  refine lv_iload hx hb dL_law_630 (lv_at hl 0 rfl) ?_
  refine lv_iconst (v := 2) hx hb dL_law_632 (by decide) ?_
  refine xr_ti (x' := nI 2) rfl ?_
  refine lv_iadd hx hb dL_law_633 ?_
  refine xr_ti (x' := nI (i + 2)) (nI_add _ _) ?_
  refine va_sld hx hb hX hb0 hbA hS (vp_in_nI (show i + 2 < L by omega) (by omega)) dL_law_634 ?_
  rw [nI_clamp (show i + 2 < 2 ^ 31 by omega)]
  refine lv_aload_n hx hb dL_law_635 rfl (lv_at hl 4 rfl) ?_
  refine lv_iload hx hb dL_law_636 (lv_at hl 0 rfl) ?_
  refine lv_iconst (v := 3) hx hb dL_law_638 (by decide) ?_
  refine xr_ti (x' := nI 3) rfl ?_
  refine lv_iadd hx hb dL_law_639 ?_
  refine xr_ti (x' := nI (i + 3)) (nI_add _ _) ?_
  refine va_sld hx hb hX hb0 hbA hS (vp_in_nI (show i + 3 < L by omega) (by omega)) dL_law_640 ?_
  rw [nI_clamp (show i + 3 < 2 ^ 31 by omega)]
  refine xr_Vi (rest := [.int r1]) ⟨hx, hb, hml, hown, hts⟩ (KK_ok g) hK (c_X7_missing l g H (a + 579) th c0 vs0 ap0 bu0 c vs ap bu cn n Rw ord ch hMd hAns.2.1 (xs (i + 1)) (xs (i + 2)) (xs (i + 3))) (cwV 3 hts gL_law_X7_missing rfl rfl rfl (by decide +kernel) ⟨Nat.le_of_ble_eq_true rfl, Nat.le_of_ble_eq_true rfl⟩) (xr_rec hK (show obj g H (a + 579) 7 _ from hMd.choose_spec.choose_spec.choose_spec.choose_spec.1) rfl) rfl hl.1 rfl (Nat.le_of_ble_eq_true rfl) dL_law_641 ⟨(by show (_ : Nat) ≤ 601024; first | omega | (dsimp only; omega)), (by show (_ : Nat) ≤ 7293034; first | omega | (dsimp only; omega))⟩ hS (fun q h => by have h : a + 579 ≤ q ∧ q < a + 579 + 12 := h; show a ≤ q; omega) (fun r2 H locs hq hz hkp hS => ?_)
  replace hkp := fun (q : Nat) h1 (h2 : ¬ (a + 579 ≤ q ∧ q < a + 579 + 12)) => hkp q h1 h2
  have hD := hD.kept (fun q h1 h2 => hkp q h1 (by omega))
  have hOut := hOut.kept (hkp _ hOut.lt (by omega))
  obtain ⟨hr2, R1, hMd, eR⟩ := hq
  have hAns1 := hAns.ext eR
  refine lv_icmp_eq (tgt := 767) hx hb dL_law_644 (by decide) (fun hcmp => ?_) (fun hcmp => ?_)
  · clear hcmp
    refine W.widen (k := cs + 1) (n := sl + 6) (by show (_ : Nat) ≤ cs + 1; first | omega | (dsimp only; omega)) (by show (_ : Nat) ≤ sl + 6; first | omega | (dsimp only; omega)) ?_
    exact kk H _ ls ⟨_, _, _, _, _, _, _, _, _, _, _, _, _, _, _, _, _, _, hD, hMd, hAns1, hSl, hOut⟩ hS hl
  · exact absurd (hr1.trans ((hAns.mi _ _ _).trans hr2.symm)) hcmp
set_option maxHeartbeats 1000000 in
set_option maxRecDepth 100000 in
theorem lwC_14 (l : Launch) (g : WG) (pgm : Program) (env : Env) (s : State) (mid : MethodId) (below : List Frame) (meth : Method) (cde : Code) (b0 L : Nat) (xs : Nat → Int32) (hx : pgm.tables.exec = Jvm.exec) (hb : cde.code = cL_law) (hml : cde.maxLocals = 7) (hts : ∀ w ∈ wsL_law, w.before #[Value.ref b0] s = true) (hown : s.vm.findClass RL = some mid.cls) (hK : KK g s) (hX : va_X b0 L xs s s.heap) (hb0 : b0 < s.heap.size) (hL : L ≤ 2560) (a : Nat) (ha : a = s.heap.size) (H : Heap) (locs : List Loc) (cs sl i : Nat) (hi : i + 5 ≤ L) (hcs : cs ≤ 600000) (hsl : sl ≤ 7000000) (hJ : JT g H a) (hS : va_S (fun q => a ≤ q) s.heap H locs) (ls : Array Slot) (hl : lv_has ls 7 [(4, .int (nI i)), (3, .ref (a + 591)), (2, .ref (a + 579)), (1, .ref a), (0, .ref b0)]) (kk : ∀ (H1 : Heap) (locs1 : List Loc) (ls1 : Array Slot), JT g H1 a → va_S (fun q => a ≤ q) s.heap H1 locs1 → lv_has ls1 7 [(4, .int (nI i)), (3, .ref (a + 591)), (2, .ref (a + 579)), (1, .ref a), (0, .ref b0)] → W pgm l env room_1 s mid #[Value.ref b0] below meth cde H1 locs1 (cs + 1) (sl + 6) (lw_Z below #[Value.ref b0] s) (F0 mid 767 ls1 [])) : W pgm l env room_1 s mid #[Value.ref b0] below meth cde H locs cs sl (lw_Z below #[Value.ref b0] s) (F0 mid 649 ls []) := by
  obtain ⟨c0, vs0, ap0, bu0, c, vs, ap, bu, n, S, ow, tx, th, cn, Rw, ord, ch, f, hD, hMd, hAns, hSl, hOut⟩ := hJ
  have hbA : ¬ a ≤ b0 := by omega
  refine lv_aload_n hx hb dL_law_649 rfl (lv_at hl 3 rfl) ?_
  refine lv_aload_n hx hb dL_law_650 rfl (lv_at hl 4 rfl) ?_
  refine lv_iload hx hb dL_law_651 (lv_at hl 0 rfl) ?_
  refine lv_iconst (v := 1) hx hb dL_law_653 (by decide) ?_
  refine xr_ti (x' := nI 1) rfl ?_
  refine lv_iadd hx hb dL_law_654 ?_
  refine xr_ti (x' := nI (i + 1)) (nI_add _ _) ?_
  refine va_sld hx hb hX hb0 hbA hS (vp_in_nI (show i + 1 < L by omega) (by omega)) dL_law_655 ?_
  rw [nI_clamp (show i + 1 < 2 ^ 31 by omega)]
  refine xr_Vi (rest := []) ⟨hx, hb, hml, hown, hts⟩ (KK_ok g) hK (c_X6_served l g H a c0 vs0 ap0 bu0 c vs ap bu n S ow tx hD hAns.1 (xs (i + 1))) (cwV 1 hts gL_law_X6_served rfl rfl rfl (by decide +kernel) ⟨Nat.le_of_ble_eq_true rfl, Nat.le_of_ble_eq_true rfl⟩) (xr_rec hK (show obj g H a 6 _ from hD.choose_spec.choose_spec.choose_spec.choose_spec.choose_spec.choose_spec.choose_spec.2.1) rfl) rfl hl.1 rfl (Nat.le_of_ble_eq_true rfl) dL_law_656 ⟨(by show (_ : Nat) ≤ 601024; first | omega | (dsimp only; omega)), (by show (_ : Nat) ≤ 7293034; first | omega | (dsimp only; omega))⟩ hS (fun q h => h.elim) (fun r1 H locs hq hz hkp hS1 => ?_)
  obtain ⟨hr1, rfl⟩ := hq
  have hS := hS1
  refine lv_aload_n hx hb dL_law_659 rfl (lv_at hl 2 rfl) ?_
  refine lv_aload_n hx hb dL_law_660 rfl (lv_at hl 4 rfl) ?_
  refine lv_iload hx hb dL_law_661 (lv_at hl 0 rfl) ?_
  refine lv_iconst (v := 1) hx hb dL_law_663 (by decide) ?_
  refine xr_ti (x' := nI 1) rfl ?_
  refine lv_iadd hx hb dL_law_664 ?_
  refine xr_ti (x' := nI (i + 1)) (nI_add _ _) ?_
  refine va_sld hx hb hX hb0 hbA hS (vp_in_nI (show i + 1 < L by omega) (by omega)) dL_law_665 ?_
  rw [nI_clamp (show i + 1 < 2 ^ 31 by omega)]
  refine xr_Vi (rest := [.int r1]) ⟨hx, hb, hml, hown, hts⟩ (KK_ok g) hK (c_X7_served l g H (a + 579) th c0 vs0 ap0 bu0 c vs ap bu cn n Rw ord ch hMd hAns.2.1 (xs (i + 1))) (cwV 1 hts gL_law_X7_served rfl rfl rfl (by decide +kernel) ⟨Nat.le_of_ble_eq_true rfl, Nat.le_of_ble_eq_true rfl⟩) (xr_rec hK (show obj g H (a + 579) 7 _ from hMd.choose_spec.choose_spec.choose_spec.choose_spec.1) rfl) rfl hl.1 rfl (Nat.le_of_ble_eq_true rfl) dL_law_666 ⟨(by show (_ : Nat) ≤ 601024; first | omega | (dsimp only; omega)), (by show (_ : Nat) ≤ 7293034; first | omega | (dsimp only; omega))⟩ hS (fun q h => by have h : a + 579 ≤ q ∧ q < a + 579 + 12 := h; show a ≤ q; omega) (fun r2 H locs hq hz hkp hS => ?_)
  replace hkp := fun (q : Nat) h1 (h2 : ¬ (a + 579 ≤ q ∧ q < a + 579 + 12)) => hkp q h1 h2
  have hD := hD.kept (fun q h1 h2 => hkp q h1 (by omega))
  have hOut := hOut.kept (hkp _ hOut.lt (by omega))
  obtain ⟨hr2, hMd⟩ := hq
  refine lv_icmp_eq (tgt := 767) hx hb dL_law_669 (by decide) (fun hcmp => ?_) (fun hcmp => ?_)
  · clear hcmp
    refine W.widen (k := cs + 1) (n := sl + 6) (by show (_ : Nat) ≤ cs + 1; first | omega | (dsimp only; omega)) (by show (_ : Nat) ≤ sl + 6; first | omega | (dsimp only; omega)) ?_
    exact kk H _ ls ⟨_, _, _, _, _, _, _, _, _, _, _, _, _, _, _, _, _, _, hD, hMd, hAns, hSl, hOut⟩ hS hl
  · exact absurd (hr1.trans ((hAns.se (mod_ap hMd) _).trans hr2.symm)) hcmp
set_option maxHeartbeats 1000000 in
set_option maxRecDepth 100000 in
theorem lwC_16 (l : Launch) (g : WG) (pgm : Program) (env : Env) (s : State) (mid : MethodId) (below : List Frame) (meth : Method) (cde : Code) (b0 L : Nat) (xs : Nat → Int32) (hx : pgm.tables.exec = Jvm.exec) (hb : cde.code = cL_law) (hml : cde.maxLocals = 7) (hts : ∀ w ∈ wsL_law, w.before #[Value.ref b0] s = true) (hown : s.vm.findClass RL = some mid.cls) (hK : KK g s) (hX : va_X b0 L xs s s.heap) (hb0 : b0 < s.heap.size) (hL : L ≤ 2560) (a : Nat) (ha : a = s.heap.size) (H : Heap) (locs : List Loc) (cs sl i : Nat) (hi : i + 5 ≤ L) (hcs : cs ≤ 600000) (hsl : sl ≤ 7000000) (hJ : JT g H a) (hS : va_S (fun q => a ≤ q) s.heap H locs) (ls : Array Slot) (hl : lv_has ls 7 [(4, .int (nI i)), (3, .ref (a + 591)), (2, .ref (a + 579)), (1, .ref a), (0, .ref b0)]) (kk : ∀ (H1 : Heap) (locs1 : List Loc) (ls1 : Array Slot), JT g H1 a → va_S (fun q => a ≤ q) s.heap H1 locs1 → lv_has ls1 7 [(4, .int (nI i)), (3, .ref (a + 591)), (2, .ref (a + 579)), (1, .ref a), (0, .ref b0)] → W pgm l env room_1 s mid #[Value.ref b0] below meth cde H1 locs1 (cs + 1) (sl + 6) (lw_Z below #[Value.ref b0] s) (F0 mid 767 ls1 [])) : W pgm l env room_1 s mid #[Value.ref b0] below meth cde H locs cs sl (lw_Z below #[Value.ref b0] s) (F0 mid 730 ls []) := by
  obtain ⟨c0, vs0, ap0, bu0, c, vs, ap, bu, n, S, ow, tx, th, cn, Rw, ord, ch, f, hD, hMd, hAns, hSl, hOut⟩ := hJ
  have hbA : ¬ a ≤ b0 := by omega
  refine lv_aload_n hx hb dL_law_730 rfl (lv_at hl 3 rfl) ?_
  refine lv_aload_n hx hb dL_law_731 rfl (lv_at hl 4 rfl) ?_
  refine lv_iload hx hb dL_law_732 (lv_at hl 0 rfl) ?_
  refine lv_iconst (v := 1) hx hb dL_law_734 (by decide) ?_
  refine xr_ti (x' := nI 1) rfl ?_
  refine lv_iadd hx hb dL_law_735 ?_
  refine xr_ti (x' := nI (i + 1)) (nI_add _ _) ?_
  refine va_sld hx hb hX hb0 hbA hS (vp_in_nI (show i + 1 < L by omega) (by omega)) dL_law_736 ?_
  rw [nI_clamp (show i + 1 < 2 ^ 31 by omega)]
  refine lv_aload_n hx hb dL_law_737 rfl (lv_at hl 4 rfl) ?_
  refine lv_iload hx hb dL_law_738 (lv_at hl 0 rfl) ?_
  refine lv_iconst (v := 2) hx hb dL_law_740 (by decide) ?_
  refine xr_ti (x' := nI 2) rfl ?_
  refine lv_iadd hx hb dL_law_741 ?_
  refine xr_ti (x' := nI (i + 2)) (nI_add _ _) ?_
  refine va_sld hx hb hX hb0 hbA hS (vp_in_nI (show i + 2 < L by omega) (by omega)) dL_law_742 ?_
  rw [nI_clamp (show i + 2 < 2 ^ 31 by omega)]
  refine xr_Vi (rest := []) ⟨hx, hb, hml, hown, hts⟩ (KK_ok g) hK (c_X6_receipt l g H a c0 vs0 ap0 bu0 c vs ap bu n S ow tx hD hAns.1 hSl (xs (i + 1)) (xs (i + 2))) (cwV 2 hts gL_law_X6_receipt rfl rfl rfl (by decide +kernel) ⟨Nat.le_of_ble_eq_true rfl, Nat.le_of_ble_eq_true rfl⟩) (xr_rec hK (show obj g H a 6 _ from hD.choose_spec.choose_spec.choose_spec.choose_spec.choose_spec.choose_spec.choose_spec.2.1) rfl) rfl hl.1 rfl (Nat.le_of_ble_eq_true rfl) dL_law_743 ⟨(by show (_ : Nat) ≤ 601024; first | omega | (dsimp only; omega)), (by show (_ : Nat) ≤ 7293034; first | omega | (dsimp only; omega))⟩ hS (fun q h => by have h : a ≤ q ∧ q < a + 579 := h; show a ≤ q; omega) (fun r1 H locs hq hz hkp hS => ?_)
  replace hkp := fun (q : Nat) h1 (h2 : ¬ (a ≤ q ∧ q < a + 579)) => hkp q h1 h2
  have hMd := hMd.kept (fun q h1 h2 h3 => hkp q h1 (by omega))
  have hOut := hOut.kept (hkp _ hOut.lt (by omega))
  obtain ⟨hr1, ow1, tx1, hSl, hD⟩ := hq
  refine lv_aload_n hx hb dL_law_746 rfl (lv_at hl 2 rfl) ?_
  refine lv_aload_n hx hb dL_law_747 rfl (lv_at hl 4 rfl) ?_
  refine lv_iload hx hb dL_law_748 (lv_at hl 0 rfl) ?_
  refine lv_iconst (v := 1) hx hb dL_law_750 (by decide) ?_
  refine xr_ti (x' := nI 1) rfl ?_
  refine lv_iadd hx hb dL_law_751 ?_
  refine xr_ti (x' := nI (i + 1)) (nI_add _ _) ?_
  refine va_sld hx hb hX hb0 hbA hS (vp_in_nI (show i + 1 < L by omega) (by omega)) dL_law_752 ?_
  rw [nI_clamp (show i + 1 < 2 ^ 31 by omega)]
  refine lv_aload_n hx hb dL_law_753 rfl (lv_at hl 4 rfl) ?_
  refine lv_iload hx hb dL_law_754 (lv_at hl 0 rfl) ?_
  refine lv_iconst (v := 2) hx hb dL_law_756 (by decide) ?_
  refine xr_ti (x' := nI 2) rfl ?_
  refine lv_iadd hx hb dL_law_757 ?_
  refine xr_ti (x' := nI (i + 2)) (nI_add _ _) ?_
  refine va_sld hx hb hX hb0 hbA hS (vp_in_nI (show i + 2 < L by omega) (by omega)) dL_law_758 ?_
  rw [nI_clamp (show i + 2 < 2 ^ 31 by omega)]
  refine xr_Vi (rest := [.int r1]) ⟨hx, hb, hml, hown, hts⟩ (KK_ok g) hK (c_X7_receipt l g H (a + 579) th c0 vs0 ap0 bu0 c vs ap bu cn n Rw ord ch hMd hAns.2.1 (xs (i + 1)) (xs (i + 2))) (cwV 2 hts gL_law_X7_receipt rfl rfl rfl (by decide +kernel) ⟨Nat.le_of_ble_eq_true rfl, Nat.le_of_ble_eq_true rfl⟩) (xr_rec hK (show obj g H (a + 579) 7 _ from hMd.choose_spec.choose_spec.choose_spec.choose_spec.1) rfl) rfl hl.1 rfl (Nat.le_of_ble_eq_true rfl) dL_law_759 ⟨(by show (_ : Nat) ≤ 601024; first | omega | (dsimp only; omega)), (by show (_ : Nat) ≤ 7293034; first | omega | (dsimp only; omega))⟩ hS (fun q h => by have h : a + 579 ≤ q ∧ q < a + 579 + 12 := h; show a ≤ q; omega) (fun r2 H locs hq hz hkp hS => ?_)
  replace hkp := fun (q : Nat) h1 (h2 : ¬ (a + 579 ≤ q ∧ q < a + 579 + 12)) => hkp q h1 h2
  have hD := hD.kept (fun q h1 h2 => hkp q h1 (by omega))
  have hOut := hOut.kept (hkp _ hOut.lt (by omega))
  obtain ⟨hr2, R1, hMd, eR⟩ := hq
  have hAns1 := hAns.ext eR
  refine lv_icmp_eq (tgt := 767) hx hb dL_law_762 (by decide) (fun hcmp => ?_) (fun hcmp => ?_)
  · clear hcmp
    refine W.widen (k := cs + 1) (n := sl + 6) (by show (_ : Nat) ≤ cs + 1; first | omega | (dsimp only; omega)) (by show (_ : Nat) ≤ sl + 6; first | omega | (dsimp only; omega)) ?_
    exact kk H _ ls ⟨_, _, _, _, _, _, _, _, _, _, _, _, _, _, _, _, _, _, hD, hMd, hAns1, hSl, hOut⟩ hS hl
  · exact absurd (hr1.trans ((hAns.re _ _).trans hr2.symm)) hcmp
