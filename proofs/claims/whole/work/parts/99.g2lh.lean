set_option maxHeartbeats 1000000 in
set_option maxRecDepth 100000 in
theorem c_L_raise (l : Launch) (g : WG) (H0 : Heap) (sa sb : Nat) (hl9 : l.stackTraces = false) (a : Nat) (c0 : Nat → Nat) (vs0 : Nat) (ap0 : Nat → Nat) (bu0 : Nat) (c : Nat → Nat) (vs : Nat) (ap : Nat → Nat) (bu : Nat) (n : Nat) (S : PSt) (ow : Int32) (tx : List Nat) (hD : DeskAt g H0 a c0 vs0 ap0 bu0 c vs ap bu n S ow tx) (o : Nat) (f : Nat → Int64) (hOut : xr_la H0 o (gL g) 1 f) (ho : a + 579 ≤ o) (st mo : Int32) : Ctr l (KKX g (fun q => a ≤ q ∧ q < a + 579) H0 sa sb) yL_raise wsL_raise { frames := 7, cells := 1, slots := 6, locals := 173 } [.ref a, .int st, .int mo, .ref o] H0 eI (fun r H => (r = 1 ∧ (rg st 100000 && inR mo 101) = false ∧ ∀ q, q < H0.size → H[q]? = H0[q]?) ∨ (r = 0 ∧ ∃ r9 : Int32, xr_la H o (gL g) 1 (fun _ => r9.toInt64) ∧ RaQ g H a c0 vs0 ap0 bu0 st mo r9)) (fun q => (a ≤ q ∧ q < a + 579) ∨ q = o) := by
  refine xr_enterW (cc := cL_raise) (maxL := 5) (ret := some .int) (hh := [(0, 10, 13, 13)]) (by decide) rfl (Nat.le_of_ble_eq_true rfl) ?_
  intro pgm env s mid below meth cde hx hb hr hml hts hown hlocks hnm hH hK9 htab ls hl
  subst hH
  have hK := hK9.1
  have hl : lv_has ls 5 [(0, .ref a), (1, .int st), (2, .int mo), (3, .ref o)] := hl
  have hS : va_S (fun q => (a ≤ q ∧ q < a + 579) ∨ q = o) s.heap s.heap [] := va_S.rf
  have hfO : a < s.heap.size := hD.choose_spec.choose_spec.choose_spec.choose_spec.choose_spec.choose_spec.choose_spec.2.1.lt
  refine lv_aload_n hx hb dL_raise_0 rfl (lv_at hl 3 rfl) ?_
  refine lv_iconst (v := 0) hx hb dL_raise_1 (by decide) ?_
  refine lv_aload_n hx hb dL_raise_2 rfl (lv_at hl 0 rfl) ?_
  refine lv_iload_n hx hb dL_raise_3 rfl (lv_at hl 1 rfl) ?_
  refine lv_iload_n hx hb dL_raise_4 rfl (lv_at hl 2 rfl) ?_
  refine xr_VX (rest := [.int 0, .ref o]) ⟨hx, hb, hml, hown, hts⟩ (KKX_ok g _ _ sa sb) hK9 (c_X6_raise l g s.heap sa sb hl9 a c0 vs0 ap0 bu0 c vs ap bu n S ow tx hD st mo) (cwV 2 hts gL_raise_X6_raise rfl rfl rfl (by decide +kernel) ⟨Nat.le_of_ble_eq_true rfl, Nat.le_of_ble_eq_true rfl⟩) (xr_rec hK (show obj g s.heap a 6 _ from hD.choose_spec.choose_spec.choose_spec.choose_spec.choose_spec.choose_spec.choose_spec.2.1) rfl) rfl hl.1 rfl (Nat.le_of_ble_eq_true rfl) dL_raise_5 ⟨Nat.le_of_ble_eq_true rfl, Nat.le_of_ble_eq_true rfl⟩ hS (fun q h => Or.inl h) (fun ce q9 H locs hTp hz hkp hS hce hcv hcl => ?_) (fun r9 H locs hq hz hkp hS => ?_)
  · refine mx_catch (own := RL) (name := kx_E) (E := kx_E) (x := { startPc := 0, endPc := 10, handlerPc := 13, catchType := 13 }) hown (htab.trans rfl) (by decide) (by decide) (hts (.classLink RL 13 kx_E) (by decide +kernel)) (va_Nw.use rfl hK9.2.2.2.1.2) hce hcv hcl ?_
    refine W.widen (k := 1) (n := 6) (Nat.le_of_ble_eq_true rfl) (Nat.le_of_ble_eq_true rfl) ?_
    refine lv_astore (lv' := [(4, .ref q9), (0, .ref a), (1, .int st), (2, .int mo), (3, .ref o)]) hx hb dL_raise_13 hl (by decide) rfl (fun ls hl => ?_)
    refine lv_iconst (v := 1) hx hb dL_raise_15 (by decide) ?_
    exact xr_iret hx hb hr hlocks hS (Or.inl ⟨rfl, hTp, hkp⟩) dL_raise_16
  · have hOut := hOut.kept (hkp o hOut.lt (by show ¬ (a ≤ o ∧ o < a + 579); omega))
    refine W.widen (k := 1) (n := 6) (Nat.le_of_ble_eq_true rfl) (Nat.le_of_ble_eq_true rfl) ?_
    refine lv_i2l (v := r9.toInt64) hx hb dL_raise_8 rfl ?_
    refine xr_last hx hb hK.1 hS (Or.inr rfl) hOut 4 rfl (by show ¬ (_ ∨ _); decide) dL_raise_9 (fun H1 locs1 hz1 hkp1 hOut hS => ?_)
    refine lv_goto (tgt := 17) hx hb dL_raise_10 (by decide) ?_
    refine lv_iconst (v := 0) hx hb dL_raise_17 (by decide) ?_
    have hOut : xr_la H1 o (gL g) 1 (fun _ => r9.toInt64) := hOut.to1
    exact xr_iret hx hb hr hlocks hS (Or.inr ⟨rfl, r9, hOut, RaQ.kept hq (fun q h1 h2 => hkp1 q (by omega))⟩) dL_raise_18
set_option maxHeartbeats 1000000 in
set_option maxRecDepth 100000 in
theorem c_L_passedOver (l : Launch) (g : WG) (H0 : Heap) (sa sb : Nat) (hl9 : l.stackTraces = false) (a : Nat) (c0 : Nat → Nat) (vs0 : Nat) (ap0 : Nat → Nat) (bu0 : Nat) (c : Nat → Nat) (vs : Nat) (ap : Nat → Nat) (bu : Nat) (n : Nat) (S : PSt) (ow : Int32) (tx : List Nat) (hD : DeskAt g H0 a c0 vs0 ap0 bu0 c vs ap bu n S ow tx) (hQ : PhQ c vs ap n S) (o : Nat) (f : Nat → Int64) (hOut : xr_la H0 o (gL g) 1 f) (ho : a + 579 ≤ o) (mm : Int32) : Ctr l (KKX g (fun _ => False) H0 sa sb) yL_passedOver wsL_passedOver { frames := 7, cells := 1, slots := 6, locals := 107 } [.ref a, .int mm, .ref o] H0 eI (fun r H => (r = 1 ∧ rg mm 4 = false ∧ ∀ q, q < H0.size → H[q]? = H0[q]?) ∨ (r = 0 ∧ ∃ r9 : Int32, xr_la H o (gL g) 1 (fun _ => r9.toInt64) ∧ (cnt vs 48 = 0 ∧ rg mm 4 = true ∧ r9 = 0 ∨ cnt vs 48 ≠ 0 ∧ ∃ m9, mm = nI m9 ∧ 1 ≤ m9 ∧ m9 ≤ 4 ∧ FstC (PoC c vs ap bu (qps S) m9) m9 r9) ∧ ∀ q, q < H0.size → q ≠ o → H[q]? = H0[q]?)) (fun q => (a ≤ q ∧ q < a + 579) ∨ q = o) := by
  refine xr_enterW (cc := cL_passedOver) (maxL := 4) (ret := some .int) (hh := [(0, 9, 12, 13)]) (by decide) rfl (Nat.le_of_ble_eq_true rfl) ?_
  intro pgm env s mid below meth cde hx hb hr hml hts hown hlocks hnm hH hK9 htab ls hl
  subst hH
  have hK := hK9.1
  have hl : lv_has ls 4 [(0, .ref a), (1, .int mm), (2, .ref o)] := hl
  have hS : va_S (fun q => (a ≤ q ∧ q < a + 579) ∨ q = o) s.heap s.heap [] := va_S.rf
  have hfO : a < s.heap.size := hD.choose_spec.choose_spec.choose_spec.choose_spec.choose_spec.choose_spec.choose_spec.2.1.lt
  refine lv_aload_n hx hb dL_passedOver_0 rfl (lv_at hl 2 rfl) ?_
  refine lv_iconst (v := 0) hx hb dL_passedOver_1 (by decide) ?_
  refine lv_aload_n hx hb dL_passedOver_2 rfl (lv_at hl 0 rfl) ?_
  refine lv_iload_n hx hb dL_passedOver_3 rfl (lv_at hl 1 rfl) ?_
  refine xr_VX (rest := [.int 0, .ref o]) ⟨hx, hb, hml, hown, hts⟩ (KKX_ok g _ _ sa sb) hK9 (c_X6_passedOver9 l g s.heap sa sb hl9 a c0 vs0 ap0 bu0 c vs ap bu n S ow tx hD hQ mm) (cwV 1 hts gL_passedOver_X6_passedOver rfl rfl rfl (by decide +kernel) ⟨Nat.le_of_ble_eq_true rfl, Nat.le_of_ble_eq_true rfl⟩) (xr_rec hK (show obj g s.heap a 6 _ from hD.choose_spec.choose_spec.choose_spec.choose_spec.choose_spec.choose_spec.choose_spec.2.1) rfl) rfl hl.1 rfl (Nat.le_of_ble_eq_true rfl) dL_passedOver_4 ⟨Nat.le_of_ble_eq_true rfl, Nat.le_of_ble_eq_true rfl⟩ hS (fun q h => h.elim) (fun ce q9 H locs hTp hz hkp hS hce hcv hcl => ?_) (fun r9 H locs hq hz hkp hS => ?_)
  · refine mx_catch (own := RL) (name := kx_E) (E := kx_E) (x := { startPc := 0, endPc := 9, handlerPc := 12, catchType := 13 }) hown (htab.trans rfl) (by decide) (by decide) (hts (.classLink RL 13 kx_E) (by decide +kernel)) (va_Nw.use rfl hK9.2.2.2.1.2) hce hcv hcl ?_
    refine W.widen (k := 1) (n := 6) (Nat.le_of_ble_eq_true rfl) (Nat.le_of_ble_eq_true rfl) ?_
    refine lv_astore_n (lv' := [(3, .ref q9), (0, .ref a), (1, .int mm), (2, .ref o)]) hx hb dL_passedOver_12 rfl hl (by decide) rfl (fun ls hl => ?_)
    refine lv_iconst (v := 1) hx hb dL_passedOver_13 (by decide) ?_
    exact xr_iret hx hb hr hlocks hS (Or.inl ⟨rfl, hTp, hkp⟩) dL_passedOver_14
  · have hOut := hOut.kept (hkp o hOut.lt (fun h => h))
    refine W.widen (k := 1) (n := 6) (Nat.le_of_ble_eq_true rfl) (Nat.le_of_ble_eq_true rfl) ?_
    refine lv_i2l (v := r9.toInt64) hx hb dL_passedOver_7 rfl ?_
    refine xr_last hx hb hK.1 hS (Or.inr rfl) hOut 4 rfl (by show ¬ (_ ∨ _); decide) dL_passedOver_8 (fun H1 locs1 hz1 hkp1 hOut hS => ?_)
    refine lv_goto (tgt := 15) hx hb dL_passedOver_9 (by decide) ?_
    refine lv_iconst (v := 0) hx hb dL_passedOver_15 (by decide) ?_
    have hOut : xr_la H1 o (gL g) 1 (fun _ => r9.toInt64) := hOut.to1
    exact xr_iret hx hb hr hlocks hS (Or.inr ⟨rfl, r9, hOut, hq.1, fun q h1 h2 => by rw [hkp1 q h2, hq.2]⟩) dL_passedOver_16
