set_option maxHeartbeats 400000 in
set_option maxRecDepth 100000 in
theorem c_X0_init (l : Launch) (g : WG) (H0 : Heap) (a : Nat) (hO : obj g H0 a 0 [.null]) (hsz : H0.size = a + 1) : Ctr l (KK g) yX0_init wsX0_init { frames := 1, cells := 1, slots := 4, locals := 12 } [.ref a] H0 eV (fun _ H => NatAt g H a 0 ∧ H.size = a + 2) (fun q => q = a ∨ a + 1 ≤ q) := by
  refine xr_enter (cc := cX0_init) (maxL := 1) (ret := none) (by decide) rfl (Nat.le_of_ble_eq_true rfl) ?_
  intro p e s m below meth c hx hb hr hml hts hown hlocks hnm hH hK ls hl
  subst hH
  have hl : lv_has ls 1 [(0, .ref a)] := hl
  have hS : va_S (fun q => q = a ∨ a + 1 ≤ q) s.heap s.heap [] := va_S.rf
  refine lv_aload_n hx hb dX0_init_0 rfl (lv_at hl 0 rfl) ?_
  refine W.objInit hx hb hown (hts (.methodLink RX0 3 objectInit) (by decide +kernel)) (hts (.instanceMethod objectInit) (by decide +kernel)) (hts _ (List.mem_cons_of_mem _ (List.mem_append_left _ (List.mem_of_getElem? (i := 2) rfl)))) rfl (by rw [hml]; exact hl.1) rfl dX0_init_1 (Nat.le_of_ble_eq_true rfl) (Nat.le_of_ble_eq_true rfl) ?_
  refine W.eq (g2 := F0 m 4 ls []) rfl ?_
  refine lv_aload_n hx hb dX0_init_4 rfl (lv_at hl 0 rfl) ?_
  refine lv_iconst (v := 4) hx hb dX0_init_5 (by decide) ?_
  refine xr_newa (atype := .int) (cA := gI g) (N := 4) hx hb (hts (.arrayClass .int) (by decide +kernel)) (hK.1.2 0 (gI g, .int) rfl).2 rfl hS (by decide) (by decide) (by decide) (Nat.le_of_ble_eq_true rfl) (Nat.le_of_ble_eq_true rfl) dX0_init_6 (fun H hz hkp hf hS => ?_)
  refine W.widen (k := 1) (n := 4) (Nat.le_of_ble_eq_true rfl) (Nat.le_of_ble_eq_true rfl) ?_
  rw [hsz] at hf hz hkp ⊢
  have hO := hO.kept (hkp a (by omega))
  refine xr_putF (ci := 0) (v := .ref (a + 1)) (ty := .array .int) (C := RX0) (T := TX0) (N := 1) hx hb hts (by decide +kernel) tyX0 tyX0_ok nmX0 hown hK.1 hO hS (Or.inl rfl) rfl 0 (by decide) (hts (.fieldLink RX0 9 "SharesDesk$Natural" "words" "[I") (by decide +kernel)) rfl hnm rfl (by decide +kernel) rfl rfl (Nat.le_of_ble_eq_true rfl) dX0_init_8 (fun H locs hz2 hkp hO hS => ?_)
  have hf := hf.kept (hkp (a + 1) (by omega))
  exact xr_vret hx hb hr hlocks hS ⟨⟨hO, hf.to (fun j _ => (wd_zero j).symm), Nat.two_pow_pos 128⟩, by omega⟩ dX0_init_11
