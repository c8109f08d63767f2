theorem nd1 {a X : Nat} (h : a < 256) : (a + 256 * X) / 256 = X := by omega
theorem nd2 {a b X : Nat} (h : a < 256) (h2 : b < 256) : (a + 256 * (b + 256 * X)) / 65536 = X := by omega
theorem nd4 {a b c d X : Nat} (h : a < 256) (h2 : b < 256) (h3 : c < 256) (h4 : d < 256) : (a + 256 * (b + 256 * (c + 256 * (d + 256 * X)))) / 4294967296 = X := by omega
theorem nad {a b X Y : Nat} : (a + 256 * X) + (b + 256 * Y) = (a + b) + 256 * (X + Y) := by omega
theorem nal {a b X : Nat} : (a + 256 * X) + b = (a + b) + 256 * X := by omega
theorem nfin {S T n : Nat} (h : S ≤ n) (hn : n < 128) : (S + 256 * T) % 2 ^ 32 % 2 ^ 7 = S := by omega
theorem nfi6 {S T : Nat} (h : S ≤ 32) : (S + 256 * T) % 2 ^ 32 % 2 ^ 6 = S := by omega
theorem pl_fin {h0 h1 h2 h3 h4 h5 h6 h7 y z u : Nat} (k0 : h0 ≤ 8) (k1 : h1 ≤ 8) (k2 : h2 ≤ 8) (k3 : h3 ≤ 8) (k4 : h4 ≤ 8) (k5 : h5 ≤ 8) (k6 : h6 ≤ 8) (k7 : h7 ≤ 8) (hy : y = h0 + 256 * (h1 + 256 * (h2 + 256 * (h3 + 256 * (h4 + 256 * (h5 + 256 * (h6 + 256 * (h7)))))))) (hz : z = y + y / 256) (hu : u = z + z / 65536) : (u + u / 4294967296) % 2 ^ 32 % 2 ^ 7 = h0 + h1 + h2 + h3 + h4 + h5 + h6 + h7 := by
  have a2 : z = (h0 + h1) + 256 * ((h1 + h2) + 256 * ((h2 + h3) + 256 * ((h3 + h4) + 256 * ((h4 + h5) + 256 * ((h5 + h6) + 256 * ((h6 + h7) + 256 * (h7))))))) := by rw [hz, hy, nd1 (by omega), nad, nad, nad, nad, nad, nad, nal]
  have a4 : u = ((h0 + h1) + (h2 + h3)) + 256 * (((h1 + h2) + (h3 + h4)) + 256 * (((h2 + h3) + (h4 + h5)) + 256 * (((h3 + h4) + (h5 + h6)) + 256 * (((h4 + h5) + (h6 + h7)) + 256 * (((h5 + h6) + h7) + 256 * ((h6 + h7) + 256 * (h7))))))) := by rw [hu, a2, nd2 (by omega) (by omega), nad, nad, nad, nad, nad, nal]
  rw [a4, nd4 (by omega) (by omega) (by omega) (by omega), nad, nad, nad, nal]
  rw [nfin (n := 64) (by omega) (by decide)]
  clear hy hz hu a2 a4
  omega
theorem pi_fin {h0 h1 h2 h3 y z : Nat} (k0 : h0 ≤ 8) (k1 : h1 ≤ 8) (k2 : h2 ≤ 8) (k3 : h3 ≤ 8) (hy : y = h0 + 256 * (h1 + 256 * (h2 + 256 * (h3)))) (hz : z = y + y / 256) : (z + z / 65536) % 2 ^ 32 % 2 ^ 6 = h0 + h1 + h2 + h3 := by
  have a2 : z = (h0 + h1) + 256 * ((h1 + h2) + 256 * ((h2 + h3) + 256 * (h3))) := by rw [hz, hy, nd1 (by omega), nad, nad, nal]
  rw [a2, nd2 (by omega) (by omega), nad, nal]
  rw [nfi6 (by omega)]
  clear hy hz a2
  omega
theorem nI_tn (n : Nat) : (nI n).toBitVec.toNat = n % 2 ^ 32 := by
  show (BitVec.ofNat 32 n).toNat = _
  rw [BitVec.toNat_ofNat]
theorem nx_and2 (a b : Nat) : nI a &&& nI b = nI (a &&& b) := by
  apply Int32.toBitVec_inj.mp
  apply BitVec.eq_of_toNat_eq
  rw [Int32.toBitVec_and, BitVec.toNat_and, nI_tn, nI_tn, nI_tn, Nat.and_mod_two_pow]
theorem cnt_hi {x n : Nat} (h : x < 2 ^ n) : ∀ k, cnt x (n + k) = cnt x n
  | 0 => rfl
  | k + 1 => by
    show cnt x (n + k) + x / 2 ^ (n + k) % 2 = _
    rw [cnt_hi h k, Nat.div_eq_of_lt (Nat.lt_of_lt_of_le h (Nat.pow_le_pow_right (by decide) (by omega))), Nat.zero_mod, Nat.add_zero]
set_option maxHeartbeats 400000 in
set_option maxRecDepth 100000 in
theorem c_J13_bitCount_95d88 (l : Launch) (g : WG) (H0 : Heap) (x : Nat) (hx64 : x < 2 ^ 64) : Ctr l (KK g) yJ13_bitCount_95d88 wsJ13_bitCount_95d88 { frames := 0, cells := 0, slots := 0, locals := 0 } [.long (lN x)] H0 eI (fun r H => r = nI (cnt x 64) ∧ H = H0) (fun _ => False) := by
  refine xr_enter (cc := cJ13_bitCount_95d88) (maxL := 2) (ret := (some .int)) (by decide) rfl (Nat.le_of_ble_eq_true rfl) ?_
  intro pgm env s mid below meth cde hx hb hr hml hts hown hlocks hnm hH hK ls hl
  subst hH
  have hl : lv_has ls 2 [(0, .long (lN x))] := hl
  have hS : va_S (fun _ => False) s.heap s.heap [] := va_S.rf
  obtain ⟨e0, e1, e2, e3, h0, h1, h2, h3, h4, h5, h6, h7, k0, k1, k2, k3, k4, k5, k6, k7, ec, eu⟩ := pl_all hx64
  refine lv_lload_n hx hb dJ13_bitCount_95d88_0 rfl (lv_at hl 0 rfl) ?_
  refine lv_lload_n hx hb dJ13_bitCount_95d88_1 rfl (lv_at hl 0 rfl) ?_
  refine lv_iconst (v := 1) hx hb dJ13_bitCount_95d88_2 (by decide) ?_
  refine lv_lushr (v := lN (x / 2)) hx hb dJ13_bitCount_95d88_3 (l_sh (k := 1) (by decide) rfl (by omega)) ?_
  refine lv_ldc2 (v := (6148914691236517205)) hx hb hown (hts (.constantLong RJ13 314 (6148914691236517205)) (by decide +kernel)) dJ13_bitCount_95d88_4 ?_
  refine lv_land hx hb dJ13_bitCount_95d88_7 ?_
  refine xr_tl (x' := lN (x / 2 &&& 6148914691236517205)) (wb_and (Nat.lt_of_le_of_lt (Nat.div_le_self _ _) hx64) (by decide)) ?_
  refine lv_lsub hx hb dJ13_bitCount_95d88_8 ?_
  refine xr_tl (x' := lN (pl_s x)) (lN_sub e0) ?_
  refine lv_lstore_n (lv' := [(0, .long (lN (pl_s x)))]) hx hb dJ13_bitCount_95d88_9 rfl hl (by decide) rfl (fun ls hl => ?_)
  refine lv_lload_n hx hb dJ13_bitCount_95d88_10 rfl (lv_at hl 0 rfl) ?_
  refine lv_ldc2 (v := (3689348814741910323)) hx hb hown (hts (.constantLong RJ13 316 (3689348814741910323)) (by decide +kernel)) dJ13_bitCount_95d88_11 ?_
  refine lv_land hx hb dJ13_bitCount_95d88_14 ?_
  refine xr_tl (x' := lN (pl_s x &&& 3689348814741910323)) (wb_and e1 (by decide)) ?_
  refine lv_lload_n hx hb dJ13_bitCount_95d88_15 rfl (lv_at hl 0 rfl) ?_
  refine lv_iconst (v := 2) hx hb dJ13_bitCount_95d88_16 (by decide) ?_
  refine lv_lushr (v := lN ((pl_s x) / 4)) hx hb dJ13_bitCount_95d88_17 (l_sh (k := 2) (by decide) rfl (by omega)) ?_
  refine lv_ldc2 (v := (3689348814741910323)) hx hb hown (hts (.constantLong RJ13 316 (3689348814741910323)) (by decide +kernel)) dJ13_bitCount_95d88_18 ?_
  refine lv_land hx hb dJ13_bitCount_95d88_21 ?_
  refine xr_tl (x' := lN (pl_s x / 4 &&& 3689348814741910323)) (wb_and (Nat.lt_of_le_of_lt (Nat.div_le_self _ _) e1) (by decide)) ?_
  refine lv_ladd hx hb dJ13_bitCount_95d88_22 ?_
  refine xr_tl (x' := lN (pl_t (pl_s x))) (lN_add _ _) ?_
  refine lv_lstore_n (lv' := [(0, .long (lN (pl_t (pl_s x))))]) hx hb dJ13_bitCount_95d88_23 rfl hl (by decide) rfl (fun ls hl => ?_)
  refine lv_lload_n hx hb dJ13_bitCount_95d88_24 rfl (lv_at hl 0 rfl) ?_
  refine lv_lload_n hx hb dJ13_bitCount_95d88_25 rfl (lv_at hl 0 rfl) ?_
  refine lv_iconst (v := 4) hx hb dJ13_bitCount_95d88_26 (by decide) ?_
  refine lv_lushr (v := lN ((pl_t (pl_s x)) / 16)) hx hb dJ13_bitCount_95d88_27 (l_sh (k := 4) (by decide) rfl (by omega)) ?_
  refine lv_ladd hx hb dJ13_bitCount_95d88_28 ?_
  refine xr_tl (x' := lN (pl_t (pl_s x) + pl_t (pl_s x) / 16)) (lN_add _ _) ?_
  refine lv_ldc2 (v := (1085102592571150095)) hx hb hown (hts (.constantLong RJ13 318 (1085102592571150095)) (by decide +kernel)) dJ13_bitCount_95d88_29 ?_
  refine lv_land hx hb dJ13_bitCount_95d88_32 ?_
  refine xr_tl (x' := lN (pl_u (pl_t (pl_s x)))) (wb_and e3 (by decide)) ?_
  rw [eu]
  obtain ⟨y, hy⟩ : ∃ y, y = h0 + 256 * (h1 + 256 * (h2 + 256 * (h3 + 256 * (h4 + 256 * (h5 + 256 * (h6 + 256 * h7)))))) := ⟨_, rfl⟩
  rw [← hy]
  refine lv_lstore_n (lv' := [(0, .long (lN y))]) hx hb dJ13_bitCount_95d88_33 rfl hl (by decide) rfl (fun ls hl => ?_)
  refine lv_lload_n hx hb dJ13_bitCount_95d88_34 rfl (lv_at hl 0 rfl) ?_
  refine lv_lload_n hx hb dJ13_bitCount_95d88_35 rfl (lv_at hl 0 rfl) ?_
  refine lv_bipush (v := 8) hx hb dJ13_bitCount_95d88_36 (by decide) ?_
  refine lv_lushr (v := lN (y / 256)) hx hb dJ13_bitCount_95d88_38 (l_sh (k := 8) (by decide) rfl (by omega)) ?_
  refine lv_ladd hx hb dJ13_bitCount_95d88_39 ?_
  refine xr_tl (x' := lN (y + y / 256)) (lN_add _ _) ?_
  obtain ⟨z, hz⟩ : ∃ z, z = y + y / 256 := ⟨_, rfl⟩
  rw [← hz]
  refine lv_lstore_n (lv' := [(0, .long (lN z))]) hx hb dJ13_bitCount_95d88_40 rfl hl (by decide) rfl (fun ls hl => ?_)
  refine lv_lload_n hx hb dJ13_bitCount_95d88_41 rfl (lv_at hl 0 rfl) ?_
  refine lv_lload_n hx hb dJ13_bitCount_95d88_42 rfl (lv_at hl 0 rfl) ?_
  refine lv_bipush (v := 16) hx hb dJ13_bitCount_95d88_43 (by decide) ?_
  refine lv_lushr (v := lN (z / 65536)) hx hb dJ13_bitCount_95d88_45 (l_sh (k := 16) (by decide) rfl (by omega)) ?_
  refine lv_ladd hx hb dJ13_bitCount_95d88_46 ?_
  refine xr_tl (x' := lN (z + z / 65536)) (lN_add _ _) ?_
  obtain ⟨u, hu⟩ : ∃ u, u = z + z / 65536 := ⟨_, rfl⟩
  rw [← hu]
  refine lv_lstore_n (lv' := [(0, .long (lN u))]) hx hb dJ13_bitCount_95d88_47 rfl hl (by decide) rfl (fun ls hl => ?_)
  refine lv_lload_n hx hb dJ13_bitCount_95d88_48 rfl (lv_at hl 0 rfl) ?_
  refine lv_lload_n hx hb dJ13_bitCount_95d88_49 rfl (lv_at hl 0 rfl) ?_
  refine lv_bipush (v := 32) hx hb dJ13_bitCount_95d88_50 (by decide) ?_
  refine lv_lushr (v := lN (u / 4294967296)) hx hb dJ13_bitCount_95d88_52 (l_sh (k := 32) (by decide) rfl (by omega)) ?_
  refine lv_ladd hx hb dJ13_bitCount_95d88_53 ?_
  refine xr_tl (x' := lN (u + u / 4294967296)) (lN_add _ _) ?_
  refine lv_lstore_n (lv' := [(0, .long (lN (u + u / 4294967296)))]) hx hb dJ13_bitCount_95d88_54 rfl hl (by decide) rfl (fun ls hl => ?_)
  refine lv_lload_n hx hb dJ13_bitCount_95d88_55 rfl (lv_at hl 0 rfl) ?_
  refine lv_l2i (v := nI (u + u / 4294967296)) hx hb dJ13_bitCount_95d88_56 (lN_i _) ?_
  refine lv_bipush (v := 127) hx hb dJ13_bitCount_95d88_57 (by decide) ?_
  refine lv_iand hx hb dJ13_bitCount_95d88_59 ?_
  refine xr_ti (x' := nI (cnt x 64)) (by rw [pk_and _ 7 (by decide), ec, nI_tn, pl_fin k0 k1 k2 k3 k4 k5 k6 k7 hy hz hu]) ?_
  exact xr_iret hx hb hr hlocks hS ⟨rfl, rfl⟩ dJ13_bitCount_95d88_60
set_option maxHeartbeats 400000 in
set_option maxRecDepth 100000 in
theorem c_J6_bitCount_0f7a4 (l : Launch) (g : WG) (H0 : Heap) (x : Nat) (hx32 : x < 2 ^ 31) : Ctr l (KK g) yJ6_bitCount_0f7a4 wsJ6_bitCount_0f7a4 { frames := 0, cells := 0, slots := 0, locals := 0 } [.int (nI x)] H0 eI (fun r H => r = nI (cnt x 32) ∧ H = H0) (fun _ => False) := by
  refine xr_enter (cc := cJ6_bitCount_0f7a4) (maxL := 1) (ret := (some .int)) (by decide) rfl (Nat.le_of_ble_eq_true rfl) ?_
  intro pgm env s mid below meth cde hx hb hr hml hts hown hlocks hnm hH hK ls hl
  subst hH
  have hl : lv_has ls 1 [(0, .int (nI x))] := hl
  have hS : va_S (fun _ => False) s.heap s.heap [] := va_S.rf
  obtain ⟨e0, e1, e2, e3, h0, h1, h2, h3, k0, k1, k2, k3, ec, eu⟩ := pi_all (show x < 2 ^ 32 by omega)
  refine lv_iload_n hx hb dJ6_bitCount_0f7a4_0 rfl (lv_at hl 0 rfl) ?_
  refine lv_iload_n hx hb dJ6_bitCount_0f7a4_1 rfl (lv_at hl 0 rfl) ?_
  refine lv_iconst (v := 1) hx hb dJ6_bitCount_0f7a4_2 (by decide) ?_
  refine lv_iushr (v := nI (x / 2)) hx hb dJ6_bitCount_0f7a4_3 (pk_ushrN (by omega) _ 1 (by decide)) ?_
  refine lv_ldcw (v := (1431655765)) hx hb hown (hts (.constant RJ6 265 (1431655765)) (by decide +kernel)) dJ6_bitCount_0f7a4_4 ?_
  refine lv_iand hx hb dJ6_bitCount_0f7a4_7 ?_
  refine xr_ti (x' := nI (x / 2 &&& 1431655765)) (nx_and2 _ _) ?_
  refine lv_isub hx hb dJ6_bitCount_0f7a4_8 ?_
  refine xr_ti (x' := nI (pi_s x)) (pk_sub e0) ?_
  refine lv_istore_n (lv' := [(0, .int (nI (pi_s x)))]) hx hb dJ6_bitCount_0f7a4_9 rfl hl (by decide) rfl (fun ls hl => ?_)
  refine lv_iload_n hx hb dJ6_bitCount_0f7a4_10 rfl (lv_at hl 0 rfl) ?_
  refine lv_ldcw (v := (858993459)) hx hb hown (hts (.constant RJ6 266 (858993459)) (by decide +kernel)) dJ6_bitCount_0f7a4_11 ?_
  refine lv_iand hx hb dJ6_bitCount_0f7a4_14 ?_
  refine xr_ti (x' := nI (pi_s x &&& 858993459)) (nx_and2 _ _) ?_
  refine lv_iload_n hx hb dJ6_bitCount_0f7a4_15 rfl (lv_at hl 0 rfl) ?_
  refine lv_iconst (v := 2) hx hb dJ6_bitCount_0f7a4_16 (by decide) ?_
  refine lv_iushr (v := nI ((pi_s x) / 4)) hx hb dJ6_bitCount_0f7a4_17 (pk_ushrN (by omega) _ 2 (by decide)) ?_
  refine lv_ldcw (v := (858993459)) hx hb hown (hts (.constant RJ6 266 (858993459)) (by decide +kernel)) dJ6_bitCount_0f7a4_18 ?_
  refine lv_iand hx hb dJ6_bitCount_0f7a4_21 ?_
  refine xr_ti (x' := nI (pi_s x / 4 &&& 858993459)) (nx_and2 _ _) ?_
  refine lv_iadd hx hb dJ6_bitCount_0f7a4_22 ?_
  refine xr_ti (x' := nI (pi_t (pi_s x))) (nI_add _ _) ?_
  refine lv_istore_n (lv' := [(0, .int (nI (pi_t (pi_s x))))]) hx hb dJ6_bitCount_0f7a4_23 rfl hl (by decide) rfl (fun ls hl => ?_)
  refine lv_iload_n hx hb dJ6_bitCount_0f7a4_24 rfl (lv_at hl 0 rfl) ?_
  refine lv_iload_n hx hb dJ6_bitCount_0f7a4_25 rfl (lv_at hl 0 rfl) ?_
  refine lv_iconst (v := 4) hx hb dJ6_bitCount_0f7a4_26 (by decide) ?_
  refine lv_iushr (v := nI ((pi_t (pi_s x)) / 16)) hx hb dJ6_bitCount_0f7a4_27 (pk_ushrN (by omega) _ 4 (by decide)) ?_
  refine lv_iadd hx hb dJ6_bitCount_0f7a4_28 ?_
  refine xr_ti (x' := nI (pi_t (pi_s x) + pi_t (pi_s x) / 16)) (nI_add _ _) ?_
  refine lv_ldcw (v := (252645135)) hx hb hown (hts (.constant RJ6 267 (252645135)) (by decide +kernel)) dJ6_bitCount_0f7a4_29 ?_
  refine lv_iand hx hb dJ6_bitCount_0f7a4_32 ?_
  refine xr_ti (x' := nI (pi_u (pi_t (pi_s x)))) (nx_and2 _ _) ?_
  rw [eu]
  obtain ⟨y, hy⟩ : ∃ y, y = h0 + 256 * (h1 + 256 * (h2 + 256 * h3)) := ⟨_, rfl⟩
  rw [← hy]
  refine lv_istore_n (lv' := [(0, .int (nI y))]) hx hb dJ6_bitCount_0f7a4_33 rfl hl (by decide) rfl (fun ls hl => ?_)
  refine lv_iload_n hx hb dJ6_bitCount_0f7a4_34 rfl (lv_at hl 0 rfl) ?_
  refine lv_iload_n hx hb dJ6_bitCount_0f7a4_35 rfl (lv_at hl 0 rfl) ?_
  refine lv_bipush (v := 8) hx hb dJ6_bitCount_0f7a4_36 (by decide) ?_
  refine lv_iushr (v := nI (y / 256)) hx hb dJ6_bitCount_0f7a4_38 (pk_ushrN (by omega) _ 8 (by decide)) ?_
  refine lv_iadd hx hb dJ6_bitCount_0f7a4_39 ?_
  refine xr_ti (x' := nI (y + y / 256)) (nI_add _ _) ?_
  obtain ⟨z, hz⟩ : ∃ z, z = y + y / 256 := ⟨_, rfl⟩
  rw [← hz]
  refine lv_istore_n (lv' := [(0, .int (nI z))]) hx hb dJ6_bitCount_0f7a4_40 rfl hl (by decide) rfl (fun ls hl => ?_)
  refine lv_iload_n hx hb dJ6_bitCount_0f7a4_41 rfl (lv_at hl 0 rfl) ?_
  refine lv_iload_n hx hb dJ6_bitCount_0f7a4_42 rfl (lv_at hl 0 rfl) ?_
  refine lv_bipush (v := 16) hx hb dJ6_bitCount_0f7a4_43 (by decide) ?_
  refine lv_iushr (v := nI (z / 65536)) hx hb dJ6_bitCount_0f7a4_45 (pk_ushrN (by omega) _ 16 (by decide)) ?_
  refine lv_iadd hx hb dJ6_bitCount_0f7a4_46 ?_
  refine xr_ti (x' := nI (z + z / 65536)) (nI_add _ _) ?_
  refine lv_istore_n (lv' := [(0, .int (nI (z + z / 65536)))]) hx hb dJ6_bitCount_0f7a4_47 rfl hl (by decide) rfl (fun ls hl => ?_)
  refine lv_iload_n hx hb dJ6_bitCount_0f7a4_48 rfl (lv_at hl 0 rfl) ?_
  refine lv_bipush (v := 63) hx hb dJ6_bitCount_0f7a4_49 (by decide) ?_
  refine lv_iand hx hb dJ6_bitCount_0f7a4_51 ?_
  refine xr_ti (x' := nI (cnt x 32)) (by rw [pk_and _ 6 (by decide), ec, nI_tn, pi_fin k0 k1 k2 k3 hy hz]) ?_
  exact xr_iret hx hb hr hlocks hS ⟨rfl, rfl⟩ dJ6_bitCount_0f7a4_52
set_option maxHeartbeats 400000 in
set_option maxRecDepth 100000 in
theorem c_X5_countVoters (l : Launch) (g : WG) (H0 : Heap) (a : Nat) (c : Nat → Nat) (vs : Nat) (ap : Nat → Nat) (bu : Nat) (hT : TownAt g H0 a c vs ap bu) : Ctr l (KK g) yX5_countVoters wsX5_countVoters { frames := 1, cells := 0, slots := 0, locals := 21 } [.ref a] H0 eI (fun r H => r = nI (cnt vs 48) ∧ H = H0) (fun _ => False) := by
  refine xr_enter (cc := cX5_countVoters) (maxL := 1) (ret := (some .int)) (by decide) rfl (Nat.le_of_ble_eq_true rfl) ?_
  intro pgm env s mid below meth cde hx hb hr hml hts hown hlocks hnm hH hK ls hl
  subst hH
  have hl : lv_has ls 1 [(0, .ref a)] := hl
  have hS : va_S (fun _ => False) s.heap s.heap [] := va_S.rf
  obtain ⟨hO, hcs, ha, hcb, hvb, hab, hbb⟩ := id hT
  refine lv_aload_n hx hb dX5_countVoters_0 rfl (lv_at hl 0 rfl) ?_
  refine va_get (D := g.1) (ci := 5) (v := .long (lN vs)) (C := RX5) (T := TX5) (N := 4) hx hb hts (by decide +kernel) hown hK.1 (xr_one hO) 0 rfl rfl 1 (by decide) (hts (.fieldLink RX5 29 "SharesDesk$Town" "voters" "J") (by decide +kernel)) (fun _ h9 => h9) rfl dX5_countVoters_1 ?_
  refine xr_Si (rest := []) ⟨hx, hb, hml, hown, hts⟩ (KK_ok g) hK (c_J13_bitCount_95d88 l g s.heap vs (by omega)) (va_cwS 1 hts gX5_countVoters_J13_bitCount_95d88 rfl rfl rfl (by decide +kernel) ⟨Nat.le_of_ble_eq_true rfl, Nat.le_of_ble_eq_true rfl⟩) rfl hl.1 rfl (Nat.le_of_ble_eq_true rfl) dX5_countVoters_4 ⟨Nat.le_of_ble_eq_true rfl, Nat.le_of_ble_eq_true rfl⟩ hS (fun q h => h.elim) (fun r H locs hq hz hkp hS9 => ?_)
  obtain ⟨rfl, rfl⟩ := hq
  have hS := hS9
  refine xr_ti (x' := nI (cnt vs 48)) (by rw [cnt_hi hvb 16]) ?_
  exact xr_iret hx hb hr hlocks hS ⟨rfl, rfl⟩ dX5_countVoters_7
