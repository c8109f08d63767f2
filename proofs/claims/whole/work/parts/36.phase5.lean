set_option maxHeartbeats 1000000 in
set_option maxRecDepth 100000 in
theorem c_X1_pay (l : Launch) (g : WG) (H0 : Heap) (t : Nat) (c : Nat → Nat) (vs : Nat) (ap : Nat → Nat) (bu : Nat) (f pc pk ps co op bs tr B : Nat) (pur las emp pay pik rat bas : Nat → Nat) (r k rt kt : Nat) (hO : obj g H0 f 1 (phF f t pc pk ps co op bs tr)) (hT : TownAt g H0 t c vs ap bu) (hBa : NatAt g H0 (f + 1) B) (hPu : PoolAt g H0 (f + 3) (f + 24) 48 pur) (hLa : PoolAt g H0 (f + 4) (f + 26) 48 las) (hEm : xr_ia H0 (f + 5) (gI g) 48 (fun z9 => nI (emp z9))) (hPy : xr_ia H0 (f + 6) (gI g) 48 (fun z9 => nI (pay z9))) (hPi : xr_ia H0 (f + 7) (gI g) 16 (fun z9 => nI (pik z9))) (hRa : PoolAt g H0 (f + 8) (f + 216) 16 rat) (hBb : PoolAt g H0 (f + 9) (f + 218) 16 bas) (hBs : ShareAt g H0 bs r k) (hTr : ShareAt g H0 tr rt kt) (hft : t + 3 ≤ f ∨ f + 280 ≤ t) (htb : (tr = f + 10 ∧ bs = f + 17 ∨ tr = f + 17 ∧ bs = f + 10)) (hpc : pc ≤ 48) (hpay : ∀ i, i < pc → pay i < 48) (hinj : ∀ i j, i < pc → j < pc → pay i = pay j → i = j) (hk : k ≤ 48) (hBk : B * k < 2 ^ 128) (hpb : ∀ i, i < pc → pur (pay i) * 48 < 2 ^ 128) (hop : op < 2 ^ 16) (p0 rd : Nat) (hp : p0 < 16) (hrd : rd < 16) (hob : op.testBit p0 = true) : Ctr l (KK g) yX1_pay wsX1_pay { frames := 3, cells := 0, slots := 0, locals := 83 } [.ref f, .int (nI p0), .int (nI rd)] H0 eV (fun _ H => obj g H f 1 (phF f t ((payC pur pay ap p0 k r pc).2) (rd + 1) (ps ||| 2 ^ p0) (co + c p0) (op - 2 ^ p0) bs tr) ∧ NatAt g H (f + 1) (B * k) ∧ PoolAt g H (f + 3) (f + 24) 48 (payP pur pay ap p0 k r pc) ∧ PoolAt g H (f + 4) (f + 26) 48 (payL pur las pay ap p0 k r pc) ∧ xr_ia H (f + 5) (gI g) 48 (fun z9 => nI ((payE pur emp pay ap p0 k r rd pc) z9)) ∧ xr_ia H (f + 6) (gI g) 48 (fun z9 => nI (((payC pur pay ap p0 k r pc).1) z9)) ∧ xr_ia H (f + 7) (gI g) 16 (fun z9 => nI ((va_up pik rd p0) z9)) ∧ PoolAt g H (f + 8) (f + 216) 16 (va_up rat rd r) ∧ PoolAt g H (f + 9) (f + 218) 16 (va_up bas rd (B * k)) ∧ ShareAt g H bs r k ∧ ShareAt g H tr rt kt) (fun q => f ≤ q ∧ q < f + 280) := by
  refine xr_enter (cc := cX1_pay) (maxL := 6) (ret := none) (by decide) rfl (Nat.le_of_ble_eq_true rfl) ?_
  intro pgm env s mid below meth cde hx hb hr hml hts hown hlocks hnm hH hK ls hl
  subst hH
  have hl : lv_has ls 6 [(0, .ref f), (1, .int (nI p0)), (2, .int (nI rd))] := hl
  have hS : va_S (fun q => f ≤ q ∧ q < f + 280) s.heap s.heap [] := va_S.rf
  have loop : ∀ (n i : Nat), i + n = pc → ∀ (H : Heap) (locs : List Loc), obj g H f 1 (phF f t pc pk ps co op bs tr) → TownAt g H t c vs ap bu → NatAt g H (f + 1) (B * k) → PoolAt g H (f + 3) (f + 24) 48 (payP pur pay ap p0 k r i) → PoolAt g H (f + 4) (f + 26) 48 (payL pur las pay ap p0 k r i) → xr_ia H (f + 5) (gI g) 48 (fun z9 => nI ((payE pur emp pay ap p0 k r rd i) z9)) → xr_ia H (f + 6) (gI g) 48 (fun z9 => nI (((payC pur pay ap p0 k r i).1) z9)) → xr_ia H (f + 7) (gI g) 16 (fun z9 => nI (pik z9)) → PoolAt g H (f + 8) (f + 216) 16 (va_up rat rd r) → PoolAt g H (f + 9) (f + 218) 16 (va_up bas rd (B * k)) → ShareAt g H bs r k → ShareAt g H tr rt kt → va_S (fun q => f ≤ q ∧ q < f + 280) s.heap H locs → ∀ ls : Array Slot, lv_has ls 6 [(4, .int (nI i)), (3, .int (nI (payC pur pay ap p0 k r i).2)), (0, .ref f), (1, .int (nI p0)), (2, .int (nI rd))] → W pgm l env { frames := 3, cells := 0, slots := 0, locals := 83 } s mid ([.ref f, .int (nI p0), .int (nI rd)] : List Value).toArray below meth cde H locs 0 0 (MQ below (xr_Post eV (fun _ H => obj g H f 1 (phF f t ((payC pur pay ap p0 k r pc).2) (rd + 1) (ps ||| 2 ^ p0) (co + c p0) (op - 2 ^ p0) bs tr) ∧ NatAt g H (f + 1) (B * k) ∧ PoolAt g H (f + 3) (f + 24) 48 (payP pur pay ap p0 k r pc) ∧ PoolAt g H (f + 4) (f + 26) 48 (payL pur las pay ap p0 k r pc) ∧ xr_ia H (f + 5) (gI g) 48 (fun z9 => nI ((payE pur emp pay ap p0 k r rd pc) z9)) ∧ xr_ia H (f + 6) (gI g) 48 (fun z9 => nI (((payC pur pay ap p0 k r pc).1) z9)) ∧ xr_ia H (f + 7) (gI g) 16 (fun z9 => nI ((va_up pik rd p0) z9)) ∧ PoolAt g H (f + 8) (f + 216) 16 (va_up rat rd r) ∧ PoolAt g H (f + 9) (f + 218) 16 (va_up bas rd (B * k)) ∧ ShareAt g H bs r k ∧ ShareAt g H tr rt kt) (fun q => f ≤ q ∧ q < f + 280)) ([.ref f, .int (nI p0), .int (nI rd)] : List Value).toArray s ({ frames := 3, cells := 0, slots := 0, locals := 83 } : Room).cells ({ frames := 3, cells := 0, slots := 0, locals := 83 } : Room).slots (fun q => f ≤ q ∧ q < f + 280)) (F0 mid 48 ls []) := by
    intro n
    induction n with
    | zero =>
      intro i h1 H locs hO hT hBa hPu hLa hEm hPy hPi hRa hBb hBs hTr hS ls hl
      refine lv_iload hx hb dX1_pay_48 (lv_at hl 0 rfl) ?_
      refine lv_aload_n hx hb dX1_pay_50 rfl (lv_at hl 2 rfl) ?_
      refine va_get (D := g.1) (ci := 1) (v := .int (nI pc)) (C := RX1) (T := TX1) (N := 16) hx hb hts (by decide +kernel) hown hK.1 (xr_one hO) 0 rfl rfl 6 (by decide) (hts (.fieldLink RX1 118 "SharesDesk$Phase" "payerCount" "I") (by decide +kernel)) (fun _ h9 => h9) rfl dX1_pay_51 ?_
      refine lv_icmp_ge (tgt := 133) hx hb dX1_pay_54 (by decide) (fun hc => ?_) (fun hc => ?_)
      · have e : i = pc := by omega
        subst e
        refine lv_aload_n hx hb dX1_pay_133 rfl (lv_at hl 2 rfl) ?_
        refine lv_iload_n hx hb dX1_pay_134 rfl (lv_at hl 1 rfl) ?_
        refine xr_put (ci := 1) (v := .int (nI (payC pur pay ap p0 k r i).2)) (ty := .int) (C := RX1) (T := TX1) (N := 16) hx hb hts (by decide +kernel) tyX1 tyX1_ok nmX1 hown hK.1 hO hS (show f ≤ f ∧ f < f + 280 by omega) rfl 6 (by decide) (hts (.fieldLink RX1 118 "SharesDesk$Phase" "payerCount" "I") (by decide +kernel)) rfl (by decide +kernel) rfl rfl (Nat.le_of_ble_eq_true rfl) dX1_pay_135 (fun H locs hz hkp hO hS => ?_)
        replace hT := hT.kept (fun q hq1 hq2 hq3 => hkp q (by omega))
        replace hBa := hBa.kept (hkp _ (by omega)) (hkp _ (by omega))
        replace hPu := hPu.kept (hkp _ (by omega)) (fun v hv => hkp _ (by omega)) (fun v hv => hkp _ (by omega))
        replace hLa := hLa.kept (hkp _ (by omega)) (fun v hv => hkp _ (by omega)) (fun v hv => hkp _ (by omega))
        replace hEm := hEm.kept (hkp _ (by omega))
        replace hPy := hPy.kept (hkp _ (by omega))
        replace hPi := hPi.kept (hkp _ (by omega))
        replace hRa := hRa.kept (hkp _ (by omega)) (fun v hv => hkp _ (by omega)) (fun v hv => hkp _ (by omega))
        replace hBb := hBb.kept (hkp _ (by omega)) (fun v hv => hkp _ (by omega)) (fun v hv => hkp _ (by omega))
        replace hBs := hBs.kept (fun q hq1 hq2 hq3 => hkp q (by omega))
        replace hTr := hTr.kept (fun q hq1 hq2 hq3 => hkp q (by omega))
        refine lv_aload_n hx hb dX1_pay_138 rfl (lv_at hl 2 rfl) ?_
        refine va_get (D := g.1) (ci := 1) (v := .ref (f + 7)) (C := RX1) (T := TX1) (N := 16) hx hb hts (by decide +kernel) hown hK.1 (xr_one hO) 0 rfl rfl 7 (by decide) (hts (.fieldLink RX1 32 "SharesDesk$Phase" "picks" "[I") (by decide +kernel)) (fun _ h9 => h9) rfl dX1_pay_139 ?_
        refine lv_iload_n hx hb dX1_pay_142 rfl (lv_at hl 4 rfl) ?_
        refine lv_iload_n hx hb dX1_pay_143 rfl (lv_at hl 3 rfl) ?_
        refine xr_wr hx hb hK hS (show f ≤ f + 7 ∧ f + 7 < f + 280 by omega) hPi hrd (by decide) dX1_pay_144 (fun H locs hz hkp hPi hS => ?_)
        replace hT := hT.kept (fun q hq1 hq2 hq3 => hkp q (by omega))
        replace hBa := hBa.kept (hkp _ (by omega)) (hkp _ (by omega))
        replace hPu := hPu.kept (hkp _ (by omega)) (fun v hv => hkp _ (by omega)) (fun v hv => hkp _ (by omega))
        replace hLa := hLa.kept (hkp _ (by omega)) (fun v hv => hkp _ (by omega)) (fun v hv => hkp _ (by omega))
        replace hEm := hEm.kept (hkp _ (by omega))
        replace hPy := hPy.kept (hkp _ (by omega))
        replace hRa := hRa.kept (hkp _ (by omega)) (fun v hv => hkp _ (by omega)) (fun v hv => hkp _ (by omega))
        replace hBb := hBb.kept (hkp _ (by omega)) (fun v hv => hkp _ (by omega)) (fun v hv => hkp _ (by omega))
        replace hBs := hBs.kept (fun q hq1 hq2 hq3 => hkp q (by omega))
        replace hTr := hTr.kept (fun q hq1 hq2 hq3 => hkp q (by omega))
        replace hO := hO.kept (hkp _ (by omega))
        rw [ia_up] at hPi
        refine lv_aload_n hx hb dX1_pay_145 rfl (lv_at hl 2 rfl) ?_
        refine lv_iload_n hx hb dX1_pay_146 rfl (lv_at hl 4 rfl) ?_
        refine lv_iconst (v := 1) hx hb dX1_pay_147 (by decide) ?_
        refine lv_iadd hx hb dX1_pay_148 ?_
        refine xr_ti (x' := nI (rd + 1)) (nI_1 rd) ?_
        refine xr_put (ci := 1) (v := .int (nI (rd + 1))) (ty := .int) (C := RX1) (T := TX1) (N := 16) hx hb hts (by decide +kernel) tyX1 tyX1_ok nmX1 hown hK.1 hO hS (show f ≤ f ∧ f < f + 280 by omega) rfl 8 (by decide) (hts (.fieldLink RX1 59 "SharesDesk$Phase" "picked" "I") (by decide +kernel)) rfl (by decide +kernel) rfl rfl (Nat.le_of_ble_eq_true rfl) dX1_pay_149 (fun H locs hz hkp hO hS => ?_)
        replace hT := hT.kept (fun q hq1 hq2 hq3 => hkp q (by omega))
        replace hBa := hBa.kept (hkp _ (by omega)) (hkp _ (by omega))
        replace hPu := hPu.kept (hkp _ (by omega)) (fun v hv => hkp _ (by omega)) (fun v hv => hkp _ (by omega))
        replace hLa := hLa.kept (hkp _ (by omega)) (fun v hv => hkp _ (by omega)) (fun v hv => hkp _ (by omega))
        replace hEm := hEm.kept (hkp _ (by omega))
        replace hPy := hPy.kept (hkp _ (by omega))
        replace hRa := hRa.kept (hkp _ (by omega)) (fun v hv => hkp _ (by omega)) (fun v hv => hkp _ (by omega))
        replace hBb := hBb.kept (hkp _ (by omega)) (fun v hv => hkp _ (by omega)) (fun v hv => hkp _ (by omega))
        replace hBs := hBs.kept (fun q hq1 hq2 hq3 => hkp q (by omega))
        replace hTr := hTr.kept (fun q hq1 hq2 hq3 => hkp q (by omega))
        replace hPi := hPi.kept (hkp _ (by omega))
        refine lv_aload_n hx hb dX1_pay_152 rfl (lv_at hl 2 rfl) ?_
        refine lv_dup hx hb dX1_pay_153 rfl ?_
        refine va_get (D := g.1) (ci := 1) (v := .int (nI ps)) (C := RX1) (T := TX1) (N := 16) hx hb hts (by decide +kernel) hown hK.1 (xr_one hO) 0 rfl rfl 9 (by decide) (hts (.fieldLink RX1 63 "SharesDesk$Phase" "pickedSet" "I") (by decide +kernel)) (fun _ h9 => h9) rfl dX1_pay_154 ?_
        refine lv_iconst (v := 1) hx hb dX1_pay_157 (by decide) ?_
        refine lv_iload_n hx hb dX1_pay_158 rfl (lv_at hl 3 rfl) ?_
        refine lv_ishl hx hb dX1_pay_159 ?_
        refine xr_ti (x' := nI (2 ^ p0)) (sh1 p0 (by omega)) ?_
        refine lv_ior hx hb dX1_pay_160 ?_
        refine xr_ti (x' := nI (ps ||| 2 ^ p0)) nI_or ?_
        refine xr_put (ci := 1) (v := .int (nI (ps ||| 2 ^ p0))) (ty := .int) (C := RX1) (T := TX1) (N := 16) hx hb hts (by decide +kernel) tyX1 tyX1_ok nmX1 hown hK.1 hO hS (show f ≤ f ∧ f < f + 280 by omega) rfl 9 (by decide) (hts (.fieldLink RX1 63 "SharesDesk$Phase" "pickedSet" "I") (by decide +kernel)) rfl (by decide +kernel) rfl rfl (Nat.le_of_ble_eq_true rfl) dX1_pay_161 (fun H locs hz hkp hO hS => ?_)
        replace hT := hT.kept (fun q hq1 hq2 hq3 => hkp q (by omega))
        replace hBa := hBa.kept (hkp _ (by omega)) (hkp _ (by omega))
        replace hPu := hPu.kept (hkp _ (by omega)) (fun v hv => hkp _ (by omega)) (fun v hv => hkp _ (by omega))
        replace hLa := hLa.kept (hkp _ (by omega)) (fun v hv => hkp _ (by omega)) (fun v hv => hkp _ (by omega))
        replace hEm := hEm.kept (hkp _ (by omega))
        replace hPy := hPy.kept (hkp _ (by omega))
        replace hRa := hRa.kept (hkp _ (by omega)) (fun v hv => hkp _ (by omega)) (fun v hv => hkp _ (by omega))
        replace hBb := hBb.kept (hkp _ (by omega)) (fun v hv => hkp _ (by omega)) (fun v hv => hkp _ (by omega))
        replace hBs := hBs.kept (fun q hq1 hq2 hq3 => hkp q (by omega))
        replace hTr := hTr.kept (fun q hq1 hq2 hq3 => hkp q (by omega))
        replace hPi := hPi.kept (hkp _ (by omega))
        refine lv_aload_n hx hb dX1_pay_164 rfl (lv_at hl 2 rfl) ?_
        refine lv_dup hx hb dX1_pay_165 rfl ?_
        refine va_get (D := g.1) (ci := 1) (v := .int (nI co)) (C := RX1) (T := TX1) (N := 16) hx hb hts (by decide +kernel) hown hK.1 (xr_one hO) 0 rfl rfl 10 (by decide) (hts (.fieldLink RX1 66 "SharesDesk$Phase" "cost" "I") (by decide +kernel)) (fun _ h9 => h9) rfl dX1_pay_166 ?_
        refine lv_aload_n hx hb dX1_pay_169 rfl (lv_at hl 2 rfl) ?_
        refine va_get (D := g.1) (ci := 1) (v := .ref t) (C := RX1) (T := TX1) (N := 16) hx hb hts (by decide +kernel) hown hK.1 (xr_one hO) 0 rfl rfl 0 (by decide) (hts (.fieldLink RX1 51 "SharesDesk$Phase" "town" "LSharesDesk$Town;") (by decide +kernel)) (fun _ h9 => h9) rfl dX1_pay_170 ?_
        refine va_get (D := g.1) (ci := 5) (v := .ref (t + 1)) (C := RX5) (T := TX5) (N := 4) hx hb hts (by decide +kernel) hown hK.1 (xr_one hT.1) 0 rfl rfl 0 (by decide) (hts (.fieldLink RX1 112 "SharesDesk$Town" "costs" "[I") (by decide +kernel)) (fun _ h9 => h9) rfl dX1_pay_173 ?_
        refine lv_iload_n hx hb dX1_pay_176 rfl (lv_at hl 3 rfl) ?_
        refine xr_rd hx hb hK hT.2.1 hp (by decide) dX1_pay_177 ?_
        refine lv_iadd hx hb dX1_pay_178 ?_
        refine xr_ti (x' := nI (co + c p0)) (nI_add _ _) ?_
        refine xr_put (ci := 1) (v := .int (nI (co + c p0))) (ty := .int) (C := RX1) (T := TX1) (N := 16) hx hb hts (by decide +kernel) tyX1 tyX1_ok nmX1 hown hK.1 hO hS (show f ≤ f ∧ f < f + 280 by omega) rfl 10 (by decide) (hts (.fieldLink RX1 66 "SharesDesk$Phase" "cost" "I") (by decide +kernel)) rfl (by decide +kernel) rfl rfl (Nat.le_of_ble_eq_true rfl) dX1_pay_179 (fun H locs hz hkp hO hS => ?_)
        replace hT := hT.kept (fun q hq1 hq2 hq3 => hkp q (by omega))
        replace hBa := hBa.kept (hkp _ (by omega)) (hkp _ (by omega))
        replace hPu := hPu.kept (hkp _ (by omega)) (fun v hv => hkp _ (by omega)) (fun v hv => hkp _ (by omega))
        replace hLa := hLa.kept (hkp _ (by omega)) (fun v hv => hkp _ (by omega)) (fun v hv => hkp _ (by omega))
        replace hEm := hEm.kept (hkp _ (by omega))
        replace hPy := hPy.kept (hkp _ (by omega))
        replace hRa := hRa.kept (hkp _ (by omega)) (fun v hv => hkp _ (by omega)) (fun v hv => hkp _ (by omega))
        replace hBb := hBb.kept (hkp _ (by omega)) (fun v hv => hkp _ (by omega)) (fun v hv => hkp _ (by omega))
        replace hBs := hBs.kept (fun q hq1 hq2 hq3 => hkp q (by omega))
        replace hTr := hTr.kept (fun q hq1 hq2 hq3 => hkp q (by omega))
        replace hPi := hPi.kept (hkp _ (by omega))
        refine lv_aload_n hx hb dX1_pay_182 rfl (lv_at hl 2 rfl) ?_
        refine lv_dup hx hb dX1_pay_183 rfl ?_
        refine va_get (D := g.1) (ci := 1) (v := .int (nI op)) (C := RX1) (T := TX1) (N := 16) hx hb hts (by decide +kernel) hown hK.1 (xr_one hO) 0 rfl rfl 13 (by decide) (hts (.fieldLink RX1 75 "SharesDesk$Phase" "open" "I") (by decide +kernel)) (fun _ h9 => h9) rfl dX1_pay_184 ?_
        refine lv_iconst (v := 1) hx hb dX1_pay_187 (by decide) ?_
        refine lv_iload_n hx hb dX1_pay_188 rfl (lv_at hl 3 rfl) ?_
        refine lv_ishl hx hb dX1_pay_189 ?_
        refine xr_ti (x' := nI (2 ^ p0)) (sh1 p0 (by omega)) ?_
        refine lv_iconst (v := (-1)) hx hb dX1_pay_190 (by decide) ?_
        refine lv_ixor hx hb dX1_pay_191 ?_
        refine lv_iand hx hb dX1_pay_192 ?_
        refine xr_ti (x' := nI (op - 2 ^ p0)) (nI_clr (by omega) (by omega) hob) ?_
        refine xr_put (ci := 1) (v := .int (nI (op - 2 ^ p0))) (ty := .int) (C := RX1) (T := TX1) (N := 16) hx hb hts (by decide +kernel) tyX1 tyX1_ok nmX1 hown hK.1 hO hS (show f ≤ f ∧ f < f + 280 by omega) rfl 13 (by decide) (hts (.fieldLink RX1 75 "SharesDesk$Phase" "open" "I") (by decide +kernel)) rfl (by decide +kernel) rfl rfl (Nat.le_of_ble_eq_true rfl) dX1_pay_193 (fun H locs hz hkp hO hS => ?_)
        replace hT := hT.kept (fun q hq1 hq2 hq3 => hkp q (by omega))
        replace hBa := hBa.kept (hkp _ (by omega)) (hkp _ (by omega))
        replace hPu := hPu.kept (hkp _ (by omega)) (fun v hv => hkp _ (by omega)) (fun v hv => hkp _ (by omega))
        replace hLa := hLa.kept (hkp _ (by omega)) (fun v hv => hkp _ (by omega)) (fun v hv => hkp _ (by omega))
        replace hEm := hEm.kept (hkp _ (by omega))
        replace hPy := hPy.kept (hkp _ (by omega))
        replace hRa := hRa.kept (hkp _ (by omega)) (fun v hv => hkp _ (by omega)) (fun v hv => hkp _ (by omega))
        replace hBb := hBb.kept (hkp _ (by omega)) (fun v hv => hkp _ (by omega)) (fun v hv => hkp _ (by omega))
        replace hBs := hBs.kept (fun q hq1 hq2 hq3 => hkp q (by omega))
        replace hTr := hTr.kept (fun q hq1 hq2 hq3 => hkp q (by omega))
        replace hPi := hPi.kept (hkp _ (by omega))
        exact xr_vret hx hb hr hlocks hS ⟨hO, hBa, hPu, hLa, hEm, hPy, hPi, hRa, hBb, hBs, hTr⟩ dX1_pay_196
      · exact absurd (nI_le (show pc ≤ i by omega) (by omega)) hc
    | succ n ih =>
      intro i h1 H locs hO hT hBa hPu hLa hEm hPy hPi hRa hBb hBs hTr hS ls hl
      have hv := hpay i (by omega)
      have hle := payC_le (pur := pur) (pay := pay) (ap := ap) (p := p0) (k := k) (r := r) i
      have hcur : payP pur pay ap p0 k r i (pay i) = pur (pay i) := payP_ne i (fun j hj q => absurd (hinj j i (by omega) (by omega) q) (by omega))
      have hxk : pur (pay i) * k < 2 ^ 128 := Nat.lt_of_le_of_lt (Nat.mul_le_mul_left _ hk) (hpb i (by omega))
      have tail : ∀ (H : Heap) (locs : List Loc), obj g H f 1 (phF f t pc pk ps co op bs tr) → TownAt g H t c vs ap bu → NatAt g H (f + 1) (B * k) → PoolAt g H (f + 3) (f + 24) 48 (payP pur pay ap p0 k r (i + 1)) → PoolAt g H (f + 4) (f + 26) 48 (payL pur las pay ap p0 k r (i + 1)) → xr_ia H (f + 5) (gI g) 48 (fun z9 => nI ((payE pur emp pay ap p0 k r rd (i + 1)) z9)) → xr_ia H (f + 6) (gI g) 48 (fun z9 => nI (((payC pur pay ap p0 k r i).1) z9)) → xr_ia H (f + 7) (gI g) 16 (fun z9 => nI (pik z9)) → PoolAt g H (f + 8) (f + 216) 16 (va_up rat rd r) → PoolAt g H (f + 9) (f + 218) 16 (va_up bas rd (B * k)) → ShareAt g H bs r k → ShareAt g H tr rt kt → va_S (fun q => f ≤ q ∧ q < f + 280) s.heap H locs → ∀ ls : Array Slot, lv_has ls 6 [(5, .int (nI (pay i))), (4, .int (nI i)), (3, .int (nI (payC pur pay ap p0 k r i).2)), (0, .ref f), (1, .int (nI p0)), (2, .int (nI rd))] → W pgm l env { frames := 3, cells := 0, slots := 0, locals := 83 } s mid ([.ref f, .int (nI p0), .int (nI rd)] : List Value).toArray below meth cde H locs 0 0 (MQ below (xr_Post eV (fun _ H => obj g H f 1 (phF f t ((payC pur pay ap p0 k r pc).2) (rd + 1) (ps ||| 2 ^ p0) (co + c p0) (op - 2 ^ p0) bs tr) ∧ NatAt g H (f + 1) (B * k) ∧ PoolAt g H (f + 3) (f + 24) 48 (payP pur pay ap p0 k r pc) ∧ PoolAt g H (f + 4) (f + 26) 48 (payL pur las pay ap p0 k r pc) ∧ xr_ia H (f + 5) (gI g) 48 (fun z9 => nI ((payE pur emp pay ap p0 k r rd pc) z9)) ∧ xr_ia H (f + 6) (gI g) 48 (fun z9 => nI (((payC pur pay ap p0 k r pc).1) z9)) ∧ xr_ia H (f + 7) (gI g) 16 (fun z9 => nI ((va_up pik rd p0) z9)) ∧ PoolAt g H (f + 8) (f + 216) 16 (va_up rat rd r) ∧ PoolAt g H (f + 9) (f + 218) 16 (va_up bas rd (B * k)) ∧ ShareAt g H bs r k ∧ ShareAt g H tr rt kt) (fun q => f ≤ q ∧ q < f + 280)) ([.ref f, .int (nI p0), .int (nI rd)] : List Value).toArray s ({ frames := 3, cells := 0, slots := 0, locals := 83 } : Room).cells ({ frames := 3, cells := 0, slots := 0, locals := 83 } : Room).slots (fun q => f ≤ q ∧ q < f + 280)) (F0 mid 103 ls []) := by
        intro H locs hO hT hBa hPu hLa hEm hPy hPi hRa hBb hBs hTr hS ls hl
        have hNv := hPu.2 (pay i) hv
        have eNv : payP pur pay ap p0 k r (i + 1) (pay i) = nPur ap p0 k r (pay i) (pur (pay i)) := by rw [payP, va_up_self]
        rw [eNv] at hNv
        refine lv_aload_n hx hb dX1_pay_103 rfl (lv_at hl 3 rfl) ?_
        refine va_get (D := g.1) (ci := 1) (v := .ref (f + 3)) (C := RX1) (T := TX1) (N := 16) hx hb hts (by decide +kernel) hown hK.1 (xr_one hO) 0 rfl rfl 2 (by decide) (hts (.fieldLink RX1 18 "SharesDesk$Phase" "purses" "[LSharesDesk$Natural;") (by decide +kernel)) (fun _ h9 => h9) rfl dX1_pay_104 ?_
        refine lv_iload hx hb dX1_pay_107 (lv_at hl 0 rfl) ?_
        refine xr_pl hx hb hK hPu hv (by decide) dX1_pay_109 ?_
        refine xr_Vi (rest := []) ⟨hx, hb, hml, hown, hts⟩ (KK_ok g) hK (c_X0_isZero l g H (f + 24 + 4 * pay i) (nPur ap p0 k r (pay i) (pur (pay i))) hNv) (cwV 0 hts gX1_pay_X0_isZero rfl rfl rfl (by decide +kernel) ⟨Nat.le_of_ble_eq_true rfl, Nat.le_of_ble_eq_true rfl⟩) (xr_rec hK hNv.1 rfl) rfl hl.1 rfl (Nat.le_of_ble_eq_true rfl) dX1_pay_110 ⟨Nat.le_of_ble_eq_true rfl, Nat.le_of_ble_eq_true rfl⟩ hS (fun q h => h.elim) (fun r H locs hq hz hkp hS9 => ?_)
        obtain ⟨rfl, rfl⟩ := hq
        have hS := hS9
        refine lv_if_ne (tgt := 127) hx hb dX1_pay_113 (by decide) (fun h7 => ?_) (fun h7 => ?_)
        · have h8 := of_decide_eq_true (b2i_n0.mp h7)
          have eC : (payC pur pay ap p0 k r (i + 1)) = (payC pur pay ap p0 k r i) := by rw [payC, if_pos h8]
          refine lv_iinc (v := nI (i + 1)) (lv' := [(4, .int (nI (i + 1))), (5, .int (nI (pay i))), (3, .int (nI (payC pur pay ap p0 k r i).2)), (0, .ref f), (1, .int (nI p0)), (2, .int (nI rd))]) hx hb dX1_pay_127 hl (k := 1) rfl (nI_1 i) (by decide) rfl (fun ls hl => ?_)
          refine lv_goto (tgt := 48) hx hb dX1_pay_130 (by decide) ?_
          exact ih (i + 1) (by omega) H locs hO hT hBa hPu hLa hEm (by rw [eC]; exact hPy) hPi hRa hBb hBs hTr hS ls (by rw [eC]; exact lv_sub hl [0, 2, 3, 4, 5] rfl)
        · have h8 := of_decide_eq_false (b2i_0.mp h7)
          have eC : (payC pur pay ap p0 k r (i + 1)) = (va_up (payC pur pay ap p0 k r i).1 (payC pur pay ap p0 k r i).2 (pay i), (payC pur pay ap p0 k r i).2 + 1) := by rw [payC, if_neg h8]
          refine lv_aload_n hx hb dX1_pay_116 rfl (lv_at hl 3 rfl) ?_
          refine va_get (D := g.1) (ci := 1) (v := .ref (f + 6)) (C := RX1) (T := TX1) (N := 16) hx hb hts (by decide +kernel) hown hK.1 (xr_one hO) 0 rfl rfl 5 (by decide) (hts (.fieldLink RX1 29 "SharesDesk$Phase" "payers" "[I") (by decide +kernel)) (fun _ h9 => h9) rfl dX1_pay_117 ?_
          refine lv_iload_n hx hb dX1_pay_120 rfl (lv_at hl 2 rfl) ?_
          refine lv_iinc (v := nI ((payC pur pay ap p0 k r i).2 + 1)) (lv' := [(3, .int (nI ((payC pur pay ap p0 k r i).2 + 1))), (5, .int (nI (pay i))), (4, .int (nI i)), (0, .ref f), (1, .int (nI p0)), (2, .int (nI rd))]) hx hb dX1_pay_121 hl (k := 2) rfl (nI_1 _) (by decide) rfl (fun ls hl => ?_)
          refine lv_iload hx hb dX1_pay_124 (lv_at hl 1 rfl) ?_
          refine xr_wr hx hb hK hS (show f ≤ f + 6 ∧ f + 6 < f + 280 by omega) hPy (show (payC pur pay ap p0 k r i).2 < 48 by omega) (by decide) dX1_pay_126 (fun H locs hz hkp hPy hS => ?_)
          replace hO := hO.kept (hkp _ (by omega))
          replace hT := hT.kept (fun q hq1 hq2 hq3 => hkp q (by omega))
          replace hBa := hBa.kept (hkp _ (by omega)) (hkp _ (by omega))
          replace hPu := hPu.kept (hkp _ (by omega)) (fun v hv => hkp _ (by omega)) (fun v hv => hkp _ (by omega))
          replace hLa := hLa.kept (hkp _ (by omega)) (fun v hv => hkp _ (by omega)) (fun v hv => hkp _ (by omega))
          replace hEm := hEm.kept (hkp _ (by omega))
          replace hPi := hPi.kept (hkp _ (by omega))
          replace hRa := hRa.kept (hkp _ (by omega)) (fun v hv => hkp _ (by omega)) (fun v hv => hkp _ (by omega))
          replace hBb := hBb.kept (hkp _ (by omega)) (fun v hv => hkp _ (by omega)) (fun v hv => hkp _ (by omega))
          replace hBs := hBs.kept (fun q hq1 hq2 hq3 => hkp q (by omega))
          replace hTr := hTr.kept (fun q hq1 hq2 hq3 => hkp q (by omega))
          rw [ia_up] at hPy
          refine lv_iinc (v := nI (i + 1)) (lv' := [(4, .int (nI (i + 1))), (3, .int (nI ((payC pur pay ap p0 k r i).2 + 1))), (5, .int (nI (pay i))), (0, .ref f), (1, .int (nI p0)), (2, .int (nI rd))]) hx hb dX1_pay_127 hl (k := 2) rfl (nI_1 i) (by decide) rfl (fun ls hl => ?_)
          refine lv_goto (tgt := 48) hx hb dX1_pay_130 (by decide) ?_
          exact ih (i + 1) (by omega) H locs hO hT hBa hPu hLa hEm (by rw [eC]; exact hPy) hPi hRa hBb hBs hTr hS ls (by rw [eC]; exact lv_sub hl [0, 1, 3, 4, 5] rfl)
      refine lv_iload hx hb dX1_pay_48 (lv_at hl 0 rfl) ?_
      refine lv_aload_n hx hb dX1_pay_50 rfl (lv_at hl 2 rfl) ?_
      refine va_get (D := g.1) (ci := 1) (v := .int (nI pc)) (C := RX1) (T := TX1) (N := 16) hx hb hts (by decide +kernel) hown hK.1 (xr_one hO) 0 rfl rfl 6 (by decide) (hts (.fieldLink RX1 118 "SharesDesk$Phase" "payerCount" "I") (by decide +kernel)) (fun _ h9 => h9) rfl dX1_pay_51 ?_
      refine lv_icmp_ge (tgt := 133) hx hb dX1_pay_54 (by decide) (fun hc => ?_) (fun hc => ?_)
      · exact absurd ((nI_leI (by omega) (by omega)).mp hc) (by omega)
      · clear hc
        refine lv_aload_n hx hb dX1_pay_57 rfl (lv_at hl 2 rfl) ?_
        refine va_get (D := g.1) (ci := 1) (v := .ref (f + 6)) (C := RX1) (T := TX1) (N := 16) hx hb hts (by decide +kernel) hown hK.1 (xr_one hO) 0 rfl rfl 5 (by decide) (hts (.fieldLink RX1 29 "SharesDesk$Phase" "payers" "[I") (by decide +kernel)) (fun _ h9 => h9) rfl dX1_pay_58 ?_
        refine lv_iload hx hb dX1_pay_61 (lv_at hl 0 rfl) ?_
        refine xr_rd hx hb hK hPy (show i < 48 by omega) (by decide) dX1_pay_63 ?_
        refine xr_ti (x' := nI (pay i)) (by rw [payC_ge i i (Nat.le_refl i)]) ?_
        refine lv_istore (lv' := [(5, .int (nI (pay i))), (4, .int (nI i)), (3, .int (nI (payC pur pay ap p0 k r i).2)), (0, .ref f), (1, .int (nI p0)), (2, .int (nI rd))]) hx hb dX1_pay_64 hl (by decide) rfl (fun ls hl => ?_)
        refine lv_aload_n hx hb dX1_pay_66 rfl (lv_at hl 3 rfl) ?_
        refine va_get (D := g.1) (ci := 1) (v := .ref (f + 3)) (C := RX1) (T := TX1) (N := 16) hx hb hts (by decide +kernel) hown hK.1 (xr_one hO) 0 rfl rfl 2 (by decide) (hts (.fieldLink RX1 18 "SharesDesk$Phase" "purses" "[LSharesDesk$Natural;") (by decide +kernel)) (fun _ h9 => h9) rfl dX1_pay_67 ?_
        refine lv_iload hx hb dX1_pay_70 (lv_at hl 0 rfl) ?_
        refine xr_pl hx hb hK hPu hv (by decide) dX1_pay_72 ?_
        refine lv_aload_n hx hb dX1_pay_73 rfl (lv_at hl 3 rfl) ?_
        refine va_get (D := g.1) (ci := 1) (v := .ref bs) (C := RX1) (T := TX1) (N := 16) hx hb hts (by decide +kernel) hown hK.1 (xr_one hO) 0 rfl rfl 14 (by decide) (hts (.fieldLink RX1 44 "SharesDesk$Phase" "best" "LSharesDesk$Share;") (by decide +kernel)) (fun _ h9 => h9) rfl dX1_pay_74 ?_
        refine va_get (D := g.1) (ci := 3) (v := .int (nI k)) (C := RX3) (T := TX3) (N := 4) hx hb hts (by decide +kernel) hown hK.1 (xr_one hBs.1) 0 rfl rfl 1 (by decide) (hts (.fieldLink RX1 159 "SharesDesk$Share" "payers" "I") (by decide +kernel)) (fun _ h9 => h9) rfl dX1_pay_77 ?_
        have hNv := hPu.2 (pay i) hv
        rw [hcur] at hNv
        refine xr_Vv (rest := []) ⟨hx, hb, hml, hown, hts⟩ (KK_ok g) hK (c_X0_times l g H (f + 24 + 4 * pay i) (pur (pay i)) k hNv (by omega) hxk) (cwV 1 hts gX1_pay_X0_times rfl rfl rfl (by decide +kernel) ⟨Nat.le_of_ble_eq_true rfl, Nat.le_of_ble_eq_true rfl⟩) (xr_rec hK hNv.1 rfl) rfl hl.1 rfl (Nat.le_of_ble_eq_true rfl) dX1_pay_80 ⟨Nat.le_of_ble_eq_true rfl, Nat.le_of_ble_eq_true rfl⟩ hS (fun q h => by have h : q = f + 24 + 4 * pay i + 1 := h; show f ≤ q ∧ q < f + 280; omega) (fun _ H locs hq hz hkp hS => ?_)
        replace hkp := fun (q : Nat) h1 (h2 : ¬ (q = f + 24 + 4 * pay i + 1)) => hkp q h1 h2
        clear hz
        replace hO := hO.kept (hkp _ hO.lt (by omega))
        replace hT := hT.kept (fun q hq1 hq2 hq3 => hkp q hq1 (by omega))
        replace hBa := hBa.kept (hkp _ hBa.1.lt (by omega)) (hkp _ hBa.2.1.lt (by omega))
        replace hLa := hLa.kept (hkp _ hLa.1.lt (by omega)) (fun v hv => hkp _ (hLa.2 v hv).1.lt (by omega)) (fun v hv => hkp _ (hLa.2 v hv).2.1.lt (by omega))
        replace hEm := hEm.kept (hkp _ hEm.lt (by omega))
        replace hPy := hPy.kept (hkp _ hPy.lt (by omega))
        replace hPi := hPi.kept (hkp _ hPi.lt (by omega))
        replace hRa := hRa.kept (hkp _ hRa.1.lt (by omega)) (fun v hv => hkp _ (hRa.2 v hv).1.lt (by omega)) (fun v hv => hkp _ (hRa.2 v hv).2.1.lt (by omega))
        replace hBb := hBb.kept (hkp _ hBb.1.lt (by omega)) (fun v hv => hkp _ (hBb.2 v hv).1.lt (by omega)) (fun v hv => hkp _ (hBb.2 v hv).2.1.lt (by omega))
        replace hBs := hBs.kept (fun q hq1 hq2 hq3 => hkp q hq1 (by omega))
        replace hTr := hTr.kept (fun q hq1 hq2 hq3 => hkp q hq1 (by omega))
        replace hPu := hPu.put hq (hkp _ hPu.1.lt (by omega)) (fun u hu hne => hkp _ (hPu.2 u hu).1.lt (by omega)) (fun u hu hne => hkp _ (hPu.2 u hu).2.1.lt (by omega))
        refine lv_aload_n hx hb dX1_pay_83 rfl (lv_at hl 3 rfl) ?_
        refine va_get (D := g.1) (ci := 1) (v := .ref t) (C := RX1) (T := TX1) (N := 16) hx hb hts (by decide +kernel) hown hK.1 (xr_one hO) 0 rfl rfl 0 (by decide) (hts (.fieldLink RX1 51 "SharesDesk$Phase" "town" "LSharesDesk$Town;") (by decide +kernel)) (fun _ h9 => h9) rfl dX1_pay_84 ?_
        refine lv_iload hx hb dX1_pay_87 (lv_at hl 0 rfl) ?_
        refine lv_iload_n hx hb dX1_pay_89 rfl (lv_at hl 4 rfl) ?_
        refine xr_Vi (rest := []) ⟨hx, hb, hml, hown, hts⟩ (KK_ok g) hK (c_X5_approves l g H t c vs ap bu hT (pay i) p0 hv hp) (cwV 2 hts gX1_pay_X5_approves rfl rfl rfl (by decide +kernel) ⟨Nat.le_of_ble_eq_true rfl, Nat.le_of_ble_eq_true rfl⟩) (xr_rec hK hT.1 rfl) rfl hl.1 rfl (Nat.le_of_ble_eq_true rfl) dX1_pay_90 ⟨Nat.le_of_ble_eq_true rfl, Nat.le_of_ble_eq_true rfl⟩ hS (fun q h => h.elim) (fun r H locs hq hz hkp hS9 => ?_)
        obtain ⟨rfl, rfl⟩ := hq
        have hS := hS9
        refine lv_if_eq (tgt := 103) hx hb dX1_pay_93 (by decide) (fun hc => ?_) (fun hc => ?_)
        · have h8 : (ap (pay i)).testBit p0 = false := b2i_0.mp hc
          have eN : nPur ap p0 k r (pay i) (pur (pay i)) = pur (pay i) * k := by unfold nPur; rw [if_neg (by rw [h8]; decide)]
          exact tail H locs hO hT hBa (by rw [payP, eN]; exact hPu) (by rw [payL, if_neg (fun q => by rw [h8] at q; exact absurd q.1 (by decide))]; exact hLa) (by rw [payE, if_neg (fun q => by rw [h8] at q; exact absurd q.1 (by decide))]; exact hEm) hPy hPi hRa hBb hBs hTr hS ls (lv_sub hl [0, 1, 2, 3, 4, 5] rfl)
        · have h8 : (ap (pay i)).testBit p0 = true := b2i_n0.mp hc
          have eN : nPur ap p0 k r (pay i) (pur (pay i)) = pur (pay i) * k - r := by unfold nPur; rw [if_pos h8]
          refine lv_aload_n hx hb dX1_pay_96 rfl (lv_at hl 3 rfl) ?_
          refine lv_iload hx hb dX1_pay_97 (lv_at hl 0 rfl) ?_
          refine lv_iload_n hx hb dX1_pay_99 rfl (lv_at hl 5 rfl) ?_
          refine xr_Vv (rest := []) ⟨hx, hb, hml, hown, hts⟩ (KK_ok g) hK (c_X1_charge l g H t f pc pk ps co op bs tr hO (va_up (payP pur pay ap p0 k r i) (pay i) (pur (pay i) * k)) (payL pur las pay ap p0 k r i) (va_up rat rd r) (payE pur emp pay ap p0 k r rd i) hPu hLa hRa hEm (pay i) rd hv hrd) (cwV 2 hts gX1_pay_X1_charge rfl rfl rfl (by decide +kernel) ⟨Nat.le_of_ble_eq_true rfl, Nat.le_of_ble_eq_true rfl⟩) (xr_rec hK hO rfl) rfl hl.1 rfl (Nat.le_of_ble_eq_true rfl) dX1_pay_100 ⟨Nat.le_of_ble_eq_true rfl, Nat.le_of_ble_eq_true rfl⟩ hS (fun q h => by have h : q = f + 5 ∨ q = f + 24 + 4 * pay i + 1 ∨ q = f + 26 + 4 * pay i + 1 := h; show f ≤ q ∧ q < f + 280; omega) (fun _ H locs hq hz hkp hS => ?_)
          replace hkp := fun (q : Nat) h1 (h2 : ¬ (q = f + 5 ∨ q = f + 24 + 4 * pay i + 1 ∨ q = f + 26 + 4 * pay i + 1)) => hkp q h1 h2
          clear hz
          replace hO := hO.kept (hkp _ hO.lt (by omega))
          replace hT := hT.kept (fun q hq1 hq2 hq3 => hkp q hq1 (by omega))
          replace hBa := hBa.kept (hkp _ hBa.1.lt (by omega)) (hkp _ hBa.2.1.lt (by omega))
          replace hPy := hPy.kept (hkp _ hPy.lt (by omega))
          replace hPi := hPi.kept (hkp _ hPi.lt (by omega))
          replace hRa := hRa.kept (hkp _ hRa.1.lt (by omega)) (fun v hv => hkp _ (hRa.2 v hv).1.lt (by omega)) (fun v hv => hkp _ (hRa.2 v hv).2.1.lt (by omega))
          replace hBb := hBb.kept (hkp _ hBb.1.lt (by omega)) (fun v hv => hkp _ (hBb.2 v hv).1.lt (by omega)) (fun v hv => hkp _ (hBb.2 v hv).2.1.lt (by omega))
          replace hBs := hBs.kept (fun q hq1 hq2 hq3 => hkp q hq1 (by omega))
          replace hTr := hTr.kept (fun q hq1 hq2 hq3 => hkp q hq1 (by omega))
          obtain ⟨hPu, hLa, hEm⟩ := hq
          rw [va_up_self, va_up_self, bx_uu] at hPu
          rw [va_up_self, va_up_self] at hLa hEm
          exact tail H locs hO hT hBa (by rw [payP, eN]; exact hPu) (by rw [payL]; simp only [h8, true_and]; exact hLa) (by rw [payE]; simp only [h8, true_and]; exact hEm) hPy hPi hRa hBb hBs hTr hS ls (lv_sub hl [0, 1, 2, 3, 4, 5] rfl)
  refine lv_aload_n hx hb dX1_pay_0 rfl (lv_at hl 0 rfl) ?_
  refine va_get (D := g.1) (ci := 1) (v := .ref (f + 1)) (C := RX1) (T := TX1) (N := 16) hx hb hts (by decide +kernel) hown hK.1 (xr_one hO) 0 rfl rfl 1 (by decide) (hts (.fieldLink RX1 12 "SharesDesk$Phase" "base" "LSharesDesk$Natural;") (by decide +kernel)) (fun _ h9 => h9) rfl dX1_pay_1 ?_
  refine lv_aload_n hx hb dX1_pay_4 rfl (lv_at hl 0 rfl) ?_
  refine va_get (D := g.1) (ci := 1) (v := .ref bs) (C := RX1) (T := TX1) (N := 16) hx hb hts (by decide +kernel) hown hK.1 (xr_one hO) 0 rfl rfl 14 (by decide) (hts (.fieldLink RX1 44 "SharesDesk$Phase" "best" "LSharesDesk$Share;") (by decide +kernel)) (fun _ h9 => h9) rfl dX1_pay_5 ?_
  refine va_get (D := g.1) (ci := 3) (v := .int (nI k)) (C := RX3) (T := TX3) (N := 4) hx hb hts (by decide +kernel) hown hK.1 (xr_one hBs.1) 0 rfl rfl 1 (by decide) (hts (.fieldLink RX1 159 "SharesDesk$Share" "payers" "I") (by decide +kernel)) (fun _ h9 => h9) rfl dX1_pay_8 ?_
  refine xr_Vv (rest := []) ⟨hx, hb, hml, hown, hts⟩ (KK_ok g) hK (c_X0_times l g s.heap (f + 1) B k hBa (by omega) hBk) (cwV 1 hts gX1_pay_X0_times rfl rfl rfl (by decide +kernel) ⟨Nat.le_of_ble_eq_true rfl, Nat.le_of_ble_eq_true rfl⟩) (xr_rec hK hBa.1 rfl) rfl hl.1 rfl (Nat.le_of_ble_eq_true rfl) dX1_pay_11 ⟨Nat.le_of_ble_eq_true rfl, Nat.le_of_ble_eq_true rfl⟩ hS (fun q h => by have h : q = f + 1 + 1 := h; show f ≤ q ∧ q < f + 280; omega) (fun _ H locs hq hz hkp hS => ?_)
  replace hkp := fun (q : Nat) h1 (h2 : ¬ (q = f + 1 + 1)) => hkp q h1 h2
  clear hz
  replace hO := hO.kept (hkp _ hO.lt (by omega))
  replace hT := hT.kept (fun q hq1 hq2 hq3 => hkp q hq1 (by omega))
  replace hPu := hPu.kept (hkp _ hPu.1.lt (by omega)) (fun v hv => hkp _ (hPu.2 v hv).1.lt (by omega)) (fun v hv => hkp _ (hPu.2 v hv).2.1.lt (by omega))
  replace hLa := hLa.kept (hkp _ hLa.1.lt (by omega)) (fun v hv => hkp _ (hLa.2 v hv).1.lt (by omega)) (fun v hv => hkp _ (hLa.2 v hv).2.1.lt (by omega))
  replace hEm := hEm.kept (hkp _ hEm.lt (by omega))
  replace hPy := hPy.kept (hkp _ hPy.lt (by omega))
  replace hPi := hPi.kept (hkp _ hPi.lt (by omega))
  replace hRa := hRa.kept (hkp _ hRa.1.lt (by omega)) (fun v hv => hkp _ (hRa.2 v hv).1.lt (by omega)) (fun v hv => hkp _ (hRa.2 v hv).2.1.lt (by omega))
  replace hBb := hBb.kept (hkp _ hBb.1.lt (by omega)) (fun v hv => hkp _ (hBb.2 v hv).1.lt (by omega)) (fun v hv => hkp _ (hBb.2 v hv).2.1.lt (by omega))
  replace hBs := hBs.kept (fun q hq1 hq2 hq3 => hkp q hq1 (by omega))
  replace hTr := hTr.kept (fun q hq1 hq2 hq3 => hkp q hq1 (by omega))
  have hBa : NatAt g H (f + 1) (B * k) := hq
  refine lv_aload_n hx hb dX1_pay_14 rfl (lv_at hl 0 rfl) ?_
  refine va_get (D := g.1) (ci := 1) (v := .ref (f + 9)) (C := RX1) (T := TX1) (N := 16) hx hb hts (by decide +kernel) hown hK.1 (xr_one hO) 0 rfl rfl 12 (by decide) (hts (.fieldLink RX1 38 "SharesDesk$Phase" "bases" "[LSharesDesk$Natural;") (by decide +kernel)) (fun _ h9 => h9) rfl dX1_pay_15 ?_
  refine lv_iload_n hx hb dX1_pay_18 rfl (lv_at hl 2 rfl) ?_
  refine xr_pl hx hb hK hBb hrd (by decide) dX1_pay_19 ?_
  refine lv_aload_n hx hb dX1_pay_20 rfl (lv_at hl 0 rfl) ?_
  refine va_get (D := g.1) (ci := 1) (v := .ref (f + 1)) (C := RX1) (T := TX1) (N := 16) hx hb hts (by decide +kernel) hown hK.1 (xr_one hO) 0 rfl rfl 1 (by decide) (hts (.fieldLink RX1 12 "SharesDesk$Phase" "base" "LSharesDesk$Natural;") (by decide +kernel)) (fun _ h9 => h9) rfl dX1_pay_21 ?_
  refine xr_Vv (rest := []) ⟨hx, hb, hml, hown, hts⟩ (KK_ok g) hK (c_X0_copy l g H (f + 218 + 4 * rd) (f + 1) (bas rd) (B * k) (hBb.2 rd hrd) hBa (by omega)) (cwV 1 hts gX1_pay_X0_copy rfl rfl rfl (by decide +kernel) ⟨Nat.le_of_ble_eq_true rfl, Nat.le_of_ble_eq_true rfl⟩) (xr_rec hK (hBb.2 rd hrd).1 rfl) rfl hl.1 rfl (Nat.le_of_ble_eq_true rfl) dX1_pay_24 ⟨Nat.le_of_ble_eq_true rfl, Nat.le_of_ble_eq_true rfl⟩ hS (fun q h => by have h : q = f + 218 + 4 * rd + 1 := h; show f ≤ q ∧ q < f + 280; omega) (fun _ H locs hq hz hkp hS => ?_)
  replace hkp := fun (q : Nat) h1 (h2 : ¬ (q = f + 218 + 4 * rd + 1)) => hkp q h1 h2
  clear hz
  replace hO := hO.kept (hkp _ hO.lt (by omega))
  replace hT := hT.kept (fun q hq1 hq2 hq3 => hkp q hq1 (by omega))
  replace hPu := hPu.kept (hkp _ hPu.1.lt (by omega)) (fun v hv => hkp _ (hPu.2 v hv).1.lt (by omega)) (fun v hv => hkp _ (hPu.2 v hv).2.1.lt (by omega))
  replace hLa := hLa.kept (hkp _ hLa.1.lt (by omega)) (fun v hv => hkp _ (hLa.2 v hv).1.lt (by omega)) (fun v hv => hkp _ (hLa.2 v hv).2.1.lt (by omega))
  replace hEm := hEm.kept (hkp _ hEm.lt (by omega))
  replace hPy := hPy.kept (hkp _ hPy.lt (by omega))
  replace hPi := hPi.kept (hkp _ hPi.lt (by omega))
  replace hRa := hRa.kept (hkp _ hRa.1.lt (by omega)) (fun v hv => hkp _ (hRa.2 v hv).1.lt (by omega)) (fun v hv => hkp _ (hRa.2 v hv).2.1.lt (by omega))
  replace hBs := hBs.kept (fun q hq1 hq2 hq3 => hkp q hq1 (by omega))
  replace hTr := hTr.kept (fun q hq1 hq2 hq3 => hkp q hq1 (by omega))
  replace hBa := hBa.kept (hkp _ hBa.1.lt (by omega)) (hkp _ hBa.2.1.lt (by omega))
  replace hBb := hBb.put hq (hkp _ hBb.1.lt (by omega)) (fun u hu hne => hkp _ (hBb.2 u hu).1.lt (by omega)) (fun u hu hne => hkp _ (hBb.2 u hu).2.1.lt (by omega))
  refine lv_aload_n hx hb dX1_pay_27 rfl (lv_at hl 0 rfl) ?_
  refine va_get (D := g.1) (ci := 1) (v := .ref (f + 8)) (C := RX1) (T := TX1) (N := 16) hx hb hts (by decide +kernel) hown hK.1 (xr_one hO) 0 rfl rfl 11 (by decide) (hts (.fieldLink RX1 35 "SharesDesk$Phase" "rates" "[LSharesDesk$Natural;") (by decide +kernel)) (fun _ h9 => h9) rfl dX1_pay_28 ?_
  refine lv_iload_n hx hb dX1_pay_31 rfl (lv_at hl 2 rfl) ?_
  refine xr_pl hx hb hK hRa hrd (by decide) dX1_pay_32 ?_
  refine lv_aload_n hx hb dX1_pay_33 rfl (lv_at hl 0 rfl) ?_
  refine va_get (D := g.1) (ci := 1) (v := .ref bs) (C := RX1) (T := TX1) (N := 16) hx hb hts (by decide +kernel) hown hK.1 (xr_one hO) 0 rfl rfl 14 (by decide) (hts (.fieldLink RX1 44 "SharesDesk$Phase" "best" "LSharesDesk$Share;") (by decide +kernel)) (fun _ h9 => h9) rfl dX1_pay_34 ?_
  refine va_get (D := g.1) (ci := 3) (v := .ref (bs + 1)) (C := RX3) (T := TX3) (N := 4) hx hb hts (by decide +kernel) hown hK.1 (xr_one hBs.1) 0 rfl rfl 0 (by decide) (hts (.fieldLink RX1 153 "SharesDesk$Share" "rest" "LSharesDesk$Natural;") (by decide +kernel)) (fun _ h9 => h9) rfl dX1_pay_37 ?_
  refine xr_Vv (rest := []) ⟨hx, hb, hml, hown, hts⟩ (KK_ok g) hK (c_X0_copy l g H (f + 216 + 4 * rd) (bs + 1) (rat rd) r (hRa.2 rd hrd) hBs.2.1 (by omega)) (cwV 1 hts gX1_pay_X0_copy rfl rfl rfl (by decide +kernel) ⟨Nat.le_of_ble_eq_true rfl, Nat.le_of_ble_eq_true rfl⟩) (xr_rec hK (hRa.2 rd hrd).1 rfl) rfl hl.1 rfl (Nat.le_of_ble_eq_true rfl) dX1_pay_40 ⟨Nat.le_of_ble_eq_true rfl, Nat.le_of_ble_eq_true rfl⟩ hS (fun q h => by have h : q = f + 216 + 4 * rd + 1 := h; show f ≤ q ∧ q < f + 280; omega) (fun _ H locs hq hz hkp hS => ?_)
  replace hkp := fun (q : Nat) h1 (h2 : ¬ (q = f + 216 + 4 * rd + 1)) => hkp q h1 h2
  clear hz
  replace hO := hO.kept (hkp _ hO.lt (by omega))
  replace hT := hT.kept (fun q hq1 hq2 hq3 => hkp q hq1 (by omega))
  replace hPu := hPu.kept (hkp _ hPu.1.lt (by omega)) (fun v hv => hkp _ (hPu.2 v hv).1.lt (by omega)) (fun v hv => hkp _ (hPu.2 v hv).2.1.lt (by omega))
  replace hLa := hLa.kept (hkp _ hLa.1.lt (by omega)) (fun v hv => hkp _ (hLa.2 v hv).1.lt (by omega)) (fun v hv => hkp _ (hLa.2 v hv).2.1.lt (by omega))
  replace hEm := hEm.kept (hkp _ hEm.lt (by omega))
  replace hPy := hPy.kept (hkp _ hPy.lt (by omega))
  replace hPi := hPi.kept (hkp _ hPi.lt (by omega))
  replace hBs := hBs.kept (fun q hq1 hq2 hq3 => hkp q hq1 (by omega))
  replace hTr := hTr.kept (fun q hq1 hq2 hq3 => hkp q hq1 (by omega))
  replace hBa := hBa.kept (hkp _ hBa.1.lt (by omega)) (hkp _ hBa.2.1.lt (by omega))
  replace hBb := hBb.kept (hkp _ hBb.1.lt (by omega)) (fun v hv => hkp _ (hBb.2 v hv).1.lt (by omega)) (fun v hv => hkp _ (hBb.2 v hv).2.1.lt (by omega))
  replace hRa := hRa.put hq (hkp _ hRa.1.lt (by omega)) (fun u hu hne => hkp _ (hRa.2 u hu).1.lt (by omega)) (fun u hu hne => hkp _ (hRa.2 u hu).2.1.lt (by omega))
  refine lv_iconst (v := 0) hx hb dX1_pay_43 (by decide) ?_
  refine xr_ti (x' := nI (payC pur pay ap p0 k r 0).2) rfl ?_
  refine lv_istore_n (lv' := [(3, .int (nI (payC pur pay ap p0 k r 0).2)), (0, .ref f), (1, .int (nI p0)), (2, .int (nI rd))]) hx hb dX1_pay_44 rfl hl (by decide) rfl (fun ls hl => ?_)
  refine lv_iconst (v := 0) hx hb dX1_pay_45 (by decide) ?_
  refine xr_ti (x' := nI 0) rfl ?_
  refine lv_istore (lv' := [(4, .int (nI 0)), (3, .int (nI (payC pur pay ap p0 k r 0).2)), (0, .ref f), (1, .int (nI p0)), (2, .int (nI rd))]) hx hb dX1_pay_46 hl (by decide) rfl (fun ls hl => ?_)
  exact loop pc 0 (by omega) H locs hO hT hBa hPu hLa hEm hPy hPi hRa hBb hBs hTr hS ls (lv_sub hl [0, 1, 2, 3, 4] rfl)
