/-! a round keeps class and reference together -/
theorem payC_nz {pur pay ap : Nat → Nat} {p k r : Nat} : ∀ n i, i < (payC pur pay ap p k r n).2 → ∃ j, j < n ∧ (payC pur pay ap p k r n).1 i = pay j ∧ nPur ap p k r (pay j) (pur (pay j)) ≠ 0
  | 0, i, h => absurd h (Nat.not_lt_zero i)
  | n + 1, i, h => by
    have ih := payC_nz (pur := pur) (pay := pay) (ap := ap) (p := p) (k := k) (r := r) n
    rw [payC] at h ⊢
    by_cases e : nPur ap p k r (pay n) (pur (pay n)) = 0
    · rw [if_pos e] at h ⊢
      obtain ⟨j, hj, e2⟩ := ih i h
      exact ⟨j, by omega, e2⟩
    · rw [if_neg e] at h ⊢
      dsimp only at h ⊢
      by_cases e3 : i = (payC pur pay ap p k r n).2
      · exact ⟨n, by omega, by rw [e3, va_up_self], e⟩
      · obtain ⟨j, hj, e2⟩ := ih i (by omega)
        exact ⟨j, by omega, by rw [va_up_ne _ _ e3]; exact e2⟩
theorem payC_all {pur pay ap : Nat → Nat} {p k r : Nat} : ∀ n j, j < n → nPur ap p k r (pay j) (pur (pay j)) ≠ 0 → ∃ i, i < (payC pur pay ap p k r n).2 ∧ (payC pur pay ap p k r n).1 i = pay j
  | 0, j, h, _ => absurd h (Nat.not_lt_zero j)
  | n + 1, j, h, hz => by
    have ih := payC_all (pur := pur) (pay := pay) (ap := ap) (p := p) (k := k) (r := r) n j
    rw [payC]
    by_cases e : nPur ap p k r (pay n) (pur (pay n)) = 0
    · rw [if_pos e]
      by_cases e2 : j = n
      · rw [e2] at hz
        exact absurd e hz
      · exact ih (by omega) hz
    · rw [if_neg e]
      dsimp only
      by_cases e2 : j = n
      · exact ⟨_, Nat.lt_succ_self _, by rw [va_up_self, e2]⟩
      · obtain ⟨i, hi, q⟩ := ih (by omega) hz
        exact ⟨i, by omega, by rw [va_up_ne _ _ (by omega)]; exact q⟩
theorem payE_ne {pur emp pay ap : Nat → Nat} {p k r rd v : Nat} : ∀ n, (∀ i, i < n → pay i ≠ v) → payE pur emp pay ap p k r rd n v = emp v
  | 0, _ => rfl
  | n + 1, h => by
    rw [payE]
    split
    · rw [va_up_ne _ _ (fun q => h n (Nat.lt_succ_self n) q.symm)]
      exact payE_ne n (fun i hi => h i (by omega))
    · exact payE_ne n (fun i hi => h i (by omega))
theorem payL_ne {pur las pay ap : Nat → Nat} {p k r v : Nat} : ∀ n, (∀ i, i < n → pay i ≠ v) → payL pur las pay ap p k r n v = las v
  | 0, _ => rfl
  | n + 1, h => by
    rw [payL]
    split
    · rw [va_up_ne _ _ (fun q => h n (Nat.lt_succ_self n) q.symm)]
      exact payL_ne n (fun i hi => h i (by omega))
    · exact payL_ne n (fun i hi => h i (by omega))
theorem payE_at {pur emp pay ap : Nat → Nat} {p k r rd N : Nat} (hinj : ∀ i j, i < N → j < N → pay i = pay j → i = j) : ∀ n, n ≤ N → ∀ j, j < n → payE pur emp pay ap p k r rd n (pay j) = if (ap (pay j)).testBit p = true ∧ pur (pay j) * k ≤ r then rd else emp (pay j)
  | 0, _, j, h => absurd h (Nat.not_lt_zero j)
  | n + 1, hn, j, h => by
    rw [payE]
    by_cases e : j = n
    · subst e
      have hne : ∀ i, i < j → pay i ≠ pay j := fun i hi q => by have := hinj i j (by omega) (by omega) q; omega
      split
      · rw [va_up_self]
      · exact payE_ne j hne
    · have ih := payE_at (pur := pur) (emp := emp) (ap := ap) (p := p) (k := k) (r := r) (rd := rd) hinj n (by omega) j (by omega)
      rw [← ih]
      split
      · rw [va_up_ne _ _ (fun q => e (hinj j n (by omega) (by omega) q))]
      · rfl
theorem payL_at {pur las pay ap : Nat → Nat} {p k r N : Nat} (hinj : ∀ i j, i < N → j < N → pay i = pay j → i = j) : ∀ n, n ≤ N → ∀ j, j < n → payL pur las pay ap p k r n (pay j) = if (ap (pay j)).testBit p = true ∧ pur (pay j) * k ≤ r then pur (pay j) * k else las (pay j)
  | 0, _, j, h => absurd h (Nat.not_lt_zero j)
  | n + 1, hn, j, h => by
    rw [payL]
    by_cases e : j = n
    · subst e
      have hne : ∀ i, i < j → pay i ≠ pay j := fun i hi q => by have := hinj i j (by omega) (by omega) q; omega
      split
      · rw [va_up_self]
      · exact payL_ne j hne
    · have ih := payL_at (pur := pur) (las := las) (ap := ap) (p := p) (k := k) (r := r) hinj n (by omega) j (by omega)
      rw [← ih]
      split
      · rw [va_up_ne _ _ (fun q => e (hinj j n (by omega) (by omega) q))]
      · rfl
/-- a purse after the round: of one who is there -/
theorem payP_v {vs : Nat} {pur pay ap : Nat → Nat} {pc p k r : Nat} (hE : Enu vs pur pay pc) {v : Nat} (hv : v < 48) (hb : vs.testBit v = true) : payP pur pay ap p k r pc v = nPur ap p k r v (pur v) := by
  by_cases e : 0 < pur v
  · obtain ⟨i, hi, q⟩ := hE.2.2 v hv hb e
    have := payP_at (pur := pur) (ap := ap) (p := p) (k := k) (r := r) hE.2.1 pc (Nat.le_refl _) i hi
    rw [q] at this
    exact this
  · have e0 : pur v = 0 := by omega
    rw [payP_ne pc (fun i hi q => by have := (hE.1 i hi).2.2; rw [q] at this; exact e this), e0]
    unfold nPur
    rw [Nat.zero_mul, Nat.zero_sub]
    split <;> rfl
theorem nPur_sh {vs : Nat} {ap x : Nat → Nat} {p k r v y : Nat} (hb : vs.testBit v = true) (hx : x v = y) : nPur ap p k r v y = x v * k - shM (sqp vs ap p) x r k v := by
  unfold nPur shM
  rw [hx]
  by_cases e : (ap v).testBit p = true
  · rw [if_pos e, if_pos (sqp_t.mpr ⟨hb, e⟩)]
    omega
  · rw [if_neg e, if_neg (fun q => e (sqp_t.mp q).2)]
    omega
abbrev nxtS (c ap : Nat → Nat) (n : Nat) (S : PSt) (p r k : Nat) (pay2 : Nat → Nat) : PSt :=
  ((payC (qpur S) (qpay S) ap p k r (qpc S)).2, qps S ||| 2 ^ p, qco S + c p, (fcGo (clS c ap S) c (qop S) 16).2 - 2 ^ p, qB S * k, payP (qpur S) (qpay S) ap p k r (qpc S), payL (qpur S) (qlas S) (qpay S) ap p k r (qpc S), payE (qpur S) (qemp S) (qpay S) ap p k r n (qpc S), pay2, va_up (qpik S) n p, va_up (qrat S) n r, va_up (qbas S) n (qB S * k))
theorem rndR_is {c ap : Nat → Nat} {n : Nat} {S S2 : PSt} (h : rndR c ap n S S2) : ∃ (p r k : Nat) (pay2 : Nat → Nat), (fcGo (clS c ap S) c (qop S) 16).1 = some (p, r, k) ∧ PermI pay2 (payC (qpur S) (qpay S) ap p k r (qpc S)).1 (payC (qpur S) (qpay S) ap p k r (qpc S)).2 ∧ SortI (payP (qpur S) (qpay S) ap p k r (qpc S)) pay2 (payC (qpur S) (qpay S) ap p k r (qpc S)).2 (payC (qpur S) (qpay S) ap p k r (qpc S)).2 ∧ S2 = nxtS c ap n S p r k pay2 := by
  obtain ⟨pc, ps, co, op, B, pur, las, emp, pay, pik, rat, bas⟩ := S
  exact h
theorem CoA.next {c : Nat → Nat} {vs : Nat} {ap : Nat → Nat} {n : Nat} {S : PSt} {M M2 : MPt} {p r k : Nat} {pay2 : Nat → Nat} (h : CoA vs S M) (hk : 0 < k) (hP : PermI pay2 (payC (qpur S) (qpay S) ap p k r (qpc S)).1 (payC (qpur S) (qpay S) ap p k r (qpc S)).2) (hs : SortI (payP (qpur S) (qpay S) ap p k r (qpc S)) pay2 (payC (qpur S) (qpay S) ap p k r (qpc S)).2 (payC (qpur S) (qpay S) ap p k r (qpc S)).2)
    (hD : mD M2 = mD M * k) (hX : ∀ v, v < 48 → mx M2 v = mx M v * k - shM (sqp vs ap p) (mx M) r k v) : CoA vs (nxtS c ap n S p r k pay2) M2 := by
  obtain ⟨h1, h2, h3, h4, h5⟩ := h
  have hE := h4
  refine ⟨by rw [hD, h1], Nat.mul_pos h2 hk, fun v hv => ?_, ⟨fun i hi => ?_, fun i j hi hj e => hP.2.2 i j hi hj e, fun v hv hb hpos => ?_⟩, hs⟩
  · rw [hX v hv]
    by_cases e : vs.testBit v = true
    · rw [if_pos e]
      show _ = payP (qpur S) (qpay S) ap p k r (qpc S) v
      rw [payP_v hE hv e, nPur_sh (x := mx M) e (by rw [h3 v hv, if_pos e])]
    · rw [if_neg e, h3 v hv, if_neg e, Nat.zero_mul, Nat.zero_sub]
  · obtain ⟨y, hy, q⟩ := hP.1 i hi
    obtain ⟨j, hj, q2, hz⟩ := payC_nz (qpc S) y hy
    have q3 : pay2 i = qpay S j := q.trans q2
    have q4 := hE.1 j hj
    show pay2 i < 48 ∧ vs.testBit (pay2 i) = true ∧ 0 < payP (qpur S) (qpay S) ap p k r (qpc S) (pay2 i)
    rw [q3]
    refine ⟨q4.1, q4.2.1, ?_⟩
    rw [payP_at hE.2.1 (qpc S) (Nat.le_refl _) j hj]
    omega
  · have hpos2 : 0 < payP (qpur S) (qpay S) ap p k r (qpc S) v := hpos
    rw [payP_v hE hv hb] at hpos2
    have e : 0 < qpur S v := by
      apply Nat.pos_of_ne_zero
      intro q
      have := nPur_le (ap := ap) (p := p) (k := k) (r := r) (v := v) (x := qpur S v)
      rw [q, Nat.zero_mul] at this
      rw [q] at hpos2
      omega
    obtain ⟨j, hj, q⟩ := hE.2.2 v hv hb e
    obtain ⟨y, hy, q2⟩ := payC_all (pur := qpur S) (pay := qpay S) (ap := ap) (p := p) (k := k) (r := r) (qpc S) j hj (by rw [q]; omega)
    obtain ⟨i, hi, q3⟩ := hP.2.1 y hy
    exact ⟨i, hi, q3.trans (q2.trans q)⟩
