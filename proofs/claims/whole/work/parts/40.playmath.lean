/-! a phase as a row of rounds: pc, ps, co, op, B, pur, las, emp, pay, pik, rat, bas -/
abbrev PSt : Type := Nat × Nat × Nat × Nat × Nat × (Nat → Nat) × (Nat → Nat) × (Nat → Nat) × (Nat → Nat) × (Nat → Nat) × (Nat → Nat) × (Nat → Nat)
def rndR (c ap : Nat → Nat) (rd : Nat) : PSt → PSt → Prop := fun x y => match x with
  | (pc, ps, co, op, B, pur, las, emp, pay, pik, rat, bas) => ∃ (p r k : Nat) (pay2 : Nat → Nat), (fcGo (fun q => shr (supL pur pay ap q pc 0) (B * c q)) c op 16).1 = some (p, r, k) ∧ PermI pay2 (payC pur pay ap p k r pc).1 (payC pur pay ap p k r pc).2 ∧ SortI (payP pur pay ap p k r pc) pay2 (payC pur pay ap p k r pc).2 (payC pur pay ap p k r pc).2 ∧
    y = ((payC pur pay ap p k r pc).2, ps ||| 2 ^ p, co + c p, (fcGo (fun q => shr (supL pur pay ap q pc 0) (B * c q)) c op 16).2 - 2 ^ p, B * k, payP pur pay ap p k r pc, payL pur las pay ap p k r pc, payE pur emp pay ap p k r rd pc, pay2, va_up pik rd p, va_up rat rd r, va_up bas rd (B * k))
def Rch (c ap : Nat → Nat) : Nat → PSt → PSt → Prop
  | 0, x, y => y = x
  | n + 1, x, y => ∃ z, Rch c ap n x z ∧ rndR c ap n z y
def PInv (rd pc op B co : Nat) (pur pay : Nat → Nat) : Prop := pc ≤ 48 ∧ (∀ i, i < pc → pay i < 48) ∧ (∀ i j, i < pc → j < pc → pay i = pay j → i = j) ∧ 0 < B ∧ B ≤ 48 ^ (rd + 1) ∧ (∀ i, i < pc → pur (pay i) ≤ 490000000 * 48 ^ rd) ∧ op < 2 ^ 16 ∧ co ≤ 1000000 * rd
theorem shr_pos : ∀ (L : List Nat) (r : Nat), (shr L r).1 = true → 0 < (shr L r).2.2
  | [], _, h => by cases h
  | x :: xs, r, h => by
    rw [shr] at h ⊢
    split
    · exact Nat.succ_pos _
    · rename_i hn
      rw [if_neg hn] at h
      exact shr_pos xs (r - x) h
theorem fcGo_true {S : Nat → Bool × Nat × Nat} {c : Nat → Nat} {op : Nat} : ∀ n w, (fcGo S c op n).1 = some w → (S w.1).1 = true ∧ (fcGo S c op n).2.testBit w.1 = true
  | 0, w, h => by cases h
  | n + 1, w, h => by
    have ih := fcGo_true (S := S) (c := c) (op := op) n
    have hin := fcGo_in (S := S) (c := c) (op := op) n
    rw [fcGo] at h ⊢
    generalize fcGo S c op n = z at *
    unfold fcStep at h ⊢
    by_cases hb : z.2.testBit n = false
    · rw [if_pos hb] at h ⊢
      exact ih w h
    · rw [if_neg hb] at h ⊢
      have hb2 : z.2.testBit n = true := by cases hq : z.2.testBit n with | false => exact absurd hq hb | true => rfl
      by_cases hs : (S n).1 = false
      · rw [if_pos hs] at h ⊢
        have h1 := ih w h
        refine ⟨h1.1, ?_⟩
        show (z.2 - 2 ^ n).testBit w.1 = true
        have hne : ¬ w.1 = n := by have := (hin w h).1; omega
        rw [clr_bit hb2, h1.2, decide_eq_false hne]
        rfl
      · rw [if_neg hs] at h ⊢
        have hs2 : (S n).1 = true := by cases hq : (S n).1 with | false => exact absurd hq hs | true => rfl
        cases hz : z.1 with
        | none =>
          rw [hz] at h
          cases h
          exact ⟨hs2, hb2⟩
        | some q =>
          rw [hz] at h
          dsimp only at h ⊢
          by_cases ht : bet c n q.1 (S n).2.1 (S n).2.2 q.2.1 q.2.2 = true
          · rw [if_pos ht] at h ⊢
            cases h
            exact ⟨hs2, hb2⟩
          · rw [if_neg ht] at h ⊢
            exact ih w h
theorem payC_in {pur pay ap : Nat → Nat} {p k r : Nat} : ∀ n i, i < (payC pur pay ap p k r n).2 → ∃ j, j < n ∧ (payC pur pay ap p k r n).1 i = pay j
  | 0, i, h => absurd h (Nat.not_lt_zero i)
  | n + 1, i, h => by
    have ih := payC_in (pur := pur) (pay := pay) (ap := ap) (p := p) (k := k) (r := r) n
    rw [payC] at h ⊢
    by_cases e : nPur ap p k r (pay n) (pur (pay n)) = 0
    · rw [if_pos e] at h ⊢
      obtain ⟨j, hj, e2⟩ := ih i h
      exact ⟨j, by omega, e2⟩
    · rw [if_neg e] at h ⊢
      dsimp only at h ⊢
      by_cases e3 : i = (payC pur pay ap p k r n).2
      · exact ⟨n, by omega, by rw [e3, va_up_self]⟩
      · obtain ⟨j, hj, e2⟩ := ih i (by omega)
        exact ⟨j, by omega, by rw [va_up_ne _ _ e3]; exact e2⟩
theorem payC_inj {pur pay ap : Nat → Nat} {p k r N : Nat} (hinj : ∀ i j, i < N → j < N → pay i = pay j → i = j) : ∀ n, n ≤ N → ∀ x y, x < (payC pur pay ap p k r n).2 → y < (payC pur pay ap p k r n).2 → (payC pur pay ap p k r n).1 x = (payC pur pay ap p k r n).1 y → x = y
  | 0, _, x, y, h, _, _ => absurd h (Nat.not_lt_zero x)
  | n + 1, hn, x, y, hx, hy, he => by
    have ih := payC_inj (pur := pur) (pay := pay) (ap := ap) (p := p) (k := k) (r := r) hinj n (by omega)
    have hin := payC_in (pur := pur) (pay := pay) (ap := ap) (p := p) (k := k) (r := r) n
    rw [payC] at hx hy he
    by_cases e : nPur ap p k r (pay n) (pur (pay n)) = 0
    · rw [if_pos e] at hx hy he
      exact ih x y hx hy he
    · rw [if_neg e] at hx hy he
      dsimp only at hx hy he
      generalize payC pur pay ap p k r n = z at *
      by_cases ex : x = z.2
      · by_cases ey : y = z.2
        · omega
        · rw [ex, va_up_self, va_up_ne _ _ ey] at he
          obtain ⟨j, hj, e2⟩ := hin y (by omega)
          rw [e2] at he
          have := hinj n j (by omega) (by omega) he
          omega
      · by_cases ey : y = z.2
        · rw [ey, va_up_self, va_up_ne _ _ ex] at he
          obtain ⟨j, hj, e2⟩ := hin x (by omega)
          rw [e2] at he
          have := hinj j n (by omega) (by omega) he
          omega
        · rw [va_up_ne _ _ ex, va_up_ne _ _ ey] at he
          exact ih x y (by omega) (by omega) he
theorem payP_at {pur pay ap : Nat → Nat} {p k r N : Nat} (hinj : ∀ i j, i < N → j < N → pay i = pay j → i = j) : ∀ n, n ≤ N → ∀ j, j < n → payP pur pay ap p k r n (pay j) = nPur ap p k r (pay j) (pur (pay j))
  | 0, _, j, h => absurd h (Nat.not_lt_zero j)
  | n + 1, hn, j, h => by
    rw [payP]
    by_cases e : j = n
    · rw [e, va_up_self]
    · rw [va_up_ne _ _ (fun q => e (hinj j n (by omega) (by omega) q))]
      exact payP_at hinj n (by omega) j (by omega)
theorem nPur_le {ap : Nat → Nat} {p k r v x : Nat} : nPur ap p k r v x ≤ x * k := by
  unfold nPur
  split
  · exact Nat.sub_le _ _
  · exact Nat.le_refl _
theorem PInv.next {rd pc op B co p k r cp : Nat} {pur pay ap pay2 : Nat → Nat} {op2 : Nat} (h : PInv rd pc op B co pur pay) (hk0 : 0 < k) (hk : k ≤ 48) (hop : op2 ≤ op) (hcp : cp ≤ 1000000) (hp : PermI pay2 (payC pur pay ap p k r pc).1 (payC pur pay ap p k r pc).2) :
    PInv (rd + 1) (payC pur pay ap p k r pc).2 op2 (B * k) (co + cp) (payP pur pay ap p k r pc) pay2 := by
  obtain ⟨h1, h2, h3, h4, h5, h6, h7, h8⟩ := h
  have hle := payC_le (pur := pur) (pay := pay) (ap := ap) (p := p) (k := k) (r := r) pc
  have hin : ∀ i, i < (payC pur pay ap p k r pc).2 → ∃ j, j < pc ∧ pay2 i = pay j := fun i hi => by
    obtain ⟨y, hy, e⟩ := hp.1 i hi
    obtain ⟨j, hj, e2⟩ := payC_in pc y hy
    exact ⟨j, hj, e.trans e2⟩
  refine ⟨by omega, fun i hi => ?_, fun i j hi hj e => hp.2.2 i j hi hj e, Nat.mul_pos h4 hk0, ?_, fun i hi => ?_, by omega, by omega⟩
  · obtain ⟨j, hj, e⟩ := hin i hi
    rw [e]
    exact h2 j hj
  · rw [Nat.pow_succ]
    exact Nat.mul_le_mul h5 hk
  · obtain ⟨j, hj, e⟩ := hin i hi
    rw [e, payP_at h3 pc (Nat.le_refl pc) j hj, Nat.pow_succ, ← Nat.mul_assoc]
    exact Nat.le_trans nPur_le (Nat.mul_le_mul (h6 j hj) hk)
theorem vlG_in {pay : Nat → Nat} {vs : Nat} : ∀ n i, i < (vlG pay vs n).2 → (vlG pay vs n).1 i < n ∧ vs.testBit ((vlG pay vs n).1 i) = true
  | 0, i, h => absurd h (Nat.not_lt_zero i)
  | n + 1, i, h => by
    have ih := vlG_in (pay := pay) (vs := vs) n
    rw [vlG] at h ⊢
    by_cases e : vs.testBit n = true
    · rw [if_pos e] at h ⊢
      dsimp only at h ⊢
      by_cases e3 : i = (vlG pay vs n).2
      · rw [e3, va_up_self]
        exact ⟨Nat.lt_succ_self n, e⟩
      · rw [va_up_ne _ _ e3]
        have := ih i (by omega)
        exact ⟨by omega, this.2⟩
    · rw [if_neg e] at h ⊢
      have := ih i h
      exact ⟨by omega, this.2⟩
theorem vlG_inj {pay : Nat → Nat} {vs : Nat} : ∀ n x y, x < (vlG pay vs n).2 → y < (vlG pay vs n).2 → (vlG pay vs n).1 x = (vlG pay vs n).1 y → x = y
  | 0, x, y, h, _, _ => absurd h (Nat.not_lt_zero x)
  | n + 1, x, y, hx, hy, he => by
    have ih := vlG_inj (pay := pay) (vs := vs) n
    have hin := vlG_in (pay := pay) (vs := vs) n
    rw [vlG] at hx hy he
    by_cases e : vs.testBit n = true
    · rw [if_pos e] at hx hy he
      dsimp only at hx hy he
      generalize vlG pay vs n = z at *
      by_cases ex : x = z.2
      · by_cases ey : y = z.2
        · omega
        · rw [ex, va_up_self, va_up_ne _ _ ey] at he
          have := (hin y (by omega)).1
          omega
      · by_cases ey : y = z.2
        · rw [ey, va_up_self, va_up_ne _ _ ex] at he
          have := (hin x (by omega)).1
          omega
        · rw [va_up_ne _ _ ex, va_up_ne _ _ ey] at he
          exact ih x y (by omega) (by omega) he
    · rw [if_neg e] at hx hy he
      exact ih x y hx hy he
theorem puG_at {pur : Nat → Nat} {vs x : Nat} : ∀ n v, v < n → vs.testBit v = true → puG pur vs x n v = x
  | 0, v, h, _ => absurd h (Nat.not_lt_zero v)
  | n + 1, v, h, hb => by
    rw [puG]
    by_cases e : vs.testBit n = true
    · rw [if_pos e]
      by_cases e2 : v = n
      · rw [e2, va_up_self]
      · rw [va_up_ne _ _ e2]
        exact puG_at n v (by omega) hb
    · rw [if_neg e]
      exact puG_at n v (by have : ¬ v = n := fun q => e (q ▸ hb); omega) hb
theorem PInv.start {c pur pay : Nat → Nat} {vs X : Nat} (hX : X ≤ 490000000) (hcn : cnt vs 48 ≤ 48) : PInv 0 (vlG pay vs 48).2 (setOf c 16) (if cnt vs 48 = 0 then 1 else cnt vs 48) 0 (puG pur vs X 48) (vlG pay vs 48).1 := by
  refine ⟨vlG_le 48, fun i hi => (vlG_in 48 i hi).1, fun i j hi hj e => vlG_inj 48 i j hi hj e, by split <;> omega, by split <;> omega, fun i hi => ?_, setOf_lt c 16, Nat.zero_le _⟩
  rw [puG_at 48 _ (vlG_in 48 i hi).1 (vlG_in 48 i hi).2]
  omega
theorem PInv.bnd {rd pc op B co : Nat} {pur pay : Nat → Nat} (h : PInv rd pc op B co pur pay) (hrd : rd < 16) : B * 48000000 < 2 ^ 128 ∧ ∀ i, i < pc → pur (pay i) * 48 < 2 ^ 128 := by
  obtain ⟨h1, h2, h3, h4, h5, h6, h7, h8⟩ := h
  have e1 : 48 ^ (rd + 1) ≤ 48 ^ 16 := Nat.pow_le_pow_right (by decide) (by omega)
  have e2 : 48 ^ rd ≤ 48 ^ 15 := Nat.pow_le_pow_right (by decide) (by omega)
  have n1 : (48 : Nat) ^ 16 * 48000000 < 2 ^ 128 := by decide
  have n2 : 490000000 * (48 : Nat) ^ 15 * 48 < 2 ^ 128 := by decide
  refine ⟨Nat.lt_of_le_of_lt (Nat.mul_le_mul_right _ (Nat.le_trans h5 e1)) n1, fun i hi => Nat.lt_of_le_of_lt (Nat.mul_le_mul_right _ (Nat.le_trans (h6 i hi) (Nat.mul_le_mul_left _ e2))) n2⟩
