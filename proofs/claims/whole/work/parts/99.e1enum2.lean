theorem sq_ok {m : Nat} (hm : 1 ≤ m) (hm4 : m ≤ 4) : ∀ i, (∀ j, j < i → sqN m j < 65536) → 0 < sqN m i ∧ cnt (sqN m i) 40 = m ∧ ∀ t, t < sqN m i → cnt t 40 = m → ∃ j, j < i ∧ sqN m j = t
  | 0, _ => by
    have hp : 2 ^ 1 ≤ 2 ^ m := Nat.pow_le_pow_right (by decide) hm
    obtain ⟨d, hd⟩ : ∃ d, 40 = m + d := ⟨40 - m, by omega⟩
    refine ⟨by show 0 < 2 ^ m - 1; omega, ?_, fun t ht hc => ?_⟩
    · show cnt (2 ^ m - 1) 40 = m
      rw [hd, cnt_wide (by omega), cnt_ones]
    · have ht2 : t < 2 ^ m - 1 := ht
      rw [hd, cnt_wide (by omega)] at hc
      have := (cnt_top m t (by omega)).1 hc
      omega
  | i + 1, h => by
    obtain ⟨a1, a2, a3⟩ := sq_ok hm hm4 i (fun j hj => h j (by omega))
    obtain ⟨b1, b2, b3⟩ := nx_gap a1 (h i (by omega))
    refine ⟨Nat.lt_trans a1 b1, b2.trans a2, fun t ht hc => ?_⟩
    rcases Nat.lt_trichotomy t (sqN m i) with e | e | e
    · obtain ⟨j, hj, q⟩ := a3 t e hc
      exact ⟨j, by omega, q⟩
    · exact ⟨i, by omega, e.symm⟩
    · exact absurd (hc.trans a2.symm) (b3 t e ht)
theorem cnt_16 {t : Nat} (h : t < 65536) : cnt t 40 = cnt t 16 := cnt_wide (k := 16) (n := 24) h
theorem sq_up {m : Nat} (hm : 1 ≤ m) (hm4 : m ≤ 4) {i : Nat} (h : ∀ j, j < i → sqN m j < 65536) : ∀ k, k < i → sqN m k < sqN m i := by
  induction i with
  | zero => intro k hk; exact absurd hk (Nat.not_lt_zero k)
  | succ i ih =>
    intro k hk
    have h1 := (nx_gap (sq_ok hm hm4 i (fun j hj => h j (by omega))).1 (h i (by omega))).1
    by_cases e : k = i
    · rw [e]
      exact h1
    · exact Nat.lt_trans (ih (fun j hj => h j (by omega)) k (by omega)) h1
theorem sg_app (f : Nat → Nat) (a : Nat) : ∀ b, sg f (a + b) = sg f a + sg (fun i => f (a + i)) b
  | 0 => rfl
  | b + 1 => by
    show sg f (a + b) + f (a + b) = sg f a + (sg (fun i => f (a + i)) b + f (a + b))
    rw [sg_app f a b]
    omega
def bn : Nat → Nat → Nat
  | 0, m => if m = 0 then 1 else 0
  | n + 1, m => bn n m + (if m = 0 then 0 else bn n (m - 1))
theorem ct_is : ∀ n m, sg (fun t => if cnt t n = m then 1 else 0) (2 ^ n) = bn n m
  | 0, m => by
    show 0 + (if cnt 0 0 = m then 1 else 0) = if m = 0 then 1 else 0
    have : cnt 0 0 = 0 := rfl
    rw [this]
    by_cases e : m = 0
    · rw [if_pos e, if_pos e.symm]
    · rw [if_neg e, if_neg (fun q => e q.symm)]
  | n + 1, m => by
    have h1 := ct_is n m
    have h2 := ct_is n (m - 1)
    rw [bn, show 2 ^ (n + 1) = 2 ^ n + 2 ^ n by rw [Nat.pow_succ]; omega, sg_app]
    congr 1
    · rw [← h1]
      refine sg_congr _ (fun t ht => ?_)
      rw [cnt_wide (n := 1) ht]
    · by_cases e : m = 0
      · rw [if_pos e]
        refine sg_zero _ (fun t ht => ?_)
        have := cnt_ct2 1 t n ht 1
        rw [Nat.mul_one] at this
        rw [this]
        show (if cnt t n + cnt 1 1 = m then 1 else 0) = 0
        rw [if_neg]
        have : cnt 1 1 = 1 := rfl
        omega
      · rw [if_neg e, ← h2]
        refine sg_congr _ (fun t ht => ?_)
        have := cnt_ct2 1 t n ht 1
        rw [Nat.mul_one] at this
        rw [this]
        have e1 : cnt 1 1 = 1 := rfl
        rw [e1]
        by_cases q : cnt t n = m - 1
        · rw [if_pos q, if_pos (by omega)]
        · rw [if_neg q, if_neg (by omega)]
theorem bn_4 : ∀ m, m ≤ 4 → bn 16 m ≤ 1820 := by decide
theorem sq_end {m : Nat} (hm : 1 ≤ m) (hm4 : m ≤ 4) (h : ∀ j, j < 1820 → sqN m j < 65536) : 65536 ≤ sqN m 1820 := by
  refine Nat.le_of_not_lt (fun hl => ?_)
  have h21 : ∀ j, j < 1821 → sqN m j < 65536 := fun j hj => by
    by_cases e : j = 1820
    · rw [e]
      exact hl
    · exact h j (by omega)
  have hle : ∀ j, j < 1821 → sqN m j ≤ sqN m 1820 := fun j hj => by
    by_cases e : j = 1820
    · rw [e]
      exact Nat.le_refl _
    · exact Nat.le_of_lt (sq_up hm hm4 h j (by omega))
  have hc : ∀ j, j < 1821 → cnt (sqN m j) 16 = m := fun j hj => by
    rw [← cnt_16 (h21 j hj)]
    exact (sq_ok hm hm4 j (fun k hk => h21 k (by omega))).2.1
  have h1 := sg_inj (pay := sqN m) (N := 65536) 1821 (fun v => if v ≤ sqN m 1820 ∧ cnt v 16 = m then 1 else 0) h21 (fun i j hi hj q => by
    rcases Nat.lt_trichotomy i j with e | e | e
    · have := sq_up hm hm4 (fun k hk => h21 k (by omega)) (i := j) i e
      omega
    · exact e
    · have := sq_up hm hm4 (fun k hk => h21 k (by omega)) (i := i) j e
      omega) (fun v hv hn => by
    show (if v ≤ sqN m 1820 ∧ cnt v 16 = m then 1 else 0) = 0
    rw [if_neg]
    intro q
    by_cases e : v = sqN m 1820
    · exact hn 1820 (by omega) e.symm
    · obtain ⟨j, hj, z⟩ := (sq_ok hm hm4 1820 h).2.2 v (by omega) (by rw [cnt_16 hv]; exact q.2)
      exact hn j (by omega) z)
  have h2 : sg (fun i => (fun v => if v ≤ sqN m 1820 ∧ cnt v 16 = m then 1 else 0) (sqN m i)) 1821 = sg (fun _ => 1) 1821 := sg_congr 1821 (fun i hi => if_pos ⟨hle i hi, hc i hi⟩)
  have h3 : sg (fun v => if v ≤ sqN m 1820 ∧ cnt v 16 = m then 1 else 0) 65536 ≤ sg (fun t => if cnt t 16 = m then 1 else 0) 65536 := sg_le 65536 (fun v _ => by
    by_cases q : cnt v 16 = m
    · rw [if_pos q]
      split <;> omega
    · rw [if_neg q, if_neg (fun z => q z.2)]
      exact Nat.le_refl 0)
  have h4 : sg (fun t => if cnt t 16 = m then 1 else 0) 65536 = bn 16 m := ct_is 16 m
  have h5 := bn_4 m hm4
  rw [sg_const] at h2
  rw [h2] at h1
  rw [h4] at h3
  rw [← h1] at h3
  omega
theorem fst_lst {P Q : Nat → Prop} {m : Nat} {r : Int32} (hm : 1 ≤ m) (hm4 : m ≤ 4) (h : FstC P m r) (hQ : ∀ t, 1 ≤ t → t < 65536 → (Q t ↔ cnt t 16 = m ∧ P t)) : Lst Q r := by
  obtain ⟨i, hi, hno, hc⟩ := h
  have hall : ∀ j, j < i → sqN m j < 65536 := fun j hj => (hno j hj).1
  obtain ⟨a1, a2, a3⟩ := sq_ok hm hm4 i hall
  have key : ∀ t, 1 ≤ t → t < 65536 → t < sqN m i → ¬ Q t := fun t t1 t2 t3 hq => by
    have q2 := (hQ t t1 t2).mp hq
    obtain ⟨j, hj, e⟩ := a3 t t3 (by rw [cnt_16 t2]; exact q2.1)
    have := (hno j hj).2
    rw [e] at this
    exact this q2.2
  rcases hc with ⟨c1, c2, c3, rfl⟩ | ⟨c1, rfl⟩
  · refine Or.inl ⟨sqN m i, a1, c2, (hQ _ a1 c2).mpr ⟨by rw [← cnt_16 c2]; exact a2, c3⟩, fun t t1 t2 => key t t1 (by omega) t2, rfl⟩
  · have hbig : 65536 ≤ sqN m i := by
      rcases c1 with e | e
      · subst e
        exact sq_end hm hm4 hall
      · exact e
    exact Or.inr ⟨fun t t1 t2 => key t t1 t2 (by omega), rfl⟩
