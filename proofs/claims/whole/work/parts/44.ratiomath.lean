/-! a fraction in lowest terms -/
def RatioAt (g : WG) (H : Heap) (a t b : Nat) : Prop := obj g H a 2 [.ref (a + 1), .ref (a + 3)] ∧ NatAt g H (a + 1) t ∧ NatAt g H (a + 3) b
theorem RatioAt.kept {g : WG} {H H1 : Heap} {a t b : Nat} (h : RatioAt g H a t b) (hk : ∀ q, q < H.size → a ≤ q → q < a + 5 → H1[q]? = H[q]?) : RatioAt g H1 a t b :=
  ⟨h.1.kept (hk _ h.1.lt (by omega) (by omega)), h.2.1.kept (hk _ h.2.1.1.lt (by omega) (by omega)) (hk _ h.2.1.2.1.lt (by omega) (by omega)), h.2.2.kept (hk _ h.2.2.1.lt (by omega) (by omega)) (hk _ h.2.2.2.1.lt (by omega) (by omega))⟩
/-- a common factor taken out -/
def Red (n b t u : Nat) : Prop := ∃ c, 0 < c ∧ n = t * c ∧ b = u * c
theorem Red.rf {n b : Nat} : Red n b n b := ⟨1, by decide, (Nat.mul_one _).symm, (Nat.mul_one _).symm⟩
theorem Red.step {n b t u q : Nat} (h : Red n b t u) (hq : 0 < q) (h1 : t % q = 0) (h2 : u % q = 0) : Red n b (t / q) (u / q) := by
  obtain ⟨c, hc, e1, e2⟩ := h
  refine ⟨q * c, Nat.mul_pos hq hc, ?_, ?_⟩
  · rw [← Nat.mul_assoc, Nat.div_mul_cancel (Nat.dvd_of_mod_eq_zero h1)]; exact e1
  · rw [← Nat.mul_assoc, Nat.div_mul_cancel (Nat.dvd_of_mod_eq_zero h2)]; exact e2
theorem Red.trans {n b t u t' u' : Nat} (h : Red n b t u) (h2 : Red t u t' u') : Red n b t' u' := by
  obtain ⟨c, hc, e1, e2⟩ := h
  obtain ⟨d, hd, e3, e4⟩ := h2
  exact ⟨d * c, Nat.mul_pos hd hc, by rw [e1, e3, Nat.mul_assoc], by rw [e2, e4, Nat.mul_assoc]⟩
theorem Red.pos {n b t u : Nat} (h : Red n b t u) (hb : 0 < b) : 0 < u := by
  obtain ⟨c, hc, e1, e2⟩ := h
  exact Nat.pos_of_ne_zero fun q => by rw [q, Nat.zero_mul] at e2; omega
theorem Red.le {n b t u : Nat} (h : Red n b t u) : t ≤ n ∧ u ≤ b := by
  obtain ⟨c, hc, e1, e2⟩ := h
  rw [e1, e2]
  exact ⟨Nat.le_mul_of_pos_right _ hc, Nat.le_mul_of_pos_right _ hc⟩
theorem Red.no {n b t u q : Nat} (h : Red n b t u) (hn : ¬ (n % q = 0 ∧ b % q = 0)) : ¬ (t % q = 0 ∧ u % q = 0) := fun w => by
  obtain ⟨c, hc, e1, e2⟩ := h
  exact hn ⟨by rw [e1, Nat.mul_mod, w.1, Nat.zero_mul, Nat.zero_mod], by rw [e2, Nat.mul_mod, w.2, Nat.zero_mul, Nat.zero_mod]⟩
/-- no prime factor but those of the table -/
def Smooth (b : Nat) : Prop := ∀ d, 1 < d → d ∣ b → ∃ j, j < 15 ∧ d % pr15 j = 0
theorem sm_one : Smooth 1 := fun d h1 h2 => by have := Nat.le_of_dvd (by decide) h2; omega
theorem sm_dec : ∀ d, d < 49 → 1 < d → ∃ j, j < 15 ∧ d % pr15 j = 0 := by decide
theorem sm_mul {b k : Nat} (h : Smooth b) (h0 : 0 < k) (hk : k ≤ 48) : Smooth (b * k) := by
  intro d h1 h2
  by_cases e : 1 < Nat.gcd d b
  · obtain ⟨j, hj, hm⟩ := h _ e (Nat.gcd_dvd_right d b)
    refine ⟨j, hj, Nat.mod_eq_zero_of_dvd ?_⟩
    exact Nat.dvd_trans (Nat.dvd_of_mod_eq_zero hm) (Nat.gcd_dvd_left d b)
  · have hg : Nat.gcd d b = 1 := by
      have := Nat.gcd_pos_of_pos_left b (show 0 < d by omega)
      omega
    have hd : d ∣ k := Nat.Coprime.dvd_of_dvd_mul_left hg h2
    exact sm_dec d (by have := Nat.le_of_dvd h0 hd; omega) h1
theorem Red.fin {n b t u : Nat} (h : Red n b t u) (hb : 0 < b) (hs : Smooth b) (hno : ∀ j, j < 15 → ¬ (t % pr15 j = 0 ∧ u % pr15 j = 0)) : t = n / Nat.gcd n b ∧ u = b / Nat.gcd n b := by
  have hu := h.pos hb
  obtain ⟨c, hc, e1, e2⟩ := h
  have hg : Nat.gcd t u = 1 := by
    have hp := Nat.gcd_pos_of_pos_right t hu
    by_cases e : 1 < Nat.gcd t u
    · obtain ⟨j, hj, hm⟩ := hs _ e (Nat.dvd_trans (Nat.gcd_dvd_right t u) ⟨c, e2⟩)
      have hd := Nat.dvd_of_mod_eq_zero hm
      exact absurd ⟨Nat.mod_eq_zero_of_dvd (Nat.dvd_trans hd (Nat.gcd_dvd_left t u)), Nat.mod_eq_zero_of_dvd (Nat.dvd_trans hd (Nat.gcd_dvd_right t u))⟩ (hno j hj)
    · omega
  have hgc : Nat.gcd n b = c := by rw [e1, e2, Nat.gcd_mul_right, hg, Nat.one_mul]
  rw [hgc, e1, e2, Nat.mul_div_cancel _ hc, Nat.mul_div_cancel _ hc]
  exact ⟨rfl, rfl⟩
theorem pr15_b : ∀ j, j < 15 → 1 < pr15 j ∧ pr15 j < 48 := by decide
theorem can_half {u q i B : Nat} (hq : 1 < q) (h : u * 2 ^ i ≤ B) : u / q * 2 ^ (i + 1) ≤ B := by
  have h1 : u / q * 2 ≤ u := Nat.le_trans (Nat.mul_le_mul_left _ hq) (Nat.div_mul_le_self u q)
  rw [Nat.pow_succ, Nat.mul_comm (2 ^ i) 2, ← Nat.mul_assoc]
  exact Nat.le_trans (Nat.mul_le_mul_right _ h1) h
/-- word w of part r of a fraction -/
def rwd (t b : Nat) (part word : Int32) : Int32 := if part = 0 then (if 0 ≤ word.toInt ∧ word.toInt < 4 then wd t word.toInt.toNat else 0) else if part = 1 then (if 0 ≤ word.toInt ∧ word.toInt < 4 then wd b word.toInt.toNat else 0) else 0
theorem PrimesAt.l1 {g : WG} {H : Heap} (h : PrimesAt g H) : g.2.2.1.1 < H.size := (Array.getElem?_eq_some_iff.mp h.1).1
theorem PrimesAt.l2 {g : WG} {H : Heap} (h : PrimesAt g H) : g.2.2.2.2.1 < H.size := (Array.getElem?_eq_some_iff.mp h.2).1
