/-! class and reference, round by round -/
def mrn (c : Nat → Nat) (vs : Nat) (ap : Nat → Nat) (n : Nat) (M M2 : MPt) : Prop :=
  ∃ (p r k : Nat) (S : Nat → Nat × Nat), (∀ q, q < 16 → affB c vs ap (mD M) (mx M) (mch M) q = true → IsSh (sqp vs ap q) (mx M) (mD M * c q) (S q).1 (S q).2) ∧ mxGo S (affB c vs ap (mD M) (mx M) (mch M)) c 16 = some (p, r, k) ∧
    mD M2 = mD M * k ∧ (∀ v, v < 48 → mx M2 v = mx M v * k - shM (sqp vs ap p) (mx M) r k v) ∧ (∀ q, q < 16 → mch M2 q = (mch M q || decide (q = p))) ∧ (∀ i, i < 16 → mor M2 i = va_up (mor M) n p i ∧ mli M2 i = va_up (mli M) n (mD M * k) i ∧ mra M2 i = va_up (mra M) n r i) ∧ ∀ i v, i < 16 → v < 48 → vs.testBit v = true → mpm M2 i v = if i = n then shM (sqp vs ap p) (mx M) r k v else mpm M i v
def MRch (c : Nat → Nat) (vs : Nat) (ap : Nat → Nat) : Nat → MPt → MPt → Prop
  | 0, x, y => y = x
  | n + 1, x, y => ∃ z, MRch c vs ap n x z ∧ mrn c vs ap n z y
abbrev qop (S : PSt) : Nat := S.2.2.2.1
/-- purses and the base -/
def CoA (vs : Nat) (S : PSt) (M : MPt) : Prop := mD M = qB S ∧ 0 < qB S ∧ (∀ v, v < 48 → mx M v = if vs.testBit v = true then qpur S v else 0) ∧ Enu vs (qpur S) (qpay S) (qpc S) ∧ SortI (qpur S) (qpay S) (qpc S) (qpc S)
/-- what is chosen -/
def CoB (c : Nat → Nat) (n : Nat) (S : PSt) (M : MPt) : Prop := (∀ q, q < 16 → mch M q = (qps S).testBit q) ∧ (∀ i, i < n → mor M i = qpik S i ∧ mli M i = qbas S i ∧ mra M i = qrat S i ∧ qpik S i < 16 ∧ 0 < qrat S i ∧ 0 < qbas S i) ∧ (∀ q, q < 16 → (mch M q = true ↔ ∃ i, i < n ∧ qpik S i = q)) ∧ (∀ i j, i < n → j < n → qpik S i = qpik S j → i = j) ∧ qco S = sg (fun i => c (qpik S i)) n ∧ qps S < 2 ^ 16
/-- what is open -/
def CoO (c : Nat → Nat) (vs : Nat) (ap : Nat → Nat) (S : PSt) (M : MPt) : Prop := ∀ q, q < 16 → ((qop S).testBit q = true → 0 < c q ∧ mch M q = false) ∧ (0 < c q → mch M q = false → (qop S).testBit q = false → sg (suM (sqp vs ap q) (mx M)) 48 < mD M * c q)
/-- what was paid -/
def CoC (vs : Nat) (ap : Nat → Nat) (n : Nat) (S : PSt) (M : MPt) : Prop := ∀ v, v < 48 → vs.testBit v = true → (qemp S v = 16 ∧ 0 < qpur S v ∨ qemp S v < n ∧ qpur S v = 0 ∧ 0 < qlas S v) ∧ ∀ i, i < n → mpm M i v = pyN S ap v i
def CoT (T : Nat) (S : PSt) (M : MPt) : Prop := sg (mx M) 48 + qB S * qco S ≤ qB S * T
theorem sqp_t {vs : Nat} {ap : Nat → Nat} {p v : Nat} : sqp vs ap p v = true ↔ vs.testBit v = true ∧ (ap v).testBit p = true := by
  unfold sqp
  exact Bool.and_eq_true_iff
theorem CoA.sum {vs : Nat} {S : PSt} {M : MPt} (h : CoA vs S M) (ap : Nat → Nat) (q : Nat) : sg (suM (sqp vs ap q) (mx M)) 48 = sg (suM (sqp vs ap q) (qpur S)) 48 := sg_suM (fun v hv hu => by rw [h.2.2.1 v hv, if_pos (sqp_t.mp hu).1])
theorem CoA.sh {vs : Nat} {S : PSt} {M : MPt} (h : CoA vs S M) {ap : Nat → Nat} {q N r k : Nat} (hs : IsSh (sqp vs ap q) (qpur S) N r k) (hN : 0 < N) : IsSh (sqp vs ap q) (mx M) N r k := hs.congr hN (fun v hv => ⟨fun hu _ => ⟨hu, by rw [h.2.2.1 v hv, if_pos (sqp_t.mp hu).1]⟩, fun hu _ => ⟨hu, by rw [h.2.2.1 v hv, if_pos (sqp_t.mp hu).1]⟩⟩)
/-- what the class asks of a project -/
abbrev clS (c ap : Nat → Nat) (S : PSt) : Nat → Bool × Nat × Nat := fun q => shr (supL (qpur S) (qpay S) ap q (qpc S) 0) (qB S * c q)
theorem co_aff {c : Nat → Nat} {vs : Nat} {ap : Nat → Nat} {S : PSt} {M : MPt} (hA : CoA vs S M) (hO : CoO c vs ap S M) : ∀ q, q < 16 → affB c vs ap (mD M) (mx M) (mch M) q = ((qop S).testBit q && (clS c ap S q).1) := fun q hq => by
  have h1 := hO q hq
  unfold affB
  by_cases ho : (qop S).testBit q = true
  · have h2 := h1.1 ho
    have hN : 0 < qB S * c q := Nat.mul_pos hA.2.1 h2.1
    rw [ho, h2.2, decide_eq_true h2.1, Bool.true_and, Bool.true_and, Bool.not_false, Bool.true_and, hA.sum ap q, hA.1]
    have h3 := shr_aff (ap := ap) (p := q) hA.2.2.2.1 hA.2.2.2.2 hN
    by_cases e : qB S * c q ≤ sg (suM (sqp vs ap q) (qpur S)) 48
    · rw [decide_eq_true e, h3.mpr e]
    · rw [decide_eq_false e, bool_f (fun z => e (h3.mp z))]
  · rw [bool_f ho, Bool.false_and]
    by_cases e1 : 0 < c q
    · by_cases e2 : mch M q = true
      · rw [e2]
        simp
      · have := h1.2 e1 (bool_f e2) (bool_f ho)
        rw [decide_eq_false (Nat.not_le.mpr this)]
        simp
    · rw [decide_eq_false e1]
      rfl
/-- both choose the same -/
theorem co_same {c : Nat → Nat} {vs : Nat} {ap : Nat → Nat} {S : PSt} {M : MPt} (hA : CoA vs S M) (hO : CoO c vs ap S M) {S2 : Nat → Nat × Nat} (hS : ∀ q, q < 16 → affB c vs ap (mD M) (mx M) (mch M) q = true → IsSh (sqp vs ap q) (mx M) (mD M * c q) (S2 q).1 (S2 q).2) : (fcGo (clS c ap S) c (qop S) 16).1 = mxGo S2 (affB c vs ap (mD M) (mx M) (mch M)) c 16 := by
  have ha := co_aff (c := c) (ap := ap) hA hO
  rw [fc_mx ha 16 (Nat.le_refl _)]
  refine mxGo_congr 16 (fun q hq hb => ?_)
  have h1 := hS q hq hb
  rw [ha q hq] at hb
  have h2 := Bool.and_eq_true_iff.mp hb
  have hN : 0 < qB S * c q := Nat.mul_pos hA.2.1 ((hO q hq).1 h2.1).1
  have h3 := hA.sh (shr_sh (ap := ap) (p := q) hA.2.2.2.1 hA.2.2.2.2 hN h2.2) hN
  rw [hA.1] at h1
  have h4 := h3.uniq h1
  exact Prod.ext h4.1 h4.2
