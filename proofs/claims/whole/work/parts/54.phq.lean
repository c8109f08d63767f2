/-! a phase that is asked: what must hold, what is answered -/
def PhQ (c : Nat → Nat) (vs : Nat) (ap : Nat → Nat) (n : Nat) (S : PSt) : Prop :=
  n ≤ 16 ∧ (∀ i, i < n → qpik S i < 16) ∧ (∀ v, v < 48 → qemp S v ≤ 16) ∧ qps S < 2 ^ 16 ∧ qpc S ≤ 48 ∧ (∀ i, i < qpc S → qpay S i < 48) ∧ qco S < 2 ^ 31 ∧ ((vs ≠ 0 ∨ ∃ p, p < 16 ∧ 0 < c p) → 0 < qB S ∧ Smooth (qB S)) ∧ (∀ r, r < n → 0 < qbas S r ∧ Smooth (qbas S r)) ∧ qB S * 48000000 < 2 ^ 128 ∧ (∀ p, p < 16 → 0 < c p → rnd (qpik S) n (nI p) = -1 → (supL (qpur S) (qpay S) ap p (qpc S) 0).sum ≤ qB S * c p)
/-- how a result came -/
def Res (c : Nat → Nat) (vs : Nat) (ap : Nat → Nat) (bu rz n : Nat) (S : PSt) : Prop :=
  ∃ pur las emp pay pik rat bas : Nat → Nat, n ≤ 16 ∧ Rch c ap n ((vlG pay vs 48).2, 0, 0, setOf c 16, (if cnt vs 48 = 0 then 1 else cnt vs 48), puG pur vs (bu + cnt vs 48 * rz) 48, las, emG emp 48, (vlG pay vs 48).1, pik, rat, bas) S ∧ (n = 16 ∨ bu < qco S ∨ (fcGo (fun q => shr (supL (qpur S) (qpay S) ap q (qpc S) 0) (qB S * c q)) c S.2.2.2.1 16).1 = none) ∧ PInv n (qpc S) S.2.2.2.1 (qB S) (qco S) (qpur S) (qpay S)
theorem rnd_cases {pik : Nat → Nat} {n : Nat} {i0 : Int32} : (rnd pik n i0 = -1 ∧ ∀ j, j < n → nI (pik j) ≠ i0) ∨ ∃ r, r < n ∧ rnd pik n i0 = nI r ∧ nI (pik r) = i0 ∧ ∀ j, j < r → nI (pik j) ≠ i0 := by
  by_cases h : ∃ r, r < n ∧ nI (pik r) = i0
  · obtain ⟨r, hr, hmin⟩ := pk_least (fun r => r < n ∧ nI (pik r) = i0) h
    right
    have hm : ∀ j, j < r → nI (pik j) ≠ i0 := fun j hj q => hmin j hj ⟨by omega, q⟩
    exact ⟨r, hr.1, rndF_yes n 0 (Nat.zero_le r) (by omega) (fun j _ hj => hm j hj) hr.2, hr.2, hm⟩
  · left
    have hm : ∀ j, j < n → nI (pik j) ≠ i0 := fun j hj q => h ⟨j, hj, q⟩
    exact ⟨rndF_no n 0 (fun j _ hj => hm j (by omega)), hm⟩
/-- a fraction's word, in lowest terms -/
def wQ (n b : Nat) (part word : Int32) : Int32 := rwd (n / Nat.gcd n b) (b / Nat.gcd n b) part word
theorem wQ_0 {b : Nat} (hb : 0 < b) (part word : Int32) : wQ 0 b part word = rwd 0 1 part word := by
  unfold wQ
  rw [Nat.gcd_zero_left, Nat.zero_div, Nat.div_self hb]
/-- what voter v paid in round r -/
def pyN (S : PSt) (ap : Nat → Nat) (v r : Nat) : Nat := if qemp S v < r ∨ (ap v).testBit (qpik S r) = false then 0 else if r = qemp S v then qlas S v else qrat S r
def aCh (n : Nat) (S : PSt) (i : Int32) : Int32 := if inR i n = true then nI (qpik S (ix i)) else -1
def aPu (vs : Nat) (S : PSt) (v part word : Int32) : Int32 := if isV vs v = true then wQ (qpur S (ix v)) (qB S) part word else 0
def aPd (vs : Nat) (ap : Nat → Nat) (n : Nat) (S : PSt) (v p part word : Int32) : Int32 := if isV vs v = true then (if rnd (qpik S) n p = -1 then rwd 0 1 part word else wQ (pyN S ap (ix v) (ix (rnd (qpik S) n p))) (qbas S (ix (rnd (qpik S) n p))) part word) else 0
def aRa (n : Nat) (S : PSt) (p part word : Int32) : Int32 := if rnd (qpik S) n p = -1 then 0 else wQ (qrat S (ix (rnd (qpik S) n p))) (qbas S (ix (rnd (qpik S) n p))) part word
def aMi (c ap : Nat → Nat) (n : Nat) (S : PSt) (p part word : Int32) : Int32 := if oDr c p = true ∧ rnd (qpik S) n p = -1 then wQ (qB S * c (ix p) - (supL (qpur S) (qpay S) ap (ix p) (qpc S) 0).sum) (qB S) part word else 0
def aSe (vs : Nat) (ap : Nat → Nat) (S : PSt) (v : Int32) : Int32 := if isV vs v = true then nI (cnt (ap (ix v) &&& qps S) 32) else 0
theorem isV_of {vs : Nat} {v : Int32} (h : isV vs v = true) : ∃ j, j < 48 ∧ v = nI j ∧ vs.testBit j = true ∧ vs ≠ 0 := by
  have h2 : inR v 48 = true ∧ vs.testBit (ix v) = true := by unfold isV at h; exact Bool.and_eq_true_iff.mp h
  obtain ⟨j, hj, rfl⟩ := inR_of h2.1 (by decide)
  have h3 := h2.2
  rw [ix_nI (by omega)] at h3
  exact ⟨j, hj, rfl, h3, fun q => by rw [q, Nat.zero_testBit] at h3; cases h3⟩
