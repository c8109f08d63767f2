/-! nothing is made: what is left and what was spent -/
theorem mini_cons {c : Nat → Nat} {vs bu rz : Nat} {M : MPt} (h : MIni vs bu rz M) : sg (mx M) 48 + mD M * sg (fun i => c (mor M i)) 0 ≤ mD M * (bu + cnt vs 48 * rz) ∧ 0 < mD M := by
  obtain ⟨h1, h2, -⟩ := h
  have e1 : sg (mx M) 48 = cnt vs 48 * (bu + cnt vs 48 * rz) := by
    rw [cnt_sg vs 48, ← sg_mul]
    refine sg_congr 48 (fun v hv => ?_)
    rw [h2 v hv, ← cnt_sg]
    split
    · rw [Nat.one_mul]
    · rw [Nat.zero_mul]
  refine ⟨?_, by rw [h1]; split <;> omega⟩
  show sg (mx M) 48 + mD M * 0 ≤ _
  rw [e1, h1, Nat.mul_zero, Nat.add_zero]
  refine Nat.mul_le_mul_right _ ?_
  split <;> omega
theorem mrn_cons {c : Nat → Nat} {vs : Nat} {ap : Nat → Nat} {n T : Nat} {M M2 : MPt} (hn : n < 16) (h : mrn c vs ap n M M2) (hc : sg (mx M) 48 + mD M * sg (fun i => c (mor M i)) n ≤ mD M * T ∧ 0 < mD M) : sg (mx M2) 48 + mD M2 * sg (fun i => c (mor M2 i)) (n + 1) ≤ mD M2 * T ∧ 0 < mD M2 := by
  obtain ⟨p, r, k, S, b1, b2, b3, b4, b5, b6, b7⟩ := h
  obtain ⟨m1, m2, m3⟩ := mxGo_some 16 _ b2
  have hs := b1 p m1 m2
  have m4 : (r, k) = S p := m3
  rw [← m4] at hs
  have hs : IsSh (sqp vs ap p) (mx M) (mD M * c p) r k := hs
  have h1 := hs.sum
  have h2 : sg (mx M2) 48 + sg (shM (sqp vs ap p) (mx M) r k) 48 = sg (mx M) 48 * k := by
    rw [← sg_add, ← sg_mul]
    refine sg_congr 48 (fun v hv => ?_)
    rw [b4 v hv]
    have : shM (sqp vs ap p) (mx M) r k v ≤ mx M v * k := shM_le
    omega
  have h3 : (sg (mx M) 48 + mD M * sg (fun i => c (mor M i)) n) * k ≤ mD M * T * k := Nat.mul_le_mul_right k hc.1
  have h4 : sg (fun i => c (mor M2 i)) (n + 1) = sg (fun i => c (mor M i)) n + c p := by
    rw [sg, (b6 n (by omega)).1, va_up_self]
    congr 1
    refine sg_congr n (fun i hi => ?_)
    rw [(b6 i (by omega)).1, va_up_ne _ _ (by omega)]
  rw [h4, b3]
  refine ⟨?_, Nat.mul_pos hc.2 hs.1⟩
  rw [Nat.add_mul] at h3
  have e1 : mD M * k * (sg (fun i => c (mor M i)) n + c p) = mD M * sg (fun i => c (mor M i)) n * k + mD M * c p * k := by rw [Nat.mul_add, Nat.mul_right_comm, Nat.mul_right_comm (mD M) k (c p)]
  have e2 : mD M * k * T = mD M * T * k := Nat.mul_right_comm ..
  rw [h1] at h2
  omega
theorem mrch_cons {c : Nat → Nat} {vs : Nat} {ap : Nat → Nat} {bu rz : Nat} {M0 : MPt} (h0 : MIni vs bu rz M0) : ∀ n (M : MPt), n ≤ 16 → MRch c vs ap n M0 M → sg (mx M) 48 + mD M * sg (fun i => c (mor M i)) n ≤ mD M * (bu + cnt vs 48 * rz) ∧ 0 < mD M
  | 0, M, _, h => by
    cases h
    exact mini_cons h0
  | n + 1, M, hn, ⟨z, h1, h2⟩ => mrn_cons (by omega) h2 (mrch_cons h0 n z (by omega) h1)
theorem mres_cons {c : Nat → Nat} {vs : Nat} {ap : Nat → Nat} {bu n : Nat} {M : MPt} (h : MRes c vs ap bu 0 n M) : sg (fun i => c (mor M i)) n ≤ bu := by
  obtain ⟨hn, M0, h0, h1, -⟩ := h
  have h2 := mrch_cons h0 n M hn h1
  rw [Nat.mul_zero, Nat.add_zero] at h2
  have h3 : mD M * sg (fun i => c (mor M i)) n ≤ mD M * bu := by omega
  exact Nat.le_of_mul_le_mul_left h3 h2.2
/-- at a raise of rz nothing is overspent -/
def OKm (c : Nat → Nat) (vs : Nat) (ap : Nat → Nat) (bu rz : Nat) : Prop := ∃ n M, MRes c vs ap bu rz n M ∧ sg (fun i => c (mor M i)) n ≤ bu
def NOm (c : Nat → Nat) (vs : Nat) (ap : Nat → Nat) (bu rz : Nat) : Prop := ∃ n M, MRes c vs ap bu rz n M ∧ bu < sg (fun i => c (mor M i)) n
