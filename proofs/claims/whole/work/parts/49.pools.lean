/-! pools that are being filled -/
theorem xr_qa.to {H : Heap} {a : Nat} {cA : ClassId} {n : Nat} {f g : Nat → Option Nat} (h : xr_qa H a cA n f) (hfg : ∀ j, j < n → f j = g j) : xr_qa H a cA n g := by
  unfold xr_qa at h ⊢
  rw [h, vp_cell_q, vp_cell_q]
  exact congrArg some (xr_arrV_to fun j hj => by rw [hfg j hj])
def PoolP (g : WG) (H : Heap) (q b n k : Nat) : Prop := xr_qa H q (gN g) n (fun i => if i < k then some (b + 4 * i) else none) ∧ ∀ i, i < k → NatAt g H (b + 4 * i) 0
theorem PoolP.kept {g : WG} {H H1 : Heap} {q b n k : Nat} (h : PoolP g H q b n k) (h0 : H1[q]? = H[q]?) (h1 : ∀ v, v < k → H1[b + 4 * v]? = H[b + 4 * v]?) (h2 : ∀ v, v < k → H1[b + 4 * v + 1]? = H[b + 4 * v + 1]?) : PoolP g H1 q b n k :=
  ⟨h.1.kept h0, fun v hv => (h.2 v hv).kept (h1 v hv) (h2 v hv)⟩
theorem PoolP.no {g : WG} {H : Heap} {q b n : Nat} (h : xr_qa H q (gN g) n (fun _ => none)) : PoolP g H q b n 0 := ⟨h.to fun j _ => by rw [if_neg (Nat.not_lt_zero j)], fun i hi => absurd hi (Nat.not_lt_zero i)⟩
theorem PoolP.more {g : WG} {H : Heap} {q b n k : Nat} (h : xr_qa H q (gN g) n (va_up (fun i => if i < k then some (b + 4 * i) else none) k (some (b + 4 * k)))) (hN : NatAt g H (b + 4 * k) 0) (h2 : ∀ i, i < k → NatAt g H (b + 4 * i) 0) : PoolP g H q b n (k + 1) := by
  refine ⟨h.to fun j _ => ?_, fun i hi => ?_⟩
  · by_cases e : j = k
    · subst e
      rw [va_up_self, if_pos (Nat.lt_succ_self j)]
    · rw [va_up_ne _ _ e]
      by_cases h3 : j < k
      · rw [if_pos h3, if_pos (by omega)]
      · rw [if_neg h3, if_neg (by omega)]
  · by_cases e : i = k
    · subst e
      exact hN
    · exact h2 i (by omega)
theorem PoolP.fin {g : WG} {H : Heap} {q b n : Nat} (h : PoolP g H q b n n) : PoolAt g H q b n (fun _ => 0) := ⟨h.1.to fun j hj => by rw [if_pos hj], h.2⟩
