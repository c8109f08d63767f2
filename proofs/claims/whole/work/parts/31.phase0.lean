/-! a phase: its cells. It lies at f .. f + 279: its object, base (f + 1), seven arrays (f + 3 .. f + 9), two shares (f + 10, f + 17), purses (f + 24 + 4 v), last pays (f + 26 + 4 v), rates (f + 216 + 4 r), bases (f + 218 + 4 r) -/
abbrev phF (f t pc pk ps co op bs tr : Nat) : List Value := [.ref t, .ref (f + 1), .ref (f + 3), .ref (f + 4), .ref (f + 5), .ref (f + 6), .int (nI pc), .ref (f + 7), .int (nI pk), .int (nI ps), .int (nI co), .ref (f + 8), .ref (f + 9), .int (nI op), .ref bs, .ref tr]
/-- n numbers, the i-th at b + 4 i, in the array at q -/
def PoolAt (g : WG) (H : Heap) (q b n : Nat) (x : Nat → Nat) : Prop := xr_qa H q (gN g) n (fun v => some (b + 4 * v)) ∧ ∀ v, v < n → NatAt g H (b + 4 * v) (x v)
theorem PoolAt.kept {g : WG} {H H1 : Heap} {q b n : Nat} {x : Nat → Nat} (h : PoolAt g H q b n x) (h0 : H1[q]? = H[q]?) (h1 : ∀ v, v < n → H1[b + 4 * v]? = H[b + 4 * v]?) (h2 : ∀ v, v < n → H1[b + 4 * v + 1]? = H[b + 4 * v + 1]?) : PoolAt g H1 q b n x :=
  ⟨h.1.kept h0, fun v hv => (h.2 v hv).kept (h1 v hv) (h2 v hv)⟩
theorem PoolAt.put {g : WG} {H H1 : Heap} {q b n w y : Nat} {x : Nat → Nat} (h : PoolAt g H q b n x) (hy : NatAt g H1 (b + 4 * w) y) (h0 : H1[q]? = H[q]?) (h1 : ∀ v, v < n → v ≠ w → H1[b + 4 * v]? = H[b + 4 * v]?) (h2 : ∀ v, v < n → v ≠ w → H1[b + 4 * v + 1]? = H[b + 4 * v + 1]?) : PoolAt g H1 q b n (va_up x w y) := by
  refine ⟨h.1.kept h0, fun v hv => ?_⟩
  by_cases e : v = w
  · subst e
    rw [va_up_self]
    exact hy
  · rw [va_up_ne _ _ e]
    exact (h.2 v hv).kept (h1 v hv e) (h2 v hv e)
section XPL
variable {p : Program} {l : Launch} {e : Env} {R : Room} {s : State} {m : MethodId} {args : Array Value} {below : List Frame} {meth : Method} {c : Code} {H : Heap} {locs : List Loc} {cells slots : Nat} {Q : State → Prop}
variable {cc : ByteArray} {pc : Nat} {ls : Array Slot} {rest : List Value} {g : WG}
theorem xr_pl (hx : p.tables.exec = Jvm.exec) (hb : c.code = cc) (hK : KK g s) {q b n : Nat} {x : Nat → Nat} (h : PoolAt g H q b n x) {i : Nat} (hi : i < n) (hn : n < 2 ^ 31) (hdg : decode cc pc = .ok (.aaload, 1))
    (kk : W p l e R s m args below meth c H locs cells slots Q (F0 m (pc + 1) ls (.ref (b + 4 * i) :: rest))) : W p l e R s m args below meth c H locs cells slots Q (F0 m pc ls (.int (nI i) :: .ref q :: rest)) :=
  xr_aald hx hb hK.1 h.1 2 rfl (vp_in_nI hi hn) (by rw [nI_clamp (Nat.lt_trans hi hn)]) hdg kk
end XPL
/-! shares: the purses of those who support, poorest first -/
def supL (pur pay ap : Nat → Nat) (p : Nat) : Nat → Nat → List Nat
  | 0, _ => []
  | n + 1, i => if (ap (pay i)).testBit p = true then pur (pay i) :: supL pur pay ap p n (i + 1) else supL pur pay ap p n (i + 1)
theorem supL_y {pur pay ap : Nat → Nat} {p n i : Nat} (h : (ap (pay i)).testBit p = true) : supL pur pay ap p (n + 1) i = pur (pay i) :: supL pur pay ap p n (i + 1) := by rw [supL, if_pos h]
theorem supL_n {pur pay ap : Nat → Nat} {p n i : Nat} (h : (ap (pay i)).testBit p = false) : supL pur pay ap p (n + 1) i = supL pur pay ap p n (i + 1) := by rw [supL, if_neg (by rw [h]; decide)]
theorem supL_len {pur pay ap : Nat → Nat} {p : Nat} : ∀ n i, (supL pur pay ap p n i).length ≤ n
  | 0, _ => Nat.le_refl 0
  | n + 1, i => by
    have := supL_len (pur := pur) (pay := pay) (ap := ap) (p := p) n (i + 1)
    rw [supL]
    split
    · rw [List.length_cons]; omega
    · omega
def shr : List Nat → Nat → Bool × Nat × Nat
  | [], r => (false, r, 0)
  | x :: xs, r => if r ≤ x * (xs.length + 1) then (true, r, xs.length + 1) else shr xs (r - x)
