/-! boolean arrays -/
section XZ
variable {p : Program} {l : Launch} {e : Env} {R : Room} {s : State} {m : MethodId} {args : Array Value} {below : List Frame} {meth : Method} {c : Code} {H : Heap} {locs : List Loc} {cells slots : Nat} {Q : State → Prop}
variable {cc : ByteArray} {pc : Nat} {ls : Array Slot} {rest : List Value} {D : va_G} {cl : List vw_C} {A : Nat → Prop} {a : Nat} {tys : List (ClassId × FieldType)} {H0 : Heap}
theorem xr_zald (hexec : p.tables.exec = Jvm.exec) (hb : c.code = cc) (hK : va_K D cl tys s) {cA : ClassId} {n : Nat} {f : Nat → Int32} (ha : xr_ia H a cA n f) (t0 : Nat) (ht : tys[t0]? = some (cA, .boolean)) {i : Int32} (hin : vp_in i n) (hdg : decode cc pc = .ok (.baload, 1))
    (kk : W p l e R s m args below meth c H locs cells slots Q (F0 m (pc + 1) ls (.int (f i.toNatClampNeg) :: rest))) : W p l e R s m args below meth c H locs cells slots Q (F0 m pc ls (.int i :: .ref a :: rest)) :=
  va_zald (D := D) (cl := cl) (ws := [(a, .inl (cA, n, .inl f))]) hexec hb hK (xr_one ha) 0 t0 rfl ht hin hdg kk
theorem xr_zast (hexec : p.tables.exec = Jvm.exec) (hb : c.code = cc) (hK : va_K D cl tys s) (hS : va_S A H0 H locs) (hA : A a) {cA : ClassId} {n : Nat} {f : Nat → Int32} (ha : xr_ia H a cA n f) (t0 : Nat) (ht : tys[t0]? = some (cA, .boolean)) {i : Int32} {x : Int32} (hin : vp_in i n) (hdg : decode cc pc = .ok (.bastore, 1))
    (kk : ∀ (H1 : Heap) (locs1 : List Loc), H1.size = H.size → (∀ q : Nat, q ≠ a → H1[q]? = H[q]?) → xr_ia H1 a cA n (upd f i.toNatClampNeg (vp_nar .boolean x)) → va_S A H0 H1 locs1 → W p l e R s m args below meth c H1 locs1 cells slots Q (F0 m (pc + 1) ls rest)) : W p l e R s m args below meth c H locs cells slots Q (F0 m pc ls (.int x :: .int i :: .ref a :: rest)) := by
  refine W.zast hexec hb ha ((hK.2 t0 _ ht).1 n (fun j => .int (f j))) (fun q => by cases q) (by show ¬ (i < 0 ∨ (arrV _ _ _).slots.size ≤ _); rw [arrV_size]; exact hin) rfl rfl hdg fun H1 e z oq => ?_
  refine kk H1 _ z oq ?_ (hS.put z oq hA)
  show H1[a]? = some (vp_cell _ _)
  rw [e]
  rw [vp_cell_i, vp_cell_i, arrV_store]
  congr 2
  funext q
  by_cases hq : q = i.toNatClampNeg
  · subst hq
    simp [updV, upd, vp_nar]
    try rfl
  · simp [updV, upd, hq]
end XZ
section XZ2
variable {p : Program} {l : Launch} {e : Env} {R : Room} {s : State} {m : MethodId} {args : Array Value} {below : List Frame} {meth : Method} {c : Code} {H : Heap} {locs : List Loc} {cells slots : Nat} {Q : State → Prop}
variable {cc : ByteArray} {pc : Nat} {ls : Array Slot} {rest : List Value} {A : Nat → Prop} {a : Nat} {H0 : Heap} {g : WG}
theorem xr_zrd (hexec : p.tables.exec = Jvm.exec) (hb : c.code = cc) (hK : KK g s) {n i : Nat} {f : Nat → Int32} (ha : xr_ia H a (gZ g) n f) (hi : i < n) (hn : n < 2 ^ 31) (hdg : decode cc pc = .ok (.baload, 1))
    (kk : W p l e R s m args below meth c H locs cells slots Q (F0 m (pc + 1) ls (.int (f i) :: rest))) : W p l e R s m args below meth c H locs cells slots Q (F0 m pc ls (.int (nI i) :: .ref a :: rest)) := by
  refine xr_zald hexec hb hK.1 ha 3 rfl (vp_in_nI hi hn) hdg ?_
  rw [nI_clamp (Nat.lt_trans hi hn)]
  exact kk
theorem z_nar (b : Bool) : vp_nar .boolean (b2i b) = b2i b := by cases b <;> rfl
theorem xr_zwr (hexec : p.tables.exec = Jvm.exec) (hb : c.code = cc) (hK : KK g s) (hS : va_S A H0 H locs) (hA : A a) {n i : Nat} {f : Nat → Bool} {x : Bool} (ha : xr_ia H a (gZ g) n (fun z9 => b2i (f z9))) (hi : i < n) (hn : n < 2 ^ 31) (hdg : decode cc pc = .ok (.bastore, 1))
    (kk : ∀ (H1 : Heap) (locs1 : List Loc), H1.size = H.size → (∀ q : Nat, q ≠ a → H1[q]? = H[q]?) → xr_ia H1 a (gZ g) n (fun z9 => b2i (va_up f i x z9)) → va_S A H0 H1 locs1 → W p l e R s m args below meth c H1 locs1 cells slots Q (F0 m (pc + 1) ls rest)) : W p l e R s m args below meth c H locs cells slots Q (F0 m pc ls (.int (b2i x) :: .int (nI i) :: .ref a :: rest)) := by
  refine xr_zast hexec hb hK.1 hS hA ha 3 rfl (vp_in_nI hi hn) hdg fun H1 locs1 z oq hf hS1 => kk H1 locs1 z oq (hf.to fun j _ => ?_) hS1
  rw [nI_clamp (Nat.lt_trans hi hn), z_nar]
  by_cases e : j = i
  · subst e
    rw [upd_at, va_up_self]
  · rw [upd_ne e, va_up_ne _ _ e]
theorem xr_nwr (hexec : p.tables.exec = Jvm.exec) (hb : c.code = cc) (hK : KK g s) (hS : va_S A H0 H locs) (hA : A a) {n i : Nat} {f : Nat → Nat} {x : Nat} (ha : xr_ia H a (gI g) n (fun z9 => nI (f z9))) (hi : i < n) (hn : n < 2 ^ 31) (hdg : decode cc pc = .ok (.iastore, 1))
    (kk : ∀ (H1 : Heap) (locs1 : List Loc), H1.size = H.size → (∀ q : Nat, q ≠ a → H1[q]? = H[q]?) → xr_ia H1 a (gI g) n (fun z9 => nI (va_up f i x z9)) → va_S A H0 H1 locs1 → W p l e R s m args below meth c H1 locs1 cells slots Q (F0 m (pc + 1) ls rest)) : W p l e R s m args below meth c H locs cells slots Q (F0 m pc ls (.int (nI x) :: .int (nI i) :: .ref a :: rest)) := by
  refine xr_iast hexec hb hK.1 hS hA ha 0 rfl (vp_in_nI hi hn) hdg fun H1 locs1 z oq hf hS1 => kk H1 locs1 z oq (hf.to fun j _ => ?_) hS1
  rw [nI_clamp (Nat.lt_trans hi hn), ia_up]
end XZ2
