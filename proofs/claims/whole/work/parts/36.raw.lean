/-! rows for constructors: worlds as lists; every new cell lies at the heap's end -/
section RAW
variable {p : Program} {l : Launch} {e : Env} {R : Room} {s : State} {m : MethodId} {args : Array Value} {below : List Frame} {meth : Method} {c : Code} {H : Heap} {locs : List Loc} {cells slots : Nat} {Q : State → Prop}
variable {cc : ByteArray} {pc n : Nat} {ls : Array Slot} {rest : List Value} {Y : bn_Y} {own : String} {A : Nat → Prop} {ws : va_W}
/-- the world ws lies in the heap of n cells; nothing outside A has changed since s -/
def rw_H (D : va_G) (A : Nat → Prop) (H0 H : Heap) (locs : List Loc) (ws : va_W) : Prop := va_P D bn_cl ws H ∧ va_D A ws ∧ va_S A H0 H locs
theorem rw_le {g : JFrame} (kk : H.size ≤ s.heap.size + cells → W p l e R s m args below meth c H locs cells slots Q g) : W p l e R s m args below meth c H locs cells slots Q g := fun T hT X => by
  refine kk ?_ T hT X
  have h1 := X.same
  obtain ⟨e2, r2, r3, r4, r5, r6⟩ := h1
  rw [← hT]
  first | exact r3 | exact r4 | exact r5
theorem rw_new (F : bn_F p s m args c cc own Y) (h : rw_H Y.1 A s.heap H locs ws) (hA : ∀ q, s.heap.size ≤ q → A q) (hn : H.size = n) {C : String} {T : u_T} {k ci index : Nat} (hin : ∀ w ∈ u_ws C T k, w ∈ bn_all) (ty : Nat → FieldType) (hty : ∀ j, j < k → parseFieldDescriptor (T j).2.2.1 = some (ty j)) (hcl : Cond.classLink own index C ∈ bn_all) (hinst : Cond.instantiable C k ∈ bn_all) (hini : Cond.initialized C ∈ bn_all)
    (hc : bn_cl[ci]? = some (C, T, k)) {fs : List Value} (hfs : ∀ j, j < k → defaultValue (ty j) = vp_V fs j) (hcells : cells + 1 ≤ R.cells) (hslots : slots + k ≤ R.slots) (hdg : decode cc pc = .ok (.new index, 3))
    (kk : ∀ H1 : Heap, H1.size = n + 1 → rw_H Y.1 A s.heap H1 locs (ws ++ [(n, .inr (ci, fs))]) → W p l e R s m args below meth c H1 locs (cells + 1) (slots + k) Q (F0 m (pc + 3) ls (.ref n :: rest))) : W p l e R s m args below meth c H locs cells slots Q (F0 m pc ls rest) := by
  subst hn
  have hKn := F.2.2.2.2.1 ci _ hc
  obtain ⟨hP, hD, hS⟩ := h
  refine W.newcK F.1 F.2.1 F.2.2.1 (F.2.2.2.1 _ hcl) (F.2.2.2.1 _ hinst) (F.2.2.2.1 _ hini) rfl hdg hcells hslots hKn.2.1 rfl fun H1 kC hkC e1 z1 o1 => ?_
  refine kk H1 z1 ⟨(hP.kept (fun i q hi => o1 q.1 ((hP i q hi).lt))).app (fun i q hi => ?_), hD.push hP rfl (hA _ hS.1), ⟨Nat.le_trans hS.1 (by omega), fun q h1 h2 => (o1 q (Nat.lt_of_lt_of_le h1 hS.1)).trans (hS.2.1 q h1 h2), hS.2.2⟩⟩
  have hz : i < 1 := (List.getElem?_eq_some_iff.mp hi).1
  rw [show i = 0 by omega] at hi
  cases hi
  exact ⟨_, hc, (u_born ty F.2.2.2.1 hin hKn hkC e1 hty).to hfs⟩
theorem rw_newa (F : bn_F p s m args c cc own Y) (h : rw_H Y.1 A s.heap H locs ws) (hA : ∀ q, s.heap.size ≤ q → A q) (hn : H.size = n) {atype : ArrayType} (harr : Cond.arrayClass (newarray.typeOf atype) ∈ bn_all) {ty : FieldType} (hty : newarray.typeOf atype = ty) {t0 : Nat} {cA : ClassId} (ht : Y.2.1[t0]? = some (cA, ty)) (hob : ∀ C, ty ≠ .object C)
    {j : Int32} {k : Nat} {a0 : vp_A} (ha : vp_cell cA a0 = arrV cA k (fun _ => defaultValue ty)) (h0 : ¬ j < 0) (hN : j.toNatClampNeg = k) (hbytes : k * componentBytes ty ≤ 536870912) (hcells : cells + 1 ≤ R.cells) (hslots : slots + k ≤ R.slots) (hdg : decode cc pc = .ok (.newarray atype, 2))
    (kk : ∀ H1 : Heap, H1.size = n + 1 → rw_H Y.1 A s.heap H1 locs (ws ++ [(n, .inl (cA, a0))]) → W p l e R s m args below meth c H1 locs (cells + 1) (slots + k) Q (F0 m (pc + 2) ls (.ref n :: rest))) : W p l e R s m args below meth c H locs cells slots Q (F0 m pc ls (.int j :: rest)) := by
  subst hty
  subst hn
  obtain ⟨hP, hD, hS⟩ := h
  refine va_newaK F.1 F.2.1 (F.2.2.2.1 _ harr) rfl hdg rfl h0 hN hbytes hcells hslots rfl fun H1 cB e1 z1 o1 hAr hNm => ?_
  have hcc : cB = cA := by
    have h9 := (F.2.2.2.2.2 t0 _ ht).2
    unfold va_RA at h9
    split at h9
    · rename_i C hC
      exact absurd hC (hob C)
    · exact Option.some.inj (hNm.symm.trans h9)
  subst hcc
  refine kk H1 z1 ⟨(hP.kept (fun i q hi => o1 q.1 ((hP i q hi).lt))).app (fun i q hi => ?_), hD.push hP rfl (hA _ hS.1), ⟨Nat.le_trans hS.1 (by omega), fun q h1 h2 => (o1 q (Nat.lt_of_lt_of_le h1 hS.1)).trans (hS.2.1 q h1 h2), hS.2.2⟩⟩
  have hz : i < 1 := (List.getElem?_eq_some_iff.mp hi).1
  rw [show i = 0 by omega] at hi
  cases hi
  show H1[H.size]? = some (vp_cell _ _)
  rw [ha]
  exact e1
theorem rw_newq (F : bn_F p s m args c cc own Y) (h : rw_H Y.1 A s.heap H locs ws) (hA : ∀ q, s.heap.size ≤ q → A q) (hn : H.size = n) {C : String} {index t0 : Nat} {cA : ClassId} (hclink : Cond.classLink own index C ∈ bn_all) (hover : va_AO C s) (ht : Y.2.1[t0]? = some (cA, .object C))
    {j : Int32} {k : Nat} (h0 : ¬ j < 0) (hN : j.toNatClampNeg = k) (hbytes : k * 4 ≤ 536870912) (hcells : cells + 1 ≤ R.cells) (hslots : slots + k ≤ R.slots) (hdg : decode cc pc = .ok (.anewarray index, 3))
    (kk : ∀ H1 : Heap, H1.size = n + 1 → rw_H Y.1 A s.heap H1 locs (ws ++ [(n, .inl (cA, k, .inr (.inr (.inr (.inr (fun _ => none))))))]) → W p l e R s m args below meth c H1 locs (cells + 1) (slots + k) Q (F0 m (pc + 3) ls (.ref n :: rest))) : W p l e R s m args below meth c H locs cells slots Q (F0 m pc ls (.int j :: rest)) := by
  subst hn
  subst hN
  obtain ⟨hP, hD, hS⟩ := h
  refine W.anew F.1 F.2.1 F.2.2.1 (F.2.2.2.1 _ hclink) (va_AO.use hover) rfl hdg rfl h0 hbytes hcells hslots fun cB kA comp f1 f2 f3 f4 => ?_
  have hcc : cB = cA := by
    obtain ⟨kA', comp', g1, g2, g3, g4⟩ := (F.2.2.2.2.2 t0 _ ht).2
    exact Option.some.inj (f1.symm.trans g4)
  subst hcc
  generalize hH1 : H.push ({ cls := cB, slots := Array.replicate j.toNatClampNeg .null, vm := .none } : Cell) = H1
  have z1 : H1.size = H.size + 1 := by rw [← hH1, Array.size_push]
  have e1 : H1[H.size]? = some (arrV cB j.toNatClampNeg (fun _ => .null)) := by rw [← hH1, Array.getElem?_push_size, ← arrV_new]
  have o1 : ∀ q : Nat, q < H.size → H1[q]? = H[q]? := fun q hq => by rw [← hH1, Array.getElem?_push, if_neg (Nat.ne_of_lt hq)]
  refine kk H1 z1 ⟨(hP.kept (fun i q hi => o1 q.1 ((hP i q hi).lt))).app (fun i q hi => ?_), hD.push hP rfl (hA _ hS.1), ⟨Nat.le_trans hS.1 (by omega), fun q h1 h2 => (o1 q (Nat.lt_of_lt_of_le h1 hS.1)).trans (hS.2.1 q h1 h2), hS.2.2⟩⟩
  have hz : i < 1 := (List.getElem?_eq_some_iff.mp hi).1
  rw [show i = 0 by omega] at hi
  cases hi
  show H1[H.size]? = some (vp_cell _ _)
  rw [e1, vp_cell_q]
  rfl
end RAW
