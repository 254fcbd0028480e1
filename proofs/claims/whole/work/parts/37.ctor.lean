/-! constructors: puts into the world as a list; their contracts -/
section RAP
variable {p : Program} {l : Launch} {e : Env} {R : Room} {s : State} {m : MethodId} {args : Array Value} {below : List Frame} {meth : Method} {c : Code} {H : Heap} {locs : List Loc} {cells slots : Nat} {Q : State → Prop}
variable {cc : ByteArray} {pc n : Nat} {ls : Array Slot} {rest : List Value} {Y : bn_Y} {own : String} {A : Nat → Prop} {ws : va_W}
theorem rw_put (F : bn_F p s m args c cc own Y) (h : rw_H Y.1 A s.heap H locs ws) (q0 : Nat) {a ci index : Nat} {fs : List Value} (he : ws[q0]? = some (a, .inr (ci, fs))) {C : String} {T : u_T} (hc : bn_cl[ci]? = some (C, T, n)) (hin : ∀ w ∈ u_ws C T n, w ∈ bn_all)
    (ty0 : Nat → FieldType) (hty : ∀ k, k < n → parseFieldDescriptor (T k).2.2.1 = some (ty0 k)) (hnm : ∀ a, a < n → ∀ b, b < n → a ≠ b → (T a).2.1 ≠ (T b).2.1) (j : Nat) (hj : j < n) (hT : (T j).1 = C) (hfin : (T j).2.2.2 = false)
    (hlink : Cond.fieldLink own index C (T j).2.1 (T j).2.2.1 ∈ bn_all) {v : Value} (hn : narrow (ty0 j) v = v) (hfit : fits (ty0 j) v = true) (hl : j < fs.length) (hdg : decode cc pc = .ok (.putfield index, 3))
    (kk : ∀ (H1 : Heap) (locs1 : List Loc), rw_H Y.1 A s.heap H1 locs1 (ws.set q0 (a, .inr (ci, fs.set j v))) → W p l e R s m args below meth c H1 locs1 cells slots Q (F0 m (pc + 3) ls rest)) : W p l e R s m args below meth c H locs cells slots Q (F0 m pc ls (v :: .ref a :: rest)) :=
  va_put (ref := C) F.1 F.2.1 F.2.2.2.1 hin ty0 hty hnm F.2.2.1 F.2.2.2.2 h.1 h.2.1 h.2.2 q0 he hc j hj (F.2.2.2.1 _ hlink) (fun _ h9 => by rw [hT] at h9; exact h9) hfin (hty j hj) hn hfit hl hdg (fun H1 locs1 hP1 hD1 hS1 => kk H1 locs1 ⟨hP1, hD1, hS1⟩)
theorem rw_putF (F : bn_F p s m args c cc own Y) (h : rw_H Y.1 A s.heap H locs ws) (q0 : Nat) {a ci index : Nat} {fs : List Value} (he : ws[q0]? = some (a, .inr (ci, fs))) {C : String} {T : u_T} (hc : bn_cl[ci]? = some (C, T, n)) (hin : ∀ w ∈ u_ws C T n, w ∈ bn_all)
    (ty0 : Nat → FieldType) (hty : ∀ k, k < n → parseFieldDescriptor (T k).2.2.1 = some (ty0 k)) (hnm : ∀ a, a < n → ∀ b, b < n → a ≠ b → (T a).2.1 ≠ (T b).2.1) (j : Nat) (hj : j < n) (hT : (T j).1 = C) (hC : C = own) (hfin : (T j).2.2.2 = true) (hini : meth.name = "<init>")
    (hlink : Cond.fieldLink own index C (T j).2.1 (T j).2.2.1 ∈ bn_all) {v : Value} (hn : narrow (ty0 j) v = v) (hfit : fits (ty0 j) v = true) (hl : j < fs.length) (hdg : decode cc pc = .ok (.putfield index, 3))
    (kk : ∀ (H1 : Heap) (locs1 : List Loc), rw_H Y.1 A s.heap H1 locs1 (ws.set q0 (a, .inr (ci, fs.set j v))) → W p l e R s m args below meth c H1 locs1 cells slots Q (F0 m (pc + 3) ls rest)) : W p l e R s m args below meth c H locs cells slots Q (F0 m pc ls (v :: .ref a :: rest)) :=
  va_putF (ref := C) F.1 F.2.1 F.2.2.2.1 hin ty0 hty hnm F.2.2.1 F.2.2.2.2 h.1 h.2.1 h.2.2 q0 he hc j hj (F.2.2.2.1 _ hlink) (fun _ h9 => by rw [hT] at h9; exact h9) hfin hini (hT.trans hC) (hty j hj) hn hfit hl hdg (fun H1 locs1 hP1 hD1 hS1 => kk H1 locs1 ⟨hP1, hD1, hS1⟩)
theorem rw_get (F : bn_F p s m args c cc own Y) (h : rw_H Y.1 A s.heap H locs ws) (q0 : Nat) {a ci index : Nat} {fs : List Value} (he : ws[q0]? = some (a, .inr (ci, fs))) {C : String} {T : u_T} (hc : bn_cl[ci]? = some (C, T, n)) (hin : ∀ w ∈ u_ws C T n, w ∈ bn_all) (j : Nat) (hj : j < n) (hT : (T j).1 = C)
    (hlink : Cond.fieldLink own index C (T j).2.1 (T j).2.2.1 ∈ bn_all) {v : Value} (hv : fs[j]? = some v) (hdg : decode cc pc = .ok (.getfield index, 3)) (kk : W p l e R s m args below meth c H locs cells slots Q (F0 m (pc + 3) ls (v :: rest))) : W p l e R s m args below meth c H locs cells slots Q (F0 m pc ls (.ref a :: rest)) :=
  va_get (ref := C) F.1 F.2.1 F.2.2.2.1 hin F.2.2.1 F.2.2.2.2 h.1 q0 he hc j hj (F.2.2.2.1 _ hlink) (fun _ h9 => by rw [hT] at h9; exact h9) hv hdg kk
theorem rw_astq (F : bn_F p s m args c cc own Y) (h : rw_H Y.1 A s.heap H locs ws) (q0 t0 qk ci : Nat) {a : Nat} {cA : ClassId} {r : vw_C} {k v : Nat} {vs : List Value} {f : Nat → Option Nat} (ha : ws[q0]? = some (a, .inl (cA, k, .inr (.inr (.inr (.inr f)))))) (ht : Y.2.1[t0]? = some (cA, .object r.1)) (hv : ws[qk]? = some (v, .inr (ci, vs))) (hc : bn_cl[ci]? = some r) {i : Nat} (hi : i < k) (hk : k < 2 ^ 31) (hdg : decode cc pc = .ok (.aastore, 1))
    (kk : ∀ (H1 : Heap) (locs1 : List Loc), rw_H Y.1 A s.heap H1 locs1 (ws.set q0 (a, .inl (cA, k, .inr (.inr (.inr (.inr (va_up f i (some v)))))))) → W p l e R s m args below meth c H1 locs1 cells slots Q (F0 m (pc + 1) ls rest)) : W p l e R s m args below meth c H locs cells slots Q (F0 m pc ls (.ref v :: .int (nI i) :: .ref a :: rest)) := by
  refine va_astq F.1 F.2.1 F.2.2.2.2 h.1 h.2.1 h.2.2 q0 t0 qk ci ha ht hv hc (vp_in_nI hi hk) hdg (fun H1 locs1 hP1 hD1 hS1 => ?_)
  rw [nI_clamp (by omega)] at hP1 hD1
  exact kk H1 locs1 ⟨hP1, hD1, hS1⟩
end RAP
/-- only the classes and the arrays' classes of a system -/
abbrev rw_Y (D : va_G) (ar : Nat → ClassId) : bn_Y := (D, bn_ty ar, [], fun _ _ => 0, fun _ _ _ => .inr (0, []), fun _ => True)
def rw_A (q sz : Nat) : Nat → Prop := fun a => a = q ∨ sz ≤ a
/-- as bx_O, and that start's heap had no more than z cells -/
def bx_Og (z : Nat) (U : State) : Prop := ∃ (s0 : State) (A0 : Array Value), (∀ w ∈ lw_tbl, w.before A0 s0 = true) ∧ (Jvm.Cond.and given_1 narrow_1).before A0 s0 = true ∧ s0.WarmedH U.vm ∧ s0.heap.size ≤ z ∧ ∀ (a : Addr) (k : Cell), s0.heap[a]? = some k → U.heap[a]? = some k
theorem bx_Og.to {z : Nat} {U : State} (h : bx_Og z U) : bx_O U := by
  obtain ⟨s0, A0, h1, h2, h3, h4, h5⟩ := h
  exact ⟨s0, A0, h1, h2, h3, h5⟩
theorem bx_Og.on {z : Nat} {s U : State} (h : bx_Og z s) (hW : s.WarmedH U.vm) (hh : ∀ (a : Addr) (k : Cell), a < z → s.heap[a]? = some k → U.heap[a]? = some k) : bx_Og z U := by
  obtain ⟨s0, A0, h1, h2, h3, h4, h5⟩ := h
  exact ⟨s0, A0, h1, h2, State.WarmedH.trans h3 hW, h4, fun a k hk => hh a k (Nat.lt_of_lt_of_le (Array.getElem?_eq_some_iff.mp hk).1 h4) (h5 a k hk)⟩
theorem bx_Og.call {z : Nat} {U : State} (h : bx_Og z U) (g : JFrame) (mk : MethodId) (a : Array Value) : bx_Og z (U.calling g mk a) := h
def rw_Pre (D : va_G) (ar : Nat → ClassId) (z sz : Nat) (w : va_W) (U : State) : Prop := U.heap.size = sz ∧ va_P D bn_cl w U.heap ∧ va_K D bn_cl (bn_ty ar) U ∧ bx_Og z U
def rw_Q (D : va_G) (A : Nat → Prop) (sz : Nat) (w : va_W) : Array Value → State → Outcome → State → Prop := fun _ st o t => o = .returned none ∧ va_P D bn_cl w t.heap ∧ va_D A w ∧ t.heap.size = sz ∧ va_F A st t
/-- a constructor: the object at q, blank, heap of sz cells; then the cells w, heap of sz + mc cells -/
def rw_C (l : Launch) (y : MethodName) (ws : List Cond) (rm : Room) (D : va_G) (ar : Nat → ClassId) (z q sz : Nat) (b : va_E) (av : List Value) (mc ms : Nat) (w : va_W) : Prop :=
  Met l y ws rm (va_Pc (.ref q :: av) (rw_Pre D ar z sz [(q, b)])) (rw_Q D (rw_A q sz) (sz + mc) w) mc ms (rw_A q sz)
