/-! A world by index: a list of (kind, number); where each cell lies (ad), what each cell holds (ce). A state of a system is four tables of numbers. -/
abbrev bn_S : Type := (Nat → Nat → Int32) × (Nat → Nat → Nat) × (Nat → Nat → Int64) × (Nat → Nat → Option Nat)
def bn_up {α : Type} (f : Nat → Nat → α) (c x : Nat) (v : α) : Nat → Nat → α := fun c' x' => if c' = c ∧ x' = x then v else f c' x'
theorem bn_up_s {α : Type} (f : Nat → Nat → α) (c x : Nat) (v : α) : bn_up f c x v c x = v := by simp [bn_up]
theorem bn_up_c {α : Type} (f : Nat → Nat → α) {c c' x x' : Nat} (v : α) (h : ¬ c' = c) : bn_up f c x v c' x' = f c' x' := by simp [bn_up, h]
theorem bn_up_x {α : Type} (f : Nat → Nat → α) {c c' x x' : Nat} (v : α) (h : ¬ x' = x) : bn_up f c x v c' x' = f c' x' := by simp [bn_up, h]
theorem bn_up_cf {α : Type} (f : Nat → Nat → α) {c c' x : Nat} (v : α) (h : ¬ c' = c) : bn_up f c x v c' = f c' := by
  funext x'
  exact bn_up_c f v h
def sI (N : bn_S) (c x : Nat) (v : Int32) : bn_S := (bn_up N.1 c x v, N.2)
def sU (N : bn_S) (c x : Nat) (v : Nat) : bn_S := (N.1, bn_up N.2.1 c x v, N.2.2)
def sJ (N : bn_S) (c x : Nat) (v : Int64) : bn_S := (N.1, N.2.1, bn_up N.2.2.1 c x v, N.2.2.2)
def sO (N : bn_S) (c x : Nat) (v : Option Nat) : bn_S := (N.1, N.2.1, N.2.2.1, bn_up N.2.2.2 c x v)
def bn_wl (ix : List (Nat × Nat)) (ad : Nat → Nat → Nat) (ce : Nat → Nat → va_E) : va_W := ix.map (fun i => (ad i.1 i.2, ce i.1 i.2))
theorem bn_wl_get {ix : List (Nat × Nat)} {ad : Nat → Nat → Nat} {ce : Nat → Nat → va_E} {k x : Nat} (h : (k, x) ∈ ix) : ∃ q : Nat, (bn_wl ix ad ce)[q]? = some (ad k x, ce k x) := by
  obtain ⟨q, hq⟩ := List.getElem?_of_mem h
  exact ⟨q, by simp [bn_wl, hq]⟩
theorem bn_wl_of {ix : List (Nat × Nat)} {ad : Nat → Nat → Nat} {ce : Nat → Nat → va_E} {q : Nat} {e : Nat × va_E} (h : (bn_wl ix ad ce)[q]? = some e) : ∃ k x : Nat, ix[q]? = some (k, x) ∧ e = (ad k x, ce k x) := by
  unfold bn_wl at h
  rw [List.getElem?_map] at h
  cases hi : ix[q]? with
  | none => rw [hi] at h; cases h
  | some i => rw [hi] at h; exact ⟨i.1, i.2, rfl, (Option.some.inj h).symm⟩
theorem bn_wl_set {A : Nat → Prop} {ix : List (Nat × Nat)} {ad : Nat → Nat → Nat} {ce ce' : Nat → Nat → va_E} {k x q : Nat} {e0 e : va_E} (hD : va_D A (bn_wl ix ad ce)) (hm : (k, x) ∈ ix) (hq : (bn_wl ix ad ce)[q]? = some (ad k x, e0)) (h1 : ce' k x = e)
    (h2 : ∀ k' x' : Nat, ¬ (k' = k ∧ x' = x) → ce' k' x' = ce k' x') : (bn_wl ix ad ce).set q (ad k x, e) = bn_wl ix ad ce' := by
  have hl := (List.getElem?_eq_some_iff.mp hq).1
  obtain ⟨p, hp⟩ := List.getElem?_of_mem hm
  have hp2 : (bn_wl ix ad ce)[p]? = some (ad k x, ce k x) := by simp [bn_wl, hp]
  have hpq : p = q := hD.1 p q _ _ hp2 hq rfl
  subst hpq
  apply List.ext_getElem?
  intro j
  by_cases hj : p = j
  · subst hj
    rw [List.getElem?_set_self hl]
    simp [bn_wl, hp, h1]
  · rw [List.getElem?_set_ne hj]
    unfold bn_wl
    rw [List.getElem?_map, List.getElem?_map]
    cases hi : ix[j]? with
    | none => rfl
    | some i =>
      obtain ⟨k', x'⟩ := i
      have hne : ¬ (k' = k ∧ x' = x) := by
        rintro ⟨rfl, rfl⟩
        have hj2 : (bn_wl ix ad ce)[j]? = some (ad k' x', ce k' x') := by simp [bn_wl, hi]
        exact hj (hD.1 p j _ _ hp2 hj2 rfl)
      simp [h2 k' x' hne]
/-- which cells a method of the world may change -/
def bn_A (ix : List (Nat × Nat)) (ad : Nat → Nat → Nat) (sz : Nat) : Nat → Prop := fun q => (∃ k x : Nat, (k, x) ∈ ix ∧ ad k x = q) ∨ sz ≤ q
theorem bn_A.mono {ix : List (Nat × Nat)} {ad : Nat → Nat → Nat} {sz sz' q : Nat} (h : sz ≤ sz') (hq : bn_A ix ad sz' q) : bn_A ix ad sz q := by
  rcases hq with h1 | h1
  · exact Or.inl h1
  · exact Or.inr (Nat.le_trans h h1)
theorem bn_D_self {A : Nat → Prop} {ix : List (Nat × Nat)} {ad : Nat → Nat → Nat} {ce : Nat → Nat → va_E} {sz : Nat} (h : va_D A (bn_wl ix ad ce)) : va_D (bn_A ix ad sz) (bn_wl ix ad ce) := by
  refine ⟨h.1, fun q e hq => ?_⟩
  obtain ⟨k, x, h1, rfl⟩ := bn_wl_of hq
  exact Or.inl ⟨k, x, List.mem_of_getElem? h1, rfl⟩
theorem bn_ne {A : Nat → Prop} {ix : List (Nat × Nat)} {ad : Nat → Nat → Nat} {ce : Nat → Nat → va_E} (h : va_D A (bn_wl ix ad ce)) {k x k' x' : Nat} (h1 : (k, x) ∈ ix) (h2 : (k', x') ∈ ix) (hn : ¬ (k = k' ∧ x = x')) : ¬ ad k x = ad k' x' := by
  intro he
  obtain ⟨p, hp⟩ := List.getElem?_of_mem h1
  obtain ⟨q, hq⟩ := List.getElem?_of_mem h2
  have hp2 : (bn_wl ix ad ce)[p]? = some (ad k x, ce k x) := by simp [bn_wl, hp]
  have hq2 : (bn_wl ix ad ce)[q]? = some (ad k' x', ce k' x') := by simp [bn_wl, hq]
  have hpq := h.1 p q _ _ hp2 hq2 he
  subst hpq
  rw [hp] at hq
  cases hq
  exact hn ⟨rfl, rfl⟩
/-- a system: the classes' numbers, the array classes, which cells there are, where they lie, what they hold in a state, which states are sound -/
abbrev bn_Y : Type := va_G × List (ClassId × FieldType) × List (Nat × Nat) × (Nat → Nat → Nat) × (bn_S → Nat → Nat → va_E) × (bn_S → Prop)
abbrev bn_ws (Y : bn_Y) (N : bn_S) : va_W := bn_wl Y.2.2.1 Y.2.2.2.1 (Y.2.2.2.2.1 N)
abbrev bn_AY (Y : bn_Y) (sz : Nat) : Nat → Prop := bn_A Y.2.2.1 Y.2.2.2.1 sz
def bn_Pre (Y : bn_Y) (N : bn_S) (sz : Nat) (U : State) : Prop := U.heap.size = sz ∧ va_P Y.1 bn_cl (bn_ws Y N) U.heap ∧ va_K Y.1 bn_cl Y.2.1 U ∧ va_D (fun _ => True) (bn_ws Y N) ∧ Y.2.2.2.2.2 N
def bn_Post (Y : bn_Y) (A : Nat → Prop) (u : bn_S) (t : State) : Prop := va_P Y.1 bn_cl (bn_ws Y u) t.heap ∧ va_K Y.1 bn_cl Y.2.1 t ∧ va_D A (bn_ws Y u) ∧ Y.2.2.2.2.2 u
/-- contracts: from the state N, with these arguments, to the state N' (and the answer r) -/
def bn_V (l : Launch) (y : MethodName) (ws : List Cond) (rm : Room) (Y : bn_Y) (N : bn_S) (av : List Value) (N' : bn_S) : Prop := ∀ sz : Nat, Met l y ws rm (va_Pc av (bn_Pre Y N sz)) (va_Qv (fun u : bn_S => u = N') (bn_Post Y (bn_AY Y sz)) (bn_AY Y sz)) 0 0 (bn_AY Y sz)
def bn_I (l : Launch) (y : MethodName) (ws : List Cond) (rm : Room) (Y : bn_Y) (N : bn_S) (av : List Value) (r : Int32) (N' : bn_S) : Prop := ∀ sz : Nat, Met l y ws rm (va_Pc av (bn_Pre Y N sz)) (va_Qi (fun (v : Int32) (u : bn_S) => v = r ∧ u = N') (bn_Post Y (bn_AY Y sz)) (bn_AY Y sz)) 0 0 (bn_AY Y sz)
def bn_L (l : Launch) (y : MethodName) (ws : List Cond) (rm : Room) (Y : bn_Y) (N : bn_S) (av : List Value) (r : Int64) (N' : bn_S) : Prop := ∀ sz : Nat, Met l y ws rm (va_Pc av (bn_Pre Y N sz)) (va_Ql (fun (v : Int64) (u : bn_S) => v = r ∧ u = N') (bn_Post Y (bn_AY Y sz)) (bn_AY Y sz)) 0 0 (bn_AY Y sz)
def bn_R (l : Launch) (y : MethodName) (ws : List Cond) (rm : Room) (Y : bn_Y) (N : bn_S) (av : List Value) (r : Option Nat) (N' : bn_S) : Prop := ∀ sz : Nat, Met l y ws rm (va_Pc av (bn_Pre Y N sz)) (va_Qq (fun (v : Option Nat) (u : bn_S) => v = r ∧ u = N') (bn_Post Y (bn_AY Y sz)) (bn_AY Y sz)) 0 0 (bn_AY Y sz)
theorem bn_blind (Y : bn_Y) (N : bn_S) (av : List Value) (sz : Nat) : FrameBlind (va_Pc av (bn_Pre Y N sz)) := fun a U g mk q => by
  obtain ⟨q0, q1, qP, qK, qD, qN⟩ := q
  exact ⟨q0, q1, qP, va_K.moved (u := U) (U := U.calling g mk a) (Vm.Alike.refl U.vm) qK, qD, qN⟩
/-- what a walk of a method knows of the machine -/
def bn_F (p : Program) (s : State) (m : MethodId) (args : Array Value) (c : Code) (cc : ByteArray) (own : String) (Y : bn_Y) : Prop := p.tables.exec = Jvm.exec ∧ c.code = cc ∧ s.vm.findClass own = some m.cls ∧ (∀ w ∈ bn_all, w.before args s = true) ∧ va_K Y.1 bn_cl Y.2.1 s
/-- the heap, now, holds the system in the state N; nothing outside A has changed since H0 -/
def bn_H (Y : bn_Y) (H0 H : Heap) (locs : List Loc) (N : bn_S) : Prop := va_P Y.1 bn_cl (bn_ws Y N) H ∧ va_D (bn_AY Y H0.size) (bn_ws Y N) ∧ va_S (bn_AY Y H0.size) H0 H locs ∧ Y.2.2.2.2.2 N
section BNS
variable {l : Launch} {y : MethodName} {rm : Room} {Y : bn_Y} {N : bn_S} {av : List Value} {cc : ByteArray} {maxL : Nat} {ret : Option FieldType} {ws : List Cond} {sz : Nat}
theorem bn_start {Qc : Array Value → State → Outcome → State → Prop} {free : Addr → Prop} (hy : plainName y.cls = true) (hw : ws = Cond.code y cc maxL ret :: bn_all) (hlen : (lg_sl av).length ≤ maxL)
    (body : ∀ (p : Program) (e : Env) (s : State) (m : MethodId) (args : Array Value) (below : List Frame) (meth : Method) (c : Code) (ls : Array Slot), s.heap.size = sz → bn_F p s m args c cc y.cls Y → c.maxLocals = maxL → meth.sig.returnType = ret → meth.locks = false → lv_has ls maxL (lv_args 0 av) → bn_H Y s.heap s.heap [] N →
      W p l e rm s m args below meth c s.heap [] 0 0 (MQ below Qc args s 0 0 free) (F0 m 0 ls [])) : Met l y ws rm (va_Pc av (bn_Pre Y N sz)) Qc 0 0 free := by
  refine Met.ofW (cc := cc) (maxL := maxL) (ret := ret) hy hw ?_
  intro p e s m args below meth c s₁ B hml hv
  obtain ⟨rfl, hsz, hP, hK, hD0, hN⟩ := hv
  have hts := atoms_spec (ws := ws) B.pre
  have hl := lv_entry av (n := maxL) hlen
  rw [lg_entry_eq]
  refine body p e s m _ below meth c _ hsz ⟨B.exec, B.bytes, findClass_of_methodNamed B.named, fun w h => hts w (by rw [hw]; exact List.mem_cons_of_mem _ h), hK⟩ hml B.returns B.notSynchronized hl ⟨hP, bn_D_self hD0, va_S.rf, hN⟩
end BNS
section BNE
variable {p : Program} {l : Launch} {e : Env} {R : Room} {s : State} {m : MethodId} {args : Array Value} {below : List Frame} {meth : Method} {c : Code} {H : Heap} {locs : List Loc} {cells slots : Nat} {Q : State → Prop}
variable {cc : ByteArray} {pc : Nat} {ls : Array Slot} {rest st0 : List Value} {Y : bn_Y} {N N' : bn_S} {own : String}
theorem bn_retv (F : bn_F p s m args c cc own Y) (hr : meth.sig.returnType = none) (hk : meth.locks = false) (h : bn_H Y s.heap H locs N) (he : N = N') (hdg : decode cc pc = .ok (.return_, 1)) : W p l e R s m args below meth c H locs 0 0 (MQ below (va_Qv (fun u : bn_S => u = N') (bn_Post Y (bn_AY Y s.heap.size)) (bn_AY Y s.heap.size)) args s 0 0 (bn_AY Y s.heap.size)) (F0 m pc ls []) := by
  obtain ⟨hP, hD, hS, hN⟩ := h
  exact W.vret F.1 F.2.1 hr (fun t ht hW => ⟨⟨N, rfl, he, by rw [ht]; exact hP, va_K.moved hW.alike F.2.2.2.2, hD, hN⟩, hS.F ht⟩) hS.2.2 hdg hk
theorem bn_reti (F : bn_F p s m args c cc own Y) {v r : Int32} (hr : meth.sig.returnType = some .int) (hk : meth.locks = false) (h : bn_H Y s.heap H locs N) (hv : v = r) (he : N = N') (hdg : decode cc pc = .ok (.ireturn, 1)) : W p l e R s m args below meth c H locs 0 0 (MQ below (va_Qi (fun (v : Int32) (u : bn_S) => v = r ∧ u = N') (bn_Post Y (bn_AY Y s.heap.size)) (bn_AY Y s.heap.size)) args s 0 0 (bn_AY Y s.heap.size)) (F0 m pc ls [.int v]) := by
  obtain ⟨hP, hD, hS, hN⟩ := h
  exact W.iret F.1 F.2.1 hr (fun t ht hW => ⟨⟨v, N, rfl, ⟨hv, he⟩, by rw [ht]; exact hP, va_K.moved hW.alike F.2.2.2.2, hD, hN⟩, hS.F ht⟩) hS.2.2 hdg hk
theorem bn_retz (F : bn_F p s m args c cc own Y) {v r : Int32} (hr : meth.sig.returnType = some .boolean) (hn : narrow .boolean (.int v) = .int v) (hk : meth.locks = false) (h : bn_H Y s.heap H locs N) (hv : v = r) (he : N = N') (hdg : decode cc pc = .ok (.ireturn, 1)) : W p l e R s m args below meth c H locs 0 0 (MQ below (va_Qi (fun (v : Int32) (u : bn_S) => v = r ∧ u = N') (bn_Post Y (bn_AY Y s.heap.size)) (bn_AY Y s.heap.size)) args s 0 0 (bn_AY Y s.heap.size)) (F0 m pc ls [.int v]) := by
  obtain ⟨hP, hD, hS, hN⟩ := h
  exact W.zret F.1 F.2.1 hr hn (fun t ht hW => ⟨⟨v, N, rfl, ⟨hv, he⟩, by rw [ht]; exact hP, va_K.moved hW.alike F.2.2.2.2, hD, hN⟩, hS.F ht⟩) hS.2.2 hdg hk
theorem bn_retl (F : bn_F p s m args c cc own Y) {v r : Int64} (hr : meth.sig.returnType = some .long) (hk : meth.locks = false) (h : bn_H Y s.heap H locs N) (hv : v = r) (he : N = N') (hdg : decode cc pc = .ok (.lreturn, 1)) : W p l e R s m args below meth c H locs 0 0 (MQ below (va_Ql (fun (v : Int64) (u : bn_S) => v = r ∧ u = N') (bn_Post Y (bn_AY Y s.heap.size)) (bn_AY Y s.heap.size)) args s 0 0 (bn_AY Y s.heap.size)) (F0 m pc ls [.long v]) := by
  obtain ⟨hP, hD, hS, hN⟩ := h
  exact W.lret F.1 F.2.1 hr (fun t ht hW => ⟨⟨v, N, rfl, ⟨hv, he⟩, by rw [ht]; exact hP, va_K.moved hW.alike F.2.2.2.2, hD, hN⟩, hS.F ht⟩) hS.2.2 hdg hk
theorem bn_retq (F : bn_F p s m args c cc own Y) {v r : Option Nat} {C : String} (hr : meth.sig.returnType = some (.object C)) (hk : meth.locks = false) (h : bn_H Y s.heap H locs N) (hv : v = r) (he : N = N') (hdg : decode cc pc = .ok (.areturn, 1)) : W p l e R s m args below meth c H locs 0 0 (MQ below (va_Qq (fun (v : Option Nat) (u : bn_S) => v = r ∧ u = N') (bn_Post Y (bn_AY Y s.heap.size)) (bn_AY Y s.heap.size)) args s 0 0 (bn_AY Y s.heap.size)) (F0 m pc ls [va_rf v]) := by
  obtain ⟨hP, hD, hS, hN⟩ := h
  exact W.aret F.1 F.2.1 hr (Or.inl ⟨C, rfl⟩) (va_rf_or v) (fun t ht hW => ⟨⟨v, N, rfl, ⟨hv, he⟩, by rw [ht]; exact hP, va_K.moved hW.alike F.2.2.2.2, hD, hN⟩, hS.F ht⟩) hS.2.2 hdg hk
/-- a call's start: what the callee asks of the heap -/
theorem bn_preS (F : bn_F p s m args c cc own Y) (h : bn_H Y s.heap H locs N) {As : List Value} : PreS s H (va_Pc As (bn_Pre Y N H.size)) As := by
  obtain ⟨hP, hD, hS, hN⟩ := h
  exact ⟨bn_blind Y N As H.size, fun U hU hW => ⟨rfl, by rw [hU], by rw [hU]; exact hP, va_K.moved hW.alike F.2.2.2.2, hD.weaken (fun _ _ _ _ => trivial), hN⟩⟩
theorem bn_preV (F : bn_F p s m args c cc own Y) (h : bn_H Y s.heap H locs N) {k x ci : Nat} {fs : List Value} {q : vw_C} (hm : (k, x) ∈ Y.2.2.1) (he : Y.2.2.2.2.1 N k x = .inr (ci, fs)) (hc : bn_cl[ci]? = some q) {As : List Value} : PreV s H q.1 (Y.2.2.2.1 k x) (va_Pc (.ref (Y.2.2.2.1 k x) :: As) (bn_Pre Y N H.size)) As := by
  obtain ⟨hP, hD, hS, hN⟩ := h
  obtain ⟨q0, h0⟩ := bn_wl_get (ad := Y.2.2.2.1) (ce := Y.2.2.2.2.1 N) hm
  rw [he] at h0
  exact ⟨bn_blind Y N _ H.size, va_recv F.2.2.2.2 hP hc h0, fun U hU hW => ⟨rfl, by rw [hU], by rw [hU]; exact hP, va_K.moved hW.alike F.2.2.2.2, hD.weaken (fun _ _ _ _ => trivial), hN⟩⟩
/-- behind a call -/
theorem bn_back {H1 : Heap} {locs1 : List Loc} {t : State} (F : bn_F p s m args c cc own Y) (ht : t.heap = H1) (hvm : s.vm.Alike t.vm) (hB : bn_Post Y (bn_AY Y H.size) N' t) (h : bn_H Y s.heap H locs N) (hS1 : va_S (bn_AY Y s.heap.size) s.heap H1 locs1) : bn_H Y s.heap H1 locs1 N' := by
  obtain ⟨hP1, -, hD1, hN1⟩ := hB
  rw [ht] at hP1
  exact ⟨hP1, hD1.weaken (fun _ _ _ hq => bn_A.mono h.2.2.1.1 hq), hS1, hN1⟩
theorem bn_callv {a : Array Value} (F : bn_F p s m args c cc own Y) (h : bn_H Y s.heap H locs N) (hr : va_Run p l e R s m args below meth c H locs cells slots 0 0 (F0 m pc ls st0) rest (va_Qv (fun u : bn_S => u = N') (bn_Post Y (bn_AY Y H.size)) (bn_AY Y H.size) a) (bn_AY Y H.size))
    (kk : ∀ (H1 : Heap) (locs1 : List Loc), bn_H Y s.heap H1 locs1 N' → W p l e R s m args below meth c H1 locs1 cells slots Q (F0 m (pc + 3) ls rest)) : W p l e R s m args below meth c H locs cells slots Q (F0 m pc ls st0) := by
  refine va_callv hr h.2.2.1 (fun q _ hq => bn_A.mono h.2.2.1.1 hq) (fun q hq => bn_A.mono h.2.2.1.1 hq) (fun u t H1 locs1 ht hvm hu hB _ _ hS1 => ?_)
  subst hu
  exact kk H1 locs1 (bn_back F ht hvm hB h hS1)
theorem bn_calli {a : Array Value} {r : Int32} (F : bn_F p s m args c cc own Y) (h : bn_H Y s.heap H locs N) (hr : va_Run p l e R s m args below meth c H locs cells slots 0 0 (F0 m pc ls st0) rest (va_Qi (fun (v : Int32) (u : bn_S) => v = r ∧ u = N') (bn_Post Y (bn_AY Y H.size)) (bn_AY Y H.size) a) (bn_AY Y H.size))
    (kk : ∀ (H1 : Heap) (locs1 : List Loc), bn_H Y s.heap H1 locs1 N' → W p l e R s m args below meth c H1 locs1 cells slots Q (F0 m (pc + 3) ls (.int r :: rest))) : W p l e R s m args below meth c H locs cells slots Q (F0 m pc ls st0) := by
  refine va_calli hr h.2.2.1 (fun q _ hq => bn_A.mono h.2.2.1.1 hq) (fun q hq => bn_A.mono h.2.2.1.1 hq) (fun v u t H1 locs1 ht hvm hu hB _ _ hS1 => ?_)
  obtain ⟨rfl, rfl⟩ := hu
  exact kk H1 locs1 (bn_back F ht hvm hB h hS1)
theorem bn_calll {a : Array Value} {r : Int64} (F : bn_F p s m args c cc own Y) (h : bn_H Y s.heap H locs N) (hr : va_Run p l e R s m args below meth c H locs cells slots 0 0 (F0 m pc ls st0) rest (va_Ql (fun (v : Int64) (u : bn_S) => v = r ∧ u = N') (bn_Post Y (bn_AY Y H.size)) (bn_AY Y H.size) a) (bn_AY Y H.size))
    (kk : ∀ (H1 : Heap) (locs1 : List Loc), bn_H Y s.heap H1 locs1 N' → W p l e R s m args below meth c H1 locs1 cells slots Q (F0 m (pc + 3) ls (.long r :: rest))) : W p l e R s m args below meth c H locs cells slots Q (F0 m pc ls st0) := by
  refine va_calll hr h.2.2.1 (fun q _ hq => bn_A.mono h.2.2.1.1 hq) (fun q hq => bn_A.mono h.2.2.1.1 hq) (fun v u t H1 locs1 ht hvm hu hB _ _ hS1 => ?_)
  obtain ⟨rfl, rfl⟩ := hu
  exact kk H1 locs1 (bn_back F ht hvm hB h hS1)
theorem bn_callq {a : Array Value} {r : Option Nat} (F : bn_F p s m args c cc own Y) (h : bn_H Y s.heap H locs N) (hr : va_Run p l e R s m args below meth c H locs cells slots 0 0 (F0 m pc ls st0) rest (va_Qq (fun (v : Option Nat) (u : bn_S) => v = r ∧ u = N') (bn_Post Y (bn_AY Y H.size)) (bn_AY Y H.size) a) (bn_AY Y H.size))
    (kk : ∀ (H1 : Heap) (locs1 : List Loc), bn_H Y s.heap H1 locs1 N' → W p l e R s m args below meth c H1 locs1 cells slots Q (F0 m (pc + 3) ls (va_rf r :: rest))) : W p l e R s m args below meth c H locs cells slots Q (F0 m pc ls st0) := by
  refine va_callq hr h.2.2.1 (fun q _ hq => bn_A.mono h.2.2.1.1 hq) (fun q hq => bn_A.mono h.2.2.1.1 hq) (fun v u t H1 locs1 ht hvm hu hB _ _ hS1 => ?_)
  obtain ⟨rfl, rfl⟩ := hu
  exact kk H1 locs1 (bn_back F ht hvm hB h hS1)
end BNE
section BNG
variable {p : Program} {l : Launch} {e : Env} {R : Room} {s : State} {m : MethodId} {args : Array Value} {below : List Frame} {meth : Method} {c : Code} {H : Heap} {locs : List Loc} {cells slots : Nat} {Q : State → Prop}
variable {cc : ByteArray} {pc : Nat} {ls : Array Slot} {rest st0 : List Value} {Y : bn_Y} {N N' : bn_S} {own : String} {k x : Nat}
theorem bn_ti {x y : Int32} (h : x = y) (kk : W p l e R s m args below meth c H locs cells slots Q (F0 m pc ls (.int y :: rest))) : W p l e R s m args below meth c H locs cells slots Q (F0 m pc ls (.int x :: rest)) := h ▸ kk
theorem bn_tl {x y : Int64} (h : x = y) (kk : W p l e R s m args below meth c H locs cells slots Q (F0 m pc ls (.long y :: rest))) : W p l e R s m args below meth c H locs cells slots Q (F0 m pc ls (.long x :: rest)) := h ▸ kk
theorem bn_st {st st' : List Value} (h : st = st') (kk : W p l e R s m args below meth c H locs cells slots Q (F0 m pc ls st')) : W p l e R s m args below meth c H locs cells slots Q (F0 m pc ls st) := h ▸ kk
theorem bn_get (F : bn_F p s m args c cc own Y) (h : bn_H Y s.heap H locs N) (hm : (k, x) ∈ Y.2.2.1) {C : String} {T : u_T} {n ci index : Nat} {fs : List Value} (he : Y.2.2.2.2.1 N k x = .inr (ci, fs)) (hc : bn_cl[ci]? = some (C, T, n)) (hin : ∀ w ∈ u_ws C T n, w ∈ bn_all) (j : Nat) (hj : j < n) (hT : (T j).1 = C)
    (hlink : Cond.fieldLink own index C (T j).2.1 (T j).2.2.1 ∈ bn_all) {v : Value} (hv : fs[j]? = some v) (hdg : decode cc pc = .ok (.getfield index, 3)) (kk : W p l e R s m args below meth c H locs cells slots Q (F0 m (pc + 3) ls (v :: rest))) : W p l e R s m args below meth c H locs cells slots Q (F0 m pc ls (.ref (Y.2.2.2.1 k x) :: rest)) := by
  obtain ⟨q, hq⟩ := bn_wl_get (ad := Y.2.2.2.1) (ce := Y.2.2.2.2.1 N) hm
  rw [he] at hq
  exact va_get (ref := C) F.1 F.2.1 F.2.2.2.1 hin F.2.2.1 F.2.2.2.2 h.1 q hq hc j hj (F.2.2.2.1 _ hlink) (fun _ h9 => by rw [hT] at h9; exact h9) hv hdg kk
theorem bn_put (F : bn_F p s m args c cc own Y) (h : bn_H Y s.heap H locs N) (hm : (k, x) ∈ Y.2.2.1) {C : String} {T : u_T} {n ci index : Nat} {fs : List Value} (he : Y.2.2.2.2.1 N k x = .inr (ci, fs)) (hc : bn_cl[ci]? = some (C, T, n)) (hin : ∀ w ∈ u_ws C T n, w ∈ bn_all)
    (ty0 : Nat → FieldType) (hty : ∀ k, k < n → parseFieldDescriptor (T k).2.2.1 = some (ty0 k)) (hnm : ∀ a, a < n → ∀ b, b < n → a ≠ b → (T a).2.1 ≠ (T b).2.1) (j : Nat) (hj : j < n) (hT : (T j).1 = C) (hfin : (T j).2.2.2 = false)
    (hlink : Cond.fieldLink own index C (T j).2.1 (T j).2.2.1 ∈ bn_all) {v : Value} (hn : narrow (ty0 j) v = v) (hfit : fits (ty0 j) v = true) (hl : j < fs.length) (h1 : Y.2.2.2.2.1 N' k x = .inr (ci, fs.set j v)) (h2 : ∀ k' x' : Nat, ¬ (k' = k ∧ x' = x) → Y.2.2.2.2.1 N' k' x' = Y.2.2.2.2.1 N k' x') (hN' : Y.2.2.2.2.2 N')
    (hdg : decode cc pc = .ok (.putfield index, 3)) (kk : ∀ (H1 : Heap) (locs1 : List Loc), bn_H Y s.heap H1 locs1 N' → W p l e R s m args below meth c H1 locs1 cells slots Q (F0 m (pc + 3) ls rest)) : W p l e R s m args below meth c H locs cells slots Q (F0 m pc ls (v :: .ref (Y.2.2.2.1 k x) :: rest)) := by
  obtain ⟨q, hq⟩ := bn_wl_get (ad := Y.2.2.2.1) (ce := Y.2.2.2.2.1 N) hm
  rw [he] at hq
  obtain ⟨hP, hD, hS, hN⟩ := h
  refine va_put (ref := C) F.1 F.2.1 F.2.2.2.1 hin ty0 hty hnm F.2.2.1 F.2.2.2.2 hP hD hS q hq hc j hj (F.2.2.2.1 _ hlink) (fun _ h9 => by rw [hT] at h9; exact h9) hfin (hty j hj) hn hfit hl hdg (fun H1 locs1 hP1 hD1 hS1 => ?_)
  have hs := bn_wl_set hD hm hq h1 h2
  rw [hs] at hP1 hD1
  exact kk H1 locs1 ⟨hP1, hD1, hS1, hN'⟩
/-- arrays: of ints (also of small naturals), of longs, of references that stay -/
theorem bn_ild (F : bn_F p s m args c cc own Y) (h : bn_H Y s.heap H locs N) (hm : (k, x) ∈ Y.2.2.1) {cA : ClassId} {n t0 : Nat} {f : Nat → Int32} (he : Y.2.2.2.2.1 N k x = .inl (cA, n, .inl f)) (ht : Y.2.1[t0]? = some (cA, .int)) {i : Nat} (hi : i < n) (hn : n < 2 ^ 31) (hdg : decode cc pc = .ok (.iaload, 1))
    (kk : W p l e R s m args below meth c H locs cells slots Q (F0 m (pc + 1) ls (.int (f i) :: rest))) : W p l e R s m args below meth c H locs cells slots Q (F0 m pc ls (.int (nI i) :: .ref (Y.2.2.2.1 k x) :: rest)) := by
  obtain ⟨q, hq⟩ := bn_wl_get (ad := Y.2.2.2.1) (ce := Y.2.2.2.2.1 N) hm
  rw [he] at hq
  refine va_iald F.1 F.2.1 F.2.2.2.2 h.1 q t0 hq ht (vp_in_nI hi hn) hdg ?_
  rw [nI_clamp (by omega)]
  exact kk
theorem bn_zld (F : bn_F p s m args c cc own Y) (h : bn_H Y s.heap H locs N) (hm : (k, x) ∈ Y.2.2.1) {cA : ClassId} {n t0 : Nat} {f : Nat → Int32} (he : Y.2.2.2.2.1 N k x = .inl (cA, n, .inl f)) (ht : Y.2.1[t0]? = some (cA, .boolean)) {i : Nat} (hi : i < n) (hn : n < 2 ^ 31) (hdg : decode cc pc = .ok (.baload, 1))
    (kk : W p l e R s m args below meth c H locs cells slots Q (F0 m (pc + 1) ls (.int (f i) :: rest))) : W p l e R s m args below meth c H locs cells slots Q (F0 m pc ls (.int (nI i) :: .ref (Y.2.2.2.1 k x) :: rest)) := by
  obtain ⟨q, hq⟩ := bn_wl_get (ad := Y.2.2.2.1) (ce := Y.2.2.2.2.1 N) hm
  rw [he] at hq
  refine va_zald F.1 F.2.1 F.2.2.2.2 h.1 q t0 hq ht (vp_in_nI hi hn) hdg ?_
  rw [nI_clamp (by omega)]
  exact kk
theorem bn_lld (F : bn_F p s m args c cc own Y) (h : bn_H Y s.heap H locs N) (hm : (k, x) ∈ Y.2.2.1) {cA : ClassId} {n t0 : Nat} {f : Nat → Int64} (he : Y.2.2.2.2.1 N k x = .inl (cA, n, .inr (.inl f))) (ht : Y.2.1[t0]? = some (cA, .long)) {i : Nat} (hi : i < n) (hn : n < 2 ^ 31) (hdg : decode cc pc = .ok (.laload, 1))
    (kk : W p l e R s m args below meth c H locs cells slots Q (F0 m (pc + 1) ls (.long (f i) :: rest))) : W p l e R s m args below meth c H locs cells slots Q (F0 m pc ls (.int (nI i) :: .ref (Y.2.2.2.1 k x) :: rest)) := by
  obtain ⟨q, hq⟩ := bn_wl_get (ad := Y.2.2.2.1) (ce := Y.2.2.2.2.1 N) hm
  rw [he] at hq
  refine va_lald F.1 F.2.1 F.2.2.2.2 h.1 q t0 hq ht (vp_in_nI hi hn) hdg ?_
  rw [nI_clamp (by omega)]
  exact kk
theorem bn_ald (F : bn_F p s m args c cc own Y) (h : bn_H Y s.heap H locs N) (hm : (k, x) ∈ Y.2.2.1) {cA : ClassId} {C : String} {n t0 a : Nat} {f : Nat → Option Nat} (he : Y.2.2.2.2.1 N k x = .inl (cA, n, .inr (.inr (.inr (.inr f))))) (ht : Y.2.1[t0]? = some (cA, .object C)) {i : Nat} (hi : i < n) (hn : n < 2 ^ 31) (hf : f i = some a) (hdg : decode cc pc = .ok (.aaload, 1))
    (kk : W p l e R s m args below meth c H locs cells slots Q (F0 m (pc + 1) ls (.ref a :: rest))) : W p l e R s m args below meth c H locs cells slots Q (F0 m pc ls (.int (nI i) :: .ref (Y.2.2.2.1 k x) :: rest)) := by
  obtain ⟨q, hq⟩ := bn_wl_get (ad := Y.2.2.2.1) (ce := Y.2.2.2.2.1 N) hm
  rw [he] at hq
  refine va_aldq F.1 F.2.1 F.2.2.2.2 h.1 q t0 hq ht (vp_in_nI hi hn) hdg ?_
  rw [nI_clamp (by omega), hf]
  exact kk
theorem bn_alen (F : bn_F p s m args c cc own Y) (h : bn_H Y s.heap H locs N) (hm : (k, x) ∈ Y.2.2.1) {cA : ClassId} {a : vp_A} {t0 n : Nat} {ty : FieldType} (he : Y.2.2.2.2.1 N k x = .inl (cA, a)) (ht : Y.2.1[t0]? = some (cA, ty)) (hn : a.1 = n) (hdg : decode cc pc = .ok (.arraylength, 1))
    (kk : W p l e R s m args below meth c H locs cells slots Q (F0 m (pc + 1) ls (.int (nI n) :: rest))) : W p l e R s m args below meth c H locs cells slots Q (F0 m pc ls (.ref (Y.2.2.2.1 k x) :: rest)) := by
  obtain ⟨q, hq⟩ := bn_wl_get (ad := Y.2.2.2.1) (ce := Y.2.2.2.2.1 N) hm
  rw [he] at hq
  exact va_alen F.1 F.2.1 F.2.2.2.2 h.1 q t0 hq ht (by rw [hn]; rfl) hdg kk
theorem bn_ist (F : bn_F p s m args c cc own Y) (h : bn_H Y s.heap H locs N) (hm : (k, x) ∈ Y.2.2.1) {cA : ClassId} {n t0 : Nat} {f : Nat → Int32} (he : Y.2.2.2.2.1 N k x = .inl (cA, n, .inl f)) (ht : Y.2.1[t0]? = some (cA, .int)) {i : Nat} {v : Int32} (hi : i < n) (hn : n < 2 ^ 31)
    (h1 : Y.2.2.2.2.1 N' k x = .inl (cA, n, .inl (upd f i v))) (h2 : ∀ k' x' : Nat, ¬ (k' = k ∧ x' = x) → Y.2.2.2.2.1 N' k' x' = Y.2.2.2.2.1 N k' x') (hN' : Y.2.2.2.2.2 N') (hdg : decode cc pc = .ok (.iastore, 1))
    (kk : ∀ (H1 : Heap) (locs1 : List Loc), bn_H Y s.heap H1 locs1 N' → W p l e R s m args below meth c H1 locs1 cells slots Q (F0 m (pc + 1) ls rest)) : W p l e R s m args below meth c H locs cells slots Q (F0 m pc ls (.int v :: .int (nI i) :: .ref (Y.2.2.2.1 k x) :: rest)) := by
  obtain ⟨q, hq⟩ := bn_wl_get (ad := Y.2.2.2.1) (ce := Y.2.2.2.2.1 N) hm
  rw [he] at hq
  obtain ⟨hP, hD, hS, hN⟩ := h
  refine va_iast F.1 F.2.1 F.2.2.2.2 hP hD hS q t0 hq ht (vp_in_nI hi hn) hdg (fun H1 locs1 hP1 hD1 hS1 => ?_)
  rw [nI_clamp (by omega)] at hP1 hD1
  have hs := bn_wl_set hD hm hq h1 h2
  rw [hs] at hP1 hD1
  exact kk H1 locs1 ⟨hP1, hD1, hS1, hN'⟩
theorem bn_zst (F : bn_F p s m args c cc own Y) (h : bn_H Y s.heap H locs N) (hm : (k, x) ∈ Y.2.2.1) {cA : ClassId} {n t0 : Nat} {f : Nat → Int32} (he : Y.2.2.2.2.1 N k x = .inl (cA, n, .inl f)) (ht : Y.2.1[t0]? = some (cA, .boolean)) {i : Nat} {v : Int32} (hi : i < n) (hn : n < 2 ^ 31) (hv : vp_nar .boolean v = v)
    (h1 : Y.2.2.2.2.1 N' k x = .inl (cA, n, .inl (upd f i v))) (h2 : ∀ k' x' : Nat, ¬ (k' = k ∧ x' = x) → Y.2.2.2.2.1 N' k' x' = Y.2.2.2.2.1 N k' x') (hN' : Y.2.2.2.2.2 N') (hdg : decode cc pc = .ok (.bastore, 1))
    (kk : ∀ (H1 : Heap) (locs1 : List Loc), bn_H Y s.heap H1 locs1 N' → W p l e R s m args below meth c H1 locs1 cells slots Q (F0 m (pc + 1) ls rest)) : W p l e R s m args below meth c H locs cells slots Q (F0 m pc ls (.int v :: .int (nI i) :: .ref (Y.2.2.2.1 k x) :: rest)) := by
  obtain ⟨q, hq⟩ := bn_wl_get (ad := Y.2.2.2.1) (ce := Y.2.2.2.2.1 N) hm
  rw [he] at hq
  obtain ⟨hP, hD, hS, hN⟩ := h
  refine va_zast F.1 F.2.1 F.2.2.2.2 hP hD hS q t0 hq ht (vp_in_nI hi hn) hdg (fun H1 locs1 hP1 hD1 hS1 => ?_)
  rw [nI_clamp (by omega), hv] at hP1 hD1
  have hs := bn_wl_set hD hm hq h1 h2
  rw [hs] at hP1 hD1
  exact kk H1 locs1 ⟨hP1, hD1, hS1, hN'⟩
theorem bn_lst (F : bn_F p s m args c cc own Y) (h : bn_H Y s.heap H locs N) (hm : (k, x) ∈ Y.2.2.1) {cA : ClassId} {n t0 : Nat} {f : Nat → Int64} (he : Y.2.2.2.2.1 N k x = .inl (cA, n, .inr (.inl f))) (ht : Y.2.1[t0]? = some (cA, .long)) {i : Nat} {v : Int64} (hi : i < n) (hn : n < 2 ^ 31)
    (h1 : Y.2.2.2.2.1 N' k x = .inl (cA, n, .inr (.inl (vp_updL f i v)))) (h2 : ∀ k' x' : Nat, ¬ (k' = k ∧ x' = x) → Y.2.2.2.2.1 N' k' x' = Y.2.2.2.2.1 N k' x') (hN' : Y.2.2.2.2.2 N') (hdg : decode cc pc = .ok (.lastore, 1))
    (kk : ∀ (H1 : Heap) (locs1 : List Loc), bn_H Y s.heap H1 locs1 N' → W p l e R s m args below meth c H1 locs1 cells slots Q (F0 m (pc + 1) ls rest)) : W p l e R s m args below meth c H locs cells slots Q (F0 m pc ls (.long v :: .int (nI i) :: .ref (Y.2.2.2.1 k x) :: rest)) := by
  obtain ⟨q, hq⟩ := bn_wl_get (ad := Y.2.2.2.1) (ce := Y.2.2.2.2.1 N) hm
  rw [he] at hq
  obtain ⟨hP, hD, hS, hN⟩ := h
  refine va_last F.1 F.2.1 F.2.2.2.2 hP hD hS q t0 hq ht (vp_in_nI hi hn) hdg (fun H1 locs1 hP1 hD1 hS1 => ?_)
  rw [nI_clamp (by omega)] at hP1 hD1
  have hs := bn_wl_set hD hm hq h1 h2
  rw [hs] at hP1 hD1
  exact kk H1 locs1 ⟨hP1, hD1, hS1, hN'⟩
end BNG
/-- words -/
theorem bn_goodW {w : Cond} (h : w ∈ bn_all) : (w.onTables && w.keeps) = true ∨ ∃ ty, w = .arrayClass ty := good_of_word (List.mem_filter.mp h).2
theorem bn_goodV {own C : String} {idx maxL : Nat} {y : MethodName} {cc : ByteArray} {ret : Option FieldType} (h1 : Cond.methodLink own idx y ∈ bn_all) (h2 : Cond.instanceMethod y ∈ bn_all) (h3 : Cond.selects C y y ∈ bn_all) (h4 : Cond.initialized C ∈ bn_all) (h5 : Cond.code y cc maxL ret ∈ bn_all) : GoodIn bn_all (wsV own idx C y (Cond.code y cc maxL ret :: bn_all)) := by
  intro w hw
  have h : w ∈ bn_all := by
    simp only [wsV, List.cons_append, List.nil_append, List.mem_cons] at hw
    rcases hw with rfl | rfl | rfl | rfl | rfl | hw
    · exact h1
    · exact h2
    · exact h3
    · exact h4
    · exact h5
    · exact hw
  exact ⟨h, bn_goodW h⟩
theorem bn_goodS {own : String} {idx maxL : Nat} {y : MethodName} {cc : ByteArray} {ret : Option FieldType} (h1 : Cond.methodLink own idx y ∈ bn_all) (h2 : Cond.static y ∈ bn_all) (h4 : Cond.initialized y.cls ∈ bn_all) (h5 : Cond.code y cc maxL ret ∈ bn_all) : GoodIn bn_all (va_wsS own idx y (Cond.code y cc maxL ret :: bn_all)) := by
  intro w hw
  have h : w ∈ bn_all := by
    simp only [va_wsS, List.cons_append, List.nil_append, List.mem_cons] at hw
    rcases hw with rfl | rfl | rfl | rfl | hw
    · exact h1
    · exact h2
    · exact h4
    · exact h5
    · exact hw
  exact ⟨h, bn_goodW h⟩
theorem bn_goodC {maxL : Nat} {y : MethodName} {cc : ByteArray} {ret : Option FieldType} (h5 : Cond.code y cc maxL ret ∈ bn_all) : GoodIn bn_all (Cond.code y cc maxL ret :: bn_all) := by
  intro w hw
  have h : w ∈ bn_all := by
    rcases List.mem_cons.mp hw with rfl | hw
    · exact h5
    · exact hw
  exact ⟨h, bn_goodW h⟩
section BNC
variable {p : Program} {l : Launch} {e : Env} {R : Room} {s : State} {m : MethodId} {args : Array Value} {below : List Frame} {meth : Method} {c : Code} {H : Heap} {locs : List Loc} {cells slots : Nat} {Q : State → Prop}
variable {cc bytes : ByteArray} {pc nL n index maxL : Nat} {ls : Array Slot} {rest st0 As : List Value} {Y : bn_Y} {N N' : bn_S} {own C : String} {k x ci : Nat} {y : MethodName} {ret : Option FieldType} {rm : Room} {Qc : Array Value → State → Outcome → State → Prop} {free : Addr → Prop} {fs : List Value} {q : vw_C}
theorem bn_runV (F : bn_F p s m args c cc own Y) (hml : c.maxLocals = nL) (hsz : ls.size = nL) (h : bn_H Y s.heap H locs N) (hm : (k, x) ∈ Y.2.2.1) (he : Y.2.2.2.2.1 N k x = .inr (ci, fs)) (hc : bn_cl[ci]? = some q) (hM : Met l y (Cond.code y bytes maxL ret :: bn_all) rm (va_Pc (.ref (Y.2.2.2.1 k x) :: As) (bn_Pre Y N H.size)) Qc 0 0 free)
    (G : GoodIn bn_all (wsV own index q.1 y (Cond.code y bytes maxL ret :: bn_all))) (hrc : rm.cells = 0) (hrs : rm.slots = 0) (hd : y.cls = q.1 ∧ y.cls ≠ "java/lang/invoke/MethodHandle" ∧ y.cls ≠ "java/lang/invoke/VarHandle" ∧ (parseMethodDescriptor y.desc).map (fun d => d.parameters.length) = some n) (hR : rm.frames + 1 ≤ R.frames ∧ 8 + (maxL + 11) + rm.locals ≤ R.locals)
    (hn : As.length = n) (hst : st0 = As.reverse ++ .ref (Y.2.2.2.1 k x) :: rest) (hW : (rest.map fun v => v.category).sum ≤ 8) (hdg : decode cc pc = .ok (.invokevirtual index, 3)) (hf : cells ≤ R.cells ∧ slots ≤ R.slots) :
    va_Run p l e R s m args below meth c H locs cells slots 0 0 (F0 m pc ls st0) rest (Qc (Value.ref (Y.2.2.2.1 k x) :: As).toArray) free :=
  va_runV ⟨F.1, F.2.1, hml, F.2.2.1, F.2.2.2.1⟩ hM (cwV n F.2.2.2.1 G rfl hrc hrs hd hR) (bn_preV F h hm he hc) rfl hn hsz hst (lv_room hW) hdg hf
theorem bn_runS (F : bn_F p s m args c cc own Y) (hml : c.maxLocals = nL) (hsz : ls.size = nL) (h : bn_H Y s.heap H locs N) (hM : Met l y (Cond.code y bytes maxL ret :: bn_all) rm (va_Pc As (bn_Pre Y N H.size)) Qc 0 0 free)
    (G : GoodIn bn_all (va_wsS own index y (Cond.code y bytes maxL ret :: bn_all))) (hrc : rm.cells = 0) (hrs : rm.slots = 0) (hd : y.cls ≠ "java/lang/invoke/MethodHandle" ∧ y.cls ≠ "java/lang/invoke/VarHandle" ∧ (parseMethodDescriptor y.desc).map (fun d => d.parameters.length) = some n) (hR : rm.frames + 1 ≤ R.frames ∧ 8 + (maxL + 11) + rm.locals ≤ R.locals)
    (hn : As.length = n) (hst : st0 = As.reverse ++ rest) (hW : (rest.map fun v => v.category).sum ≤ 8) (hdg : decode cc pc = .ok (.invokestatic index, 3)) (hf : cells ≤ R.cells ∧ slots ≤ R.slots) :
    va_Run p l e R s m args below meth c H locs cells slots 0 0 (F0 m pc ls st0) rest (Qc As.toArray) free :=
  va_runS ⟨F.1, F.2.1, hml, F.2.2.1, F.2.2.2.1⟩ hM (va_cwS n F.2.2.2.1 G rfl hrc hrs hd hR) (bn_preS F h) rfl hn hsz hst (lv_room hW) hdg hf
end BNC
