/-! an exception that comes back from a call is caught by the caller's own table, whose classes may not be resolved yet -/
section CXF
variable {e : Env} {f : JFrame} {a : Addr}
theorem cx_note {s₀ : State} {v : Vm} {pl : Platform} {d j c : Nat} (hW : s₀.WarmedH v) (hl : s₀.vm.ClassLinks pl d j c) : s₀.WarmedH (v.noted d j (.cls c)) ∧ ∃ k, v.classes[c]? = some k := by
  obtain ⟨dk, _, _, kt, hd, _, _, _, _, hkt, _, hopen⟩ := hl.here
  obtain ⟨kt', hkt', -⟩ := hW.alike.2.2 _ _ hkt
  exact ⟨hW.noted hd hopen (State.rightAt_cls hl), kt', hkt'⟩
theorem cx_one {Q : Handler → Pre} {E : CtlPost} {d : Bool} {acts : List Action} {S : State} {x : ExceptionTableEntry} {t : List ExceptionTableEntry} {c : ClassId} {cell : Cell} (hx : covers x f.pc = true) (h0 : x.catchType ≠ 0) (hl : S.vm.ClassLinks e.platform f.method.cls x.catchType c)
    (hcell : S.heap[a]? = some cell) (hobj : ∀ k, cell.vm ≠ .statics k) (hk : ∃ k, S.vm.classes[cell.cls]? = some k) (hc : ∃ k, S.vm.classes[c]? = some k) :
    wp (findHandler.go f a (x :: t)) Q E e d acts S ↔ if S.vm.assignable cell.cls c = true then Q (.found x.handlerPc) d acts (S.setVm (S.vm.noted f.method.cls x.catchType (.cls c))) else wp (findHandler.go f a t) Q E e d acts (S.setVm (S.vm.noted f.method.cls x.catchType (.cls c))) := by
  have hx' : (decide (x.startPc ≤ f.pc) && decide (f.pc < x.endPc)) = true := hx
  obtain ⟨h1, h2⟩ := (resolveClass_links e.toSetting hl).op (op := VmOp.resolveClass f.method.cls x.catchType) rfl
  have hal : S.vm.Alike (S.vm.noted f.method.cls x.catchType (.cls c)) := (Vm.Alike.refl S.vm).noted _ _ _
  obtain ⟨ka, hka⟩ := hk
  obtain ⟨kb, hkb⟩ := hc
  obtain ⟨ka', hka', -⟩ := hal.2.2 _ _ hka
  obtain ⟨kb', hkb', -⟩ := hal.2.2 _ _ hkb
  have has : (S.vm.noted f.method.cls x.catchType (.cls c)).assignable cell.cls c = S.vm.assignable cell.cls c := hal.assignable ..
  cases hf : S.vm.assignable cell.cls c with
  | false =>
    rw [hf] at has
    simp [findHandler.go, hx', h0, h1, h2, hcell, hobj, hka', hkb', has, VmOp.dirties, VmOp.acts]
  | true =>
    rw [hf] at has
    simp [findHandler.go, hx', h0, h1, h2, hcell, hobj, hka', hkb', has, VmOp.dirties, VmOp.acts]
theorem cx_find {s₀ : State} {cell : Cell} (hobj : ∀ k, cell.vm ≠ .statics k) (hk0 : ∃ k, s₀.vm.classes[cell.cls]? = some k) {x : ExceptionTableEntry} {rest : List ExceptionTableEntry} (hx : covers x f.pc = true) (hx0 : x.catchType ≠ 0) {cx : ClassId} (hxl : s₀.vm.ClassLinks e.platform f.method.cls x.catchType cx) (hxa : s₀.vm.assignable cell.cls cx = true) :
    ∀ (pre : List ExceptionTableEntry) (S : State), s₀.WarmedH S.vm → S.heap[a]? = some cell → (∀ y ∈ pre, covers y f.pc = true ∧ y.catchType ≠ 0 ∧ ∃ cy, s₀.vm.ClassLinks e.platform f.method.cls y.catchType cy ∧ s₀.vm.assignable cell.cls cy = false) →
      ∃ vm', s₀.WarmedH vm' ∧ ∀ (Q : Handler → Pre) (E : CtlPost) (d : Bool) (acts : List Action), wp (findHandler.go f a (pre ++ x :: rest)) Q E e d acts S ↔ Q (.found x.handlerPc) d acts (S.setVm vm') := by
  intro pre
  induction pre with
  | nil =>
    intro S hW hcell _
    obtain ⟨k0, hk0⟩ := hk0
    obtain ⟨k0', hk0', -⟩ := hW.alike.2.2 _ _ hk0
    obtain ⟨hW', hcx⟩ := cx_note hW hxl
    refine ⟨_, hW', fun Q E d acts => ?_⟩
    rw [List.nil_append, cx_one hx hx0 (hW.classLinks hxl) hcell hobj ⟨k0', hk0'⟩ hcx, if_pos (by rw [hW.alike.assignable]; exact hxa)]
  | cons y t ih =>
    intro S hW hcell hall
    obtain ⟨k0, hk0'⟩ := hk0
    obtain ⟨k0', hk0'', -⟩ := hW.alike.2.2 _ _ hk0'
    obtain ⟨hy, hy0, cy, hyl, hya⟩ := hall y List.mem_cons_self
    obtain ⟨hW', hcy⟩ := cx_note hW hyl
    obtain ⟨vm', h1, h2⟩ := ih (S.setVm (S.vm.noted f.method.cls y.catchType (.cls cy))) hW' hcell (fun z hz => hall z (List.mem_cons_of_mem _ hz))
    refine ⟨vm', h1, fun Q E d acts => ?_⟩
    rw [List.cons_append, cx_one hy hy0 (hW.classLinks hyl) hcell hobj ⟨k0', hk0''⟩ hcy, if_neg (by rw [hW.alike.assignable, hya]; decide), h2]
    rfl
theorem cx_step {S : State} {r : List Frame} {pc : Nat} {vm' : Vm} (hfind : ∀ (Q : Handler → Pre) (E : CtlPost) (d : Bool) (acts : List Action), wp (findHandler f a) Q E e d acts S ↔ Q (.found pc) d acts (S.setVm vm')) :
    (stepThrowing e S a (.java f :: r)).Is ((S.setVm vm').setFrames (.java { f with pc := pc, stack := [.ref a] } :: r)) [] := by
  simp only [stepThrowing, searchFrame, vmDo]
  generalize hr : Sem.go _ e false [] S = res
  obtain ⟨as, rfl, ha⟩ := Sem.eq_ok_of hr (a := Handler.found pc) (s' := S.setVm vm') (acts' := []) (by simp [hfind _ _ _ _])
  exact ⟨rfl, ha⟩
end CXF
section CXS
variable {p : Program} {l : Launch} {e : Env} {R : Room} {s : State} {m : MethodId} {args : Array Value} {below : List Frame} {meth : Method} {c : Code} {T : State} {locs : List Loc} {cells slots : Nat}
theorem cx_catch (X : Stand p l e R s m args below meth c T locs cells slots) {a : Addr} {g : JFrame} (hg : g.method = m) {own : String} (hown : s.vm.findClass own = some m.cls) {cell : Cell} (hcell : T.heap[a]? = some cell) (hobj : cell.vm.isStatics = false)
    {pre rest : List ExceptionTableEntry} {x : ExceptionTableEntry} (hsplit : c.exceptionTable.toList = pre ++ x :: rest)
    (hpre : ∀ y ∈ pre, covers y g.pc = true ∧ y.catchType ≠ 0 ∧ ∃ (ny : String) (cy : ClassId), (Cond.classLink own y.catchType ny).before args s = true ∧ s.vm.findClass ny = some cy ∧ s.vm.assignable cell.cls cy = false)
    (hx : covers x g.pc = true) (hx0 : x.catchType ≠ 0) {nx : String} {cx : ClassId} (hxl : (Cond.classLink own x.catchType nx).before args s = true) (hnx : s.vm.findClass nx = some cx) (hxa : s.vm.assignable cell.cls cx = true) :
    ∃ vm', Stand p l e R s m args below meth c (T.setVm vm') locs cells slots ∧ ∀ target, Steps p.tables e below ((T.setVm vm').setTop { g with pc := x.handlerPc, stack := [.ref a] }) target → Steps p.tables e below (T.setFrames (.throwing a :: .java g :: below)) target := by
  have hpl : e.platform.magicAccessors = ({} : Platform).magicAccessors := by rw [X.admits.platform]
  obtain ⟨cx', hcx', hxL⟩ := Cond.classLink_spec hown hxl e.platform hpl
  cases hnx.symm.trans hcx'
  subst hg
  obtain ⟨g₁, hfr⟩ := X.frames_eq
  have heq : (T.setTop g).pushFrame (.throwing a) = T.setFrames (.throwing a :: .java g :: below) := by
    rw [State.pushFrame, State.frames_setTop _ hfr, State.setTop_of_frames _ hfr, State.setFrames_setFrames]
  obtain ⟨vm', hW', hgo⟩ := cx_find (e := e) (f := g) (a := a) (s₀ := s) (cell := cell) (VmData.ne_statics_of hobj) (Vm.classAt_of_assignable hxa (Vm.classAt_of_findClass hnx)) hx hx0 hxL hxa (rest := rest) pre (T.setFrames (.throwing a :: .java g :: below)) X.warmed hcell (fun y hy => by
    obtain ⟨h1, h2, ny, cy, h3, h4, h5⟩ := hpre y hy
    obtain ⟨cy', hcy', hyL⟩ := Cond.classLink_spec hown h3 e.platform hpl
    cases h4.symm.trans hcy'
    exact ⟨h1, h2, cy, hyL, h5⟩)
  refine ⟨vm', X.noted hW', fun target hrest => ?_⟩
  obtain ⟨hgo1, hw⟩ := X.here.throwing a
  rw [← heq]
  refine Steps.head hgo1 hw ?_
  have hfind : ∀ (Q : Handler → Pre) (E : CtlPost) (d : Bool) (acts : List Action), wp (findHandler g a) Q E e d acts ((T.setTop g).pushFrame (.throwing a)) ↔ Q (.found x.handlerPc) d acts (((T.setTop g).pushFrame (.throwing a)).setVm vm') := by
    intro Q E d acts
    rw [heq]
    have h9 := hgo Q E d acts
    rw [← hsplit] at h9
    exact (W.findHandler_eq (s := T.setFrames (.throwing a :: .java g :: below)) (f := g) (meth := meth) (code := c) X.method' X.code).trans h9
  rw [stepThread_throwing (frames_entered X.here.top _), (cx_step (S := (T.setTop g).pushFrame (.throwing a)) hfind).1]
  have hfr' : (T.setVm vm').frames = .java g₁ :: below := hfr
  rw [State.setTop_of_frames _ hfr'] at hrest
  have e1 : (((T.setTop g).pushFrame (.throwing a)).setVm vm').setFrames (.java { g with pc := x.handlerPc, stack := [.ref a] } :: T.frames.tail) = (T.setVm vm').setFrames (.java { g with pc := x.handlerPc, stack := [.ref a] } :: below) := by
    rw [heq, hfr]
    have h1 : (T.setFrames (.throwing a :: .java g :: below)).setVm vm' = (T.setVm vm').setFrames (.throwing a :: .java g :: below) := rfl
    rw [h1, State.setFrames_setFrames]
    rfl
  rw [e1]
  exact hrest
end CXS
