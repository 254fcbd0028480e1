/-! what a throw asks of the tables and of Throwable's statics: it held at the law's start, and rides along while no cell of that start changes -/
theorem bo_lays {s U : State} {O f d : String} {A A' : Array Value} (hal : s.vm.Alike U.vm) (hh : ∀ (a : Addr) (k : Cell), s.heap[a]? = some k → U.heap[a]? = some k) (h : (Cond.laysStatic O f d).before A s = true) : (Cond.laysStatic O f d).before A' U = true := by
  obtain ⟨c, k, i, fd, a, cell, hc, hf, hst, hsta, hcell, hiss, hcls, hlt, hty⟩ := Cond.laysStatic_spec h
  obtain ⟨k', hf', he⟩ := State.fieldFound?_setVm hal hf
  have hf2 : U.fieldFound? O f d = some (c, k', i, fd) := hf'
  have hc2 : U.vm.findClass O = some c := by rw [hal.findClass]; exact hc
  have hs2 : k'.statics = some a := by rw [he]; exact hsta
  have ht2 : k'.staticTypes[fd.slot]? = some fd.type := by rw [he]; exact hty
  simp [Cond.before, Cond.holds, Cond.value, hc2, hf2, hst, hs2, hh a cell hcell, hiss, hcls, hlt, ht2]
theorem bo_isRef {s U : State} {O f d : String} {A A' : Array Value} (hal : s.vm.Alike U.vm) (hh : ∀ (a : Addr) (k : Cell), s.heap[a]? = some k → U.heap[a]? = some k) (hl : (Cond.laysStatic O f d).before A s = true) (h : (Cond.isRef (.static O f d)).before A s = true) : (Cond.isRef (.static O f d)).before A' U = true := by
  obtain ⟨c, k, i, fd, a, cell, hc, hf, hst, hsta, hcell, hiss, hcls, hlt, hty⟩ := Cond.laysStatic_spec hl
  obtain ⟨k', hf', he⟩ := State.fieldFound?_setVm hal hf
  have hf2 : U.fieldFound? O f d = some (c, k', i, fd) := hf'
  have hs2 : k'.statics = some a := by rw [he]; exact hsta
  have hcell2 := hh a cell hcell
  have hv : cell.slots[fd.slot]? = some cell.slots[fd.slot] := Array.getElem?_eq_getElem hlt
  have e1 : (Term.static O f d).eval A s none [] s = some cell.slots[fd.slot] := by
    simp [Term.eval, State.fieldNamed?, hf, hst, hsta, hcell, hiss, hv]
  have e2 : (Term.static O f d).eval A' U none [] U = some cell.slots[fd.slot] := by
    simp [Term.eval, State.fieldNamed?, hf2, hst, hs2, hcell2, hiss, hv]
  simp only [Cond.before, Cond.holds, Cond.value, e1] at h
  simp only [Cond.before, Cond.holds, Cond.value, e2]
  exact h
theorem bo_cast {s U : State} {w : Cond} {A A' : Array Value} (hal : s.vm.Alike U.vm) (hw : w.castAtom = true) (ht : w.onTables = true) (h : w.before A s = true) : w.before A' U = true :=
  va_tabs ht (rfl : (s.setVm U.vm).vm = U.vm) (Cond.castAtom_setVm hal w hw h)
theorem bo_decl {s U : State} {x : MethodName} {A A' : Array Value} (hal : s.vm.Alike U.vm) (h : (Cond.declares x).before A s = true) : (Cond.declares x).before A' U = true :=
  va_tabs rfl (rfl : (s.setVm U.vm).vm = U.vm) (by rw [Cond.declares_setVm hal]; exact h)
/-- the state U has come from a start at which the tables' words and the claim's premises held; no cell of that start has changed -/
def bx_O (U : State) : Prop := ∃ (s0 : State) (A0 : Array Value), (∀ w ∈ lw_tbl, w.before A0 s0 = true) ∧ (Jvm.Cond.and given_1 narrow_1).before A0 s0 = true ∧ s0.WarmedH U.vm ∧ ∀ (a : Addr) (k : Cell), s0.heap[a]? = some k → U.heap[a]? = some k
theorem bx_O.call {U : State} (h : bx_O U) (g : JFrame) (mk : MethodId) (a : Array Value) : bx_O (U.calling g mk a) := h
theorem bx_O.on {s U : State} (h : bx_O s) (hW : s.WarmedH U.vm) (hh : ∀ (a : Addr) (k : Cell), s.heap[a]? = some k → U.heap[a]? = some k) : bx_O U := by
  obtain ⟨s0, A0, h1, h2, h3, h4⟩ := h
  exact ⟨s0, A0, h1, h2, State.WarmedH.trans h3 hW, fun a k hk => hh a k (h4 a k hk)⟩
theorem bx_good {U : State} (h : bx_O U) {w : Cond} (hw : w ∈ bn_all) (A : Array Value) : w.before A U = true := by
  obtain ⟨s0, A0, h1, h2, h3, h4⟩ := h
  exact word_at h3 (bn_goodW hw) (h1 w (List.mem_filter.mp hw).1)
theorem bx_lays {U : State} (h : bx_O U) {O f d : String} (hw : Cond.laysStatic O f d ∈ lw_tbl) (A : Array Value) : (Cond.laysStatic O f d).before A U = true := by
  obtain ⟨s0, A0, h1, h2, h3, h4⟩ := h
  exact bo_lays h3.alike h4 (h1 _ hw)
theorem bx_isRef {U : State} (h : bx_O U) {O f d : String} (hw : Cond.laysStatic O f d ∈ lw_tbl) (hr : Cond.isRef (.static O f d) ∈ flatC (Jvm.Cond.and given_1 narrow_1)) (A : Array Value) : (Cond.isRef (.static O f d)).before A U = true := by
  obtain ⟨s0, A0, h1, h2, h3, h4⟩ := h
  exact bo_isRef h3.alike h4 (h1 _ hw) (flat_of_before _ h2 _ hr)
theorem bx_cast {U : State} (h : bx_O U) {w : Cond} (hw : w ∈ lw_tbl) (hc : w.castAtom = true) (ht : w.onTables = true) (A : Array Value) : w.before A U = true := by
  obtain ⟨s0, A0, h1, h2, h3, h4⟩ := h
  exact bo_cast h3.alike hc ht (h1 _ hw)
theorem bx_decl {U : State} (h : bx_O U) {x : MethodName} (hw : Cond.declares x ∈ lw_tbl) (A : Array Value) : (Cond.declares x).before A U = true := by
  obtain ⟨s0, A0, h1, h2, h3, h4⟩ := h
  exact bo_decl h3.alike (h1 _ hw)
