/-! the law's three methods that catch: which handler -/
def bx_ci : Nat → Nat
  | 1 => 13
  | 2 => 15
  | _ => 17
theorem bx_cl (k : Nat) (h0 : ¬ k = 0) (h4 : k < 4) : Cond.classLink "BridgeNetLaw" (bx_ci k) (bx_ex k) ∈ lw_tbl ∧ goodWord (Cond.classLink "BridgeNetLaw" (bx_ci k) (bx_ex k)) = true ∧ Cond.castable (bx_ex k) (bx_ex k) ∈ lw_tbl := by
  have h : k = 1 ∨ k = 2 ∨ k = 3 := by omega
  rcases h with rfl | rfl | rfl <;> decide +kernel
theorem bx_ap (k k' : Nat) (h0 : ¬ k = 0) (h4 : k < 4) (h0' : ¬ k' = 0) (h4' : k' < 4) (hne : ¬ k' = k) : Cond.not (Cond.castable (bx_ex k) (bx_ex k')) ∈ flatC (Jvm.Cond.and given_1 narrow_1) := by
  have h : k = 1 ∨ k = 2 ∨ k = 3 := by omega
  have h' : k' = 1 ∨ k' = 2 ∨ k' = 3 := by omega
  rcases h with rfl | rfl | rfl <;> rcases h' with rfl | rfl | rfl <;> first | exact absurd rfl hne | decide +kernel
theorem bx_ci0 (k : Nat) : bx_ci k ≠ 0 := by
  unfold bx_ci
  split <;> decide
/-- a table of handlers: (handler, kind) in order, all over the same stretch -/
def bx_tb (z : Nat) (ks : List (Nat × Nat)) : List (Nat × Nat × Nat × Nat) := ks.map (fun q => (0, z, q.1, bx_ci q.2))
section BXF
variable {p : Program} {l : Launch} {e : Env} {R : Room} {s : State} {m : MethodId} {args : Array Value} {below : List Frame} {meth : Method} {c : Code} {T : State} {locs : List Loc} {cells slots : Nat}
theorem bx_catch (X : Stand p l e R s m args below meth c T locs cells slots) (hO : bx_O s) (hown : s.vm.findClass "BridgeNetLaw" = some m.cls) {z : Nat} {ks1 ks2 : List (Nat × Nat)} {hp k : Nat} (htab : c.exceptionTable.toList.map (fun x => (x.startPc, x.endPc, x.handlerPc, x.catchType)) = bx_tb z (ks1 ++ (hp, k) :: ks2))
    (h0 : ¬ k = 0) (h4 : k < 4) (hks : ∀ q ∈ ks1, ¬ q.2 = k ∧ ¬ q.2 = 0 ∧ q.2 < 4) {g : JFrame} (hg : g.method = m) (hz : g.pc < z) {a : Addr} {cell : Cell} (hcell : T.heap[a]? = some cell) (hobj : cell.vm.isStatics = false) (hcls : s.vm.findClass (bx_ex k) = some cell.cls) :
    ∃ vm', Stand p l e R s m args below meth c (T.setVm vm') locs cells slots ∧ ∀ target, Steps p.tables e below ((T.setVm vm').setTop { g with pc := hp, stack := [.ref a] }) target → Steps p.tables e below (T.setFrames (.throwing a :: .java g :: below)) target := by
  unfold bx_tb at htab
  rw [List.map_append, List.map_cons] at htab
  obtain ⟨L1, L2, hL, hL1, hL2⟩ := List.map_eq_append_iff.mp htab
  obtain ⟨x, L3, hx, hx1, hx2⟩ := List.map_eq_cons_iff.mp hL2
  subst hx
  have hg1 : ∀ k' : Nat, ¬ k' = 0 → k' < 4 → (Cond.classLink "BridgeNetLaw" (bx_ci k') (bx_ex k')).before args s = true := fun k' q1 q2 => bx_good hO (List.mem_filter.mpr ⟨(bx_cl k' q1 q2).1, (bx_cl k' q1 q2).2.1⟩) args
  obtain ⟨e1, e2, e3, e4⟩ : x.startPc = 0 ∧ x.endPc = z ∧ x.handlerPc = hp ∧ x.catchType = bx_ci k := by
    injection hx1 with a1 a2
    injection a2 with a2 a3
    injection a3 with a3 a4
    exact ⟨a1, a2, a3, a4⟩
  have hh := cx_catch X hg hown hcell hobj hL (fun y hy => ?_) (x := x) (by simp [covers, e1, e2, hz]) (by rw [e4]; exact bx_ci0 k) (nx := bx_ex k) (cx := cell.cls) (by rw [e4]; exact hg1 k h0 h4) hcls (bx_same hO (bx_cl k h0 h4).2.2 hcls)
  · rw [e3] at hh
    exact hh
  · have h9 : (y.startPc, y.endPc, y.handlerPc, y.catchType) ∈ ks1.map (fun q => (0, z, q.1, bx_ci q.2)) := by
      rw [← hL1]
      exact List.mem_map.mpr ⟨y, hy, rfl⟩
    obtain ⟨q, hq, he⟩ := List.mem_map.mp h9
    obtain ⟨q1, q2, q3⟩ := hks q hq
    obtain ⟨f1, f2, f4⟩ : y.startPc = 0 ∧ y.endPc = z ∧ y.catchType = bx_ci q.2 := by
      injection he with a1 a2
      injection a2 with a2 a3
      injection a3 with a3 a4
      exact ⟨a1.symm, a2.symm, a4.symm⟩
    obtain ⟨cy, hcy, -⟩ := Cond.classLink_spec hown (hg1 q.2 q2 q3) ({} : Platform) rfl
    exact ⟨by simp [covers, f1, f2, hz], by rw [f4]; exact bx_ci0 q.2, bx_ex q.2, cy, by rw [f4]; exact hg1 q.2 q2 q3, hcy, bx_apart hO (bx_ap k q.2 h0 h4 q2 q3 q1) hcls hcy⟩
end BXF
