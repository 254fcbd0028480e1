/-! new X; dup; ldc; invokespecial; athrow: the method throws, no old cell has changed -/
section BXT
variable {p : Program} {l : Launch} {e : Env} {R : Room} {s : State} {m : MethodId} {args : Array Value} {below : List Frame} {meth : Method} {c : Code}
variable {cc : ByteArray} {pc nL : Nat} {ls : Array Slot} {Y : bn_Y} {own : String}
set_option maxHeartbeats 4000000 in
theorem bx_throw {Qc : Array Value → State → Outcome → State → Prop} {free : Addr → Prop} (hfl : l.flags = flags0) (F : bn_F p s m args c cc own Y) (hml : c.maxLocals = nL) (hsz : ls.size = nL) (hk : meth.locks = false) (hex : ∀ x ∈ c.exceptionTable.toList, covers x (pc + 9) = false)
    {X tx : String} {ia ib ic q : Nat} (hcl : Cond.classLink own ia X ∈ bn_all) (hin : Cond.instantiable X 6 ∈ bn_all) (hini : Cond.initialized X ∈ bn_all) (hX : Bundle.fit X = true)
    (hat : ∀ a ∈ Bundle.ownAtoms own ic X ["java/lang/RuntimeException", "java/lang/Exception"], a.before args s = true) (hstr : vk_R own ib tx q s)
    (hq : ∀ (t : State) (x : Addr) (cell : Cell), t.heap[x]? = some cell → cell.vm.isStatics = false → s.vm.findClass X = some cell.cls → (∀ (a : Addr) (k : Cell), s.heap[a]? = some k → t.heap[a]? = some k) → s.WarmedH t.vm → s.heap.size ≤ t.heap.size → Qc args s (.threw x) t)
    (d0 : decode cc pc = .ok (.new ia, 3)) (d3 : decode cc (pc + 3) = .ok (.dup, 1)) (d4 : decode cc (pc + 4) = .ok (.ldc ib, 2)) (d6 : decode cc (pc + 6) = .ok (.invokespecial ic, 3)) (d9 : decode cc (pc + 9) = .ok (.athrow, 1))
    (hR1 : 5 < R.frames) (hR2 : 100 ≤ R.locals) (hR3 : 1 ≤ R.cells) (hR4 : 6 ≤ R.slots) :
    W p l e R s m args below meth c s.heap [] 0 0 (MQT below Qc args s 1 6 free) (F0 m pc ls []) := by
  obtain ⟨E1, E2, hown, hts, -⟩ := F
  refine W.newc E1 E2 hown (hts _ hcl) (hts _ hin) (hts _ hini) rfl d0 (by omega) (by omega) (fun cC kC h1 h2 h3 h4 => ?_)
  refine W.eq (g2 := F0 m (pc + 3) ls [.ref s.heap.size]) rfl ?_
  refine lv_dup E1 E2 d3 rfl ?_
  refine va_ldcS E1 E2 hown hstr d4 ?_
  intro T hT X1
  obtain ⟨U, hst, hrun, hend, hW, hsame, ce, hce, hown2⟩ := X1.ctorThrowS E1 (Launch.traces_off hfl X1.admits) (own := own) (cls := X) (names := ["java/lang/RuntimeException", "java/lang/Exception"]) (ic := ic) hown hX (by decide) hat (fun x hx => by cases hx)
    (a := s.heap.size) (cX := cC) (kX := kC) h1 h2 (by rw [hT]; exact Array.getElem?_push_size ..) (Nat.le_refl _) (msg := .ref q) rfl (g := F0 m (pc + 6) ls [.ref q, .ref s.heap.size, .ref s.heap.size]) rfl (hsz.trans hml.symm) rfl rfl (rest := []) rfl
    (by rw [E2]; exact d6) (by rw [E2]; exact d9) hex hR1 (by simp [JFrame.monitorRoom, Value.category]; omega) hk
  have hold : ∀ (a : Addr) (k : Cell), s.heap[a]? = some k → U.heap[a]? = some k := fun a k hk => State.sameButNew.old_cell (s' := ({ U with vm := s.vm } : State)) hsame hk
  exact ⟨U, hst, .threw s.heap.size, hrun, hend, hq U s.heap.size ce hce (by rw [hown2.vm]; rfl) hown2.cls hold hW hsame.2.1, [], ⟨hW, by simpa using hsame⟩, fun q hq => by cases hq⟩
end BXT
