/-! contracts of the class's methods that may throw: k = 0: it returned rv; else it threw an exception of kind k, and nothing has changed -/
def bn_QT (D : va_G) (ar : Nat → ClassId) (ad : Nat → Nat → Nat) (nf : Nat) (A : Nat → Prop) (k : Nat) (rv : Option Value) (N' : bn_S) : Array Value → State → Outcome → State → Prop := fun _ st o t =>
  (∃ ad' : Nat → Nat → Nat, (∀ a b : Nat, ¬ a = 13 → ad' a b = ad a b) ∧ bn_Post (bn_y D ar ad' nf) A N' t) ∧ va_F A st t ∧
    ((k = 0 ∧ o = .returned rv) ∨ (¬ k = 0 ∧ ∃ (x : Addr) (cell : Cell), o = .threw x ∧ t.heap[x]? = some cell ∧ cell.vm.isStatics = false ∧ st.vm.findClass (bx_ex k) = some cell.cls))
def bn_T (l : Launch) (y : MethodName) (ws : List Cond) (rm : Room) (D : va_G) (ar : Nat → ClassId) (ad : Nat → Nat → Nat) (nf : Nat) (N : bn_S) (av : List Value) (k : Nat) (rv : Option Value) (N' : bn_S) (nf' : Nat) : Prop :=
  ∀ sz : Nat, MetT l y ws rm (va_Pc av (fun U => bn_Pre (bn_y D ar ad nf) N sz U ∧ bx_O U)) (bn_QT D ar ad nf' (bn_AY (bn_y D ar ad nf) sz) k rv N') 1 6 (bn_AY (bn_y D ar ad nf) sz)
theorem bt_start {l : Launch} {y : MethodName} {rm : Room} {Y : bn_Y} {N : bn_S} {av : List Value} {cc : ByteArray} {maxL : Nat} {ret : Option FieldType} {ws : List Cond} {sz : Nat} {Qc : Array Value → State → Outcome → State → Prop} {free : Addr → Prop} (hy : plainName y.cls = true) (hw : ws = Cond.code y cc maxL ret :: bn_all) (hlen : (lg_sl av).length ≤ maxL)
    (body : ∀ (p : Program) (e : Env) (s : State) (m : MethodId) (args : Array Value) (below : List Frame) (meth : Method) (c : Code) (ls : Array Slot), s.heap.size = sz → bn_F p s m args c cc y.cls Y → c.maxLocals = maxL → meth.sig.returnType = ret → meth.locks = false → lv_has ls maxL (lv_args 0 av) → bn_H Y s.heap s.heap [] N → bx_O s → c.exceptionTable.toList = [] →
      W p l e rm s m args below meth c s.heap [] 0 0 (MQT below Qc args s 1 6 free) (F0 m 0 ls [])) : MetT l y ws rm (va_Pc av (fun U => bn_Pre Y N sz U ∧ bx_O U)) Qc 1 6 free := by
  refine MetT.ofW (cc := cc) (maxL := maxL) (ret := ret) hy hw ?_
  intro p e s m args below meth c s₁ B hml hv
  obtain ⟨rfl, ⟨hsz, hP, hK, hD0, hN⟩, hO⟩ := hv
  have hts := atoms_spec (ws := ws) B.pre
  have hl := lv_entry av (n := maxL) hlen
  have hne := B.noHandlers (hts _ (by rw [hw]; exact List.mem_cons_self))
  rw [lg_entry_eq]
  refine body p e s m _ below meth c _ hsz ⟨B.exec, B.bytes, findClass_of_methodNamed B.named, fun w h => hts w (by rw [hw]; exact List.mem_cons_of_mem _ h), hK⟩ hml B.returns B.notSynchronized hl ⟨hP, bn_D_self hD0, va_S.rf, hN⟩ hO ?_
  have h9 : c.exceptionTable.size = 0 := by simpa [Array.isEmpty] using hne
  rw [Array.eq_empty_of_size_eq_zero h9]
section BTR
variable {p : Program} {l : Launch} {e : Env} {R : Room} {s : State} {m : MethodId} {args : Array Value} {below : List Frame} {meth : Method} {c : Code} {H : Heap} {locs : List Loc}
variable {cc : ByteArray} {pc nL : Nat} {ls : Array Slot} {D : va_G} {ar : Nat → ClassId} {ad ad2 : Nat → Nat → Nat} {nf nf2 : Nat} {N N' : bn_S} {own : String} {A : Nat → Prop} {cells slots k : Nat} {rv : Option Value}
/-- a return -/
theorem bt_post {Y : bn_Y} (F : bn_F p s m args c cc own Y) (hY : Y.1 = D ∧ Y.2.1 = bn_ty ar) (had : ∀ a b : Nat, ¬ a = 13 → ad2 a b = ad a b) (h1 : va_P D bn_cl (bn_ws (bn_y D ar ad2 nf2) N') H) (h2 : va_D A (bn_ws (bn_y D ar ad2 nf2) N')) (h3 : va_S A s.heap H locs) (h4 : bn_wf nf2 N') (hk : k = 0) {t : State} (ht : t.heap = H) (hW : s.WarmedH t.vm) : bn_QT D ar ad nf2 A k rv N' args s (.returned rv) t := by
  refine ⟨⟨ad2, had, by rw [ht]; exact h1, ?_, h2, h4⟩, h3.F ht, Or.inl ⟨hk, rfl⟩⟩
  have h9 := va_K.moved hW.alike F.2.2.2.2
  rw [hY.1, hY.2] at h9
  exact h9
theorem bt_retv (F : bn_F p s m args c cc own (bn_y D ar ad nf)) (hr : meth.sig.returnType = none) (hk : meth.locks = false) (h : bn_H (bn_y D ar ad nf) s.heap H locs N) (hk0 : k = 0) (he : N = N') (hc : cells ≤ 1) (hs : slots ≤ 6) (hdg : decode cc pc = .ok (.return_, 1)) :
    W p l e R s m args below meth c H locs cells slots (MQT below (bn_QT D ar ad nf (bn_AY (bn_y D ar ad nf) s.heap.size) k none N') args s 1 6 (bn_AY (bn_y D ar ad nf) s.heap.size)) (F0 m pc ls []) := by
  subst he
  obtain ⟨hP, hD, hS, hN⟩ := h
  exact W.widen hc hs (bn_mono (fun t => MQT.of) (W.vret F.1 F.2.1 hr (fun t ht hW => bt_post F ⟨rfl, rfl⟩ (fun _ _ _ => rfl) hP hD hS hN hk0 ht hW) hS.2.2 hdg hk))
theorem bt_reti (F : bn_F p s m args c cc own (bn_y D ar ad nf)) {v : Int32} (hr : meth.sig.returnType = some .int) (hk : meth.locks = false) (h : bn_H (bn_y D ar ad nf) s.heap H locs N) (hk0 : k = 0) (hv : rv = some (.int v)) (he : N = N') (hc : cells ≤ 1) (hs : slots ≤ 6) (hdg : decode cc pc = .ok (.ireturn, 1)) :
    W p l e R s m args below meth c H locs cells slots (MQT below (bn_QT D ar ad nf (bn_AY (bn_y D ar ad nf) s.heap.size) k rv N') args s 1 6 (bn_AY (bn_y D ar ad nf) s.heap.size)) (F0 m pc ls [.int v]) := by
  subst he
  subst hv
  obtain ⟨hP, hD, hS, hN⟩ := h
  exact W.widen hc hs (bn_mono (fun t => MQT.of) (W.iret F.1 F.2.1 hr (fun t ht hW => bt_post F ⟨rfl, rfl⟩ (fun _ _ _ => rfl) hP hD hS hN hk0 ht hW) hS.2.2 hdg hk))
/-- a throw -/
theorem bt_throw (hfl : l.flags = flags0) (F : bn_F p s m args c cc "BridgeNet" (bn_y D ar ad nf)) (hml : c.maxLocals = nL) (hsz : ls.size = nL) (hk : meth.locks = false) (hex : c.exceptionTable.toList = []) (h : bn_H (bn_y D ar ad nf) s.heap s.heap [] N) (hO : bx_O s) (he : N = N') (hk0 : ¬ k = 0)
    {tx : String} {ia ib ic : Nat} (hcl : Cond.classLink "BridgeNet" ia (bx_ex k) ∈ bn_all) (hin : Cond.instantiable (bx_ex k) 6 ∈ bn_all) (hini : Cond.initialized (bx_ex k) ∈ bn_all) (hX : Bundle.fit (bx_ex k) = true)
    (hat : (Bundle.ownAtoms "BridgeNet" ic (bx_ex k) ["java/lang/RuntimeException", "java/lang/Exception"]).all bx_ok = true) (hstr : Cond.stringRef "BridgeNet" ib tx ∈ lw_tbl)
    (d0 : decode cc pc = .ok (.new ia, 3)) (d3 : decode cc (pc + 3) = .ok (.dup, 1)) (d4 : decode cc (pc + 4) = .ok (.ldc ib, 2)) (d6 : decode cc (pc + 6) = .ok (.invokespecial ic, 3)) (d9 : decode cc (pc + 9) = .ok (.athrow, 1))
    (hR1 : 5 < R.frames) (hR2 : 100 ≤ R.locals) (hR3 : 1 ≤ R.cells) (hR4 : 6 ≤ R.slots) :
    W p l e R s m args below meth c s.heap [] 0 0 (MQT below (bn_QT D ar ad nf (bn_AY (bn_y D ar ad nf) s.heap.size) k rv N') args s 1 6 (bn_AY (bn_y D ar ad nf) s.heap.size)) (F0 m pc ls []) := by
  subst he
  obtain ⟨q, hq⟩ := bx_str hO hstr F.2.2.1
  refine bx_throw hfl F hml hsz hk (by rw [hex]; exact fun x hx => by cases hx) hcl hin hini hX (bx_at hO hat args) hq ?_ d0 d3 d4 d6 d9 hR1 hR2 hR3 hR4
  intro t x cell e1 e2 e3 e4 e5 e6
  obtain ⟨hP, hD, hS, hN⟩ := h
  have hold : ∀ a : Nat, a < s.heap.size → t.heap[a]? = s.heap[a]? := fun a ha => by
    have h9 : s.heap[a]? = some s.heap[a] := Array.getElem?_eq_getElem ha
    rw [h9]
    exact e4 a _ h9
  refine ⟨⟨ad, fun _ _ _ => rfl, hP.kept (fun i q hi => hold q.1 ((hP i q hi).lt)), va_K.moved e5.alike F.2.2.2.2, hD, hN⟩, ⟨e6, fun a ha _ => hold a ha⟩, Or.inr ⟨hk0, x, cell, rfl, e1, e2, e3⟩⟩
end BTR
