/-! methods that only read: nothing moves; methods that may throw -/
def bn_ip (l : Launch) (y : MethodName) (ws : List Cond) (rm : Room) (Y : bn_Y) (N : bn_S) (av : List Value) (r : Int32) : Prop := ∀ sz : Nat, Met l y ws rm (va_Pc av (bn_Pre Y N sz)) (fun _ st oc t => oc = .returned (some (.int r)) ∧ t.heap = st.heap) 0 0 (fun _ => False)
def bn_qp (l : Launch) (y : MethodName) (ws : List Cond) (rm : Room) (Y : bn_Y) (N : bn_S) (av : List Value) (r : Option Nat) : Prop := ∀ sz : Nat, Met l y ws rm (va_Pc av (bn_Pre Y N sz)) (fun _ st oc t => oc = .returned (some (va_rf r)) ∧ t.heap = st.heap) 0 0 (fun _ => False)
section BPE
variable {p : Program} {l : Launch} {e : Env} {R : Room} {s : State} {m : MethodId} {args : Array Value} {below : List Frame} {meth : Method} {c : Code} {H : Heap} {locs : List Loc} {cells slots : Nat} {Q : State → Prop}
variable {cc : ByteArray} {pc : Nat} {ls : Array Slot} {rest st0 : List Value} {Y : bn_Y} {N : bn_S} {own : String}
theorem bn_preti (F : bn_F p s m args c cc own Y) {v r : Int32} (hr : meth.sig.returnType = some .int) (hk : meth.locks = false) (hv : v = r) (hdg : decode cc pc = .ok (.ireturn, 1)) : W p l e R s m args below meth c s.heap [] 0 0 (MQ below (fun _ st oc t => oc = .returned (some (.int r)) ∧ t.heap = st.heap) args s 0 0 (fun _ => False)) (F0 m pc ls [.int v]) :=
  W.iret F.1 F.2.1 hr (fun t ht _ => ⟨by rw [hv], ht⟩) (fun q hq => by cases hq) hdg hk
theorem bn_pretz (F : bn_F p s m args c cc own Y) {v r : Int32} (hr : meth.sig.returnType = some .boolean) (hn : narrow .boolean (.int v) = .int v) (hk : meth.locks = false) (hv : v = r) (hdg : decode cc pc = .ok (.ireturn, 1)) : W p l e R s m args below meth c s.heap [] 0 0 (MQ below (fun _ st oc t => oc = .returned (some (.int r)) ∧ t.heap = st.heap) args s 0 0 (fun _ => False)) (F0 m pc ls [.int v]) :=
  W.zret F.1 F.2.1 hr hn (fun t ht _ => ⟨by rw [hv], ht⟩) (fun q hq => by cases hq) hdg hk
theorem bn_pretq (F : bn_F p s m args c cc own Y) {v r : Option Nat} {C : String} (hr : meth.sig.returnType = some (.object C)) (hk : meth.locks = false) (hv : v = r) (hdg : decode cc pc = .ok (.areturn, 1)) : W p l e R s m args below meth c s.heap [] 0 0 (MQ below (fun _ st oc t => oc = .returned (some (va_rf r)) ∧ t.heap = st.heap) args s 0 0 (fun _ => False)) (F0 m pc ls [va_rf v]) :=
  W.aret F.1 F.2.1 hr (Or.inl ⟨C, rfl⟩) (va_rf_or v) (fun t ht _ => ⟨by rw [hv], ht⟩) (fun q hq => by cases hq) hdg hk
theorem bn_pcall {v0 : Value} (hr : va_Run p l e R s m args below meth c H locs cells slots 0 0 (F0 m pc ls st0) rest (fun st oc t => oc = .returned (some v0) ∧ t.heap = st.heap) (fun _ => False))
    (kk : W p l e R s m args below meth c H locs cells slots Q (F0 m (pc + 3) ls (v0 :: rest))) : W p l e R s m args below meth c H locs cells slots Q (F0 m pc ls st0) := by
  intro T hT X
  obtain ⟨v, st₀, t, T', L, h0, X', hL, e1, e2, ⟨hv, hh⟩, st⟩ := hr T hT X
  cases hv
  have hl : L = [] := by
    cases L with
    | nil => rfl
    | cons q L => exact absurd (hL q List.mem_cons_self) id
  subst hl
  rw [List.append_nil] at X'
  obtain ⟨t2, a1, b1⟩ := kk T' (by rw [e1, hh, h0]) X'
  exact ⟨t2, st t2 a1, b1⟩
theorem bn_mono {Q' : State → Prop} {g : JFrame} (h : ∀ t, Q t → Q' t) (k : W p l e R s m args below meth c H locs cells slots Q g) : W p l e R s m args below meth c H locs cells slots Q' g := by
  intro T hT X
  obtain ⟨t, a, b⟩ := k T hT X
  exact ⟨t, a, h t b⟩
end BPE
/-- a contract that tells how the method ends, by a return or by a throw -/
def MetT (l : Launch) (y : MethodName) (ws : List Cond) (rm : Room) (Pc : Array Value → State → Prop) (Qc : Array Value → State → Outcome → State → Prop) (mc ms : Nat) (free : Addr → Prop) : Prop :=
  MetFree l y (headSpec ws rm) Pc (fun _ _ _ _ _ => True) (fun a st o t => Qc a st o t ∧ ∃ L, (st.WarmedH t.vm ∧ st.sameButNew ({ t with vm := st.vm } : State) L mc ms) ∧ ∀ q ∈ L, free q.base)
def MQT (below : List Frame) (Qc : Array Value → State → Outcome → State → Prop) (a : Array Value) (s : State) (mc ms : Nat) (free : Addr → Prop) : State → Prop := fun t =>
  ∃ o, t.status = .running ∧ Ended t below o ∧ Qc a s o t ∧ ∃ L, (s.WarmedH t.vm ∧ s.sameButNew ({ t with vm := s.vm } : State) L mc ms) ∧ ∀ q ∈ L, free q.base
theorem MQT.of {below : List Frame} {Qc : Array Value → State → Outcome → State → Prop} {a : Array Value} {s : State} {mc ms : Nat} {free : Addr → Prop} {t : State} (h : MQ below Qc a s mc ms free t) : MQT below Qc a s mc ms free t := by
  obtain ⟨o, h1, h2, h3, L, h4, h5⟩ := h
  exact ⟨o, h1, h2, h3, L, h4.2, h5⟩
theorem MetT.ofW {l : Launch} {y : MethodName} {ws ws' : List Cond} {rm : Room} {Pc : Array Value → State → Prop} {Qc : Array Value → State → Outcome → State → Prop} {mc ms : Nat} {free : Addr → Prop} {cc : ByteArray} {maxL : Nat} {ret : Option FieldType}
    (hy : plainName y.cls = true) (hw : ws = Cond.code y cc maxL ret :: ws')
    (body : ∀ p e s m args below meth c s₁, BodyLoose p l y (headSpec ws rm) cc maxL ret e s m args below meth c s₁ → c.maxLocals = maxL → Pc args s →
      W p l e (headSpec ws rm).room s m args below meth c s.heap [] 0 0 (MQT below Qc args s mc ms free) (entryFrame m args maxL)) : MetT l y ws rm Pc Qc mc ms free := by
  refine MetFree.of_bodyS (code := cc) (maxLocals := maxL) (ret := ret) hy ?_ ?_
  · intro args s m h hn
    obtain ⟨meth, c, h1, h2, h3, h4, h5, h6, -, -⟩ := Cond.code_spec hn (atoms_spec (ws := ws) h _ (by rw [hw]; exact List.mem_cons_self))
    exact ⟨meth, c, h1, h2, h3, h4, h5, h6⟩
  · intro p e s m args below meth c s₁ B hml hP _
    have hh0 : s₁.heap = s.heap := by rw [B.state]; rfl
    obtain ⟨t, a1, o, b1, b2, b3⟩ := body p e s m args below meth c s₁ B hml hP s₁ hh0 (Stand.of_body B)
    exact ⟨t, o, a1, b1, b2, ⟨b3.1, b3.2⟩⟩
