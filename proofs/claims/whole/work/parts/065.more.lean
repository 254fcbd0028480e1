/-! small rows: a road by what a reference is; addresses apart; private methods' words -/
def bn_oc {α : Type} (o : Option Nat) (a : α) (f : Nat → α) : α := match o with
  | none => a
  | some y => f y
theorem bn_oc_n {α : Type} {o : Option Nat} {a : α} {f : Nat → α} (h : o = none) : bn_oc o a f = a := by rw [h]; rfl
theorem bn_oc_s {α : Type} {o : Option Nat} {a : α} {f : Nat → α} {y : Nat} (h : o = some y) : bn_oc o a f = f y := by rw [h]; rfl
section BNO
variable {p : Program} {l : Launch} {e : Env} {R : Room} {s : State} {m : MethodId} {args : Array Value} {below : List Frame} {meth : Method} {c : Code} {H : Heap} {locs : List Loc} {cells slots : Nat} {Q : State → Prop}
variable {cc : ByteArray} {pc : Nat} {ls : Array Slot} {rest : List Value} {Y : bn_Y} {N : bn_S}
theorem bn_oq {f : Nat → Nat} {o : Option Nat} (kn : o = none → W p l e R s m args below meth c H locs cells slots Q (F0 m pc ls (.null :: rest))) (ks : ∀ y : Nat, o = some y → W p l e R s m args below meth c H locs cells slots Q (F0 m pc ls (.ref (f y) :: rest))) : W p l e R s m args below meth c H locs cells slots Q (F0 m pc ls (va_rf (o.map f) :: rest)) := by
  cases ho : o with
  | none => exact kn ho
  | some y => exact ks y ho
theorem bn_inj {H0 : Heap} {k a b : Nat} (h : bn_H Y H0 H locs N) (ha : (k, a) ∈ Y.2.2.1) (hb : (k, b) ∈ Y.2.2.1) : (some (Y.2.2.2.1 k a) = some (Y.2.2.2.1 k b)) ↔ a = b := by
  constructor
  · intro he
    by_cases hab : a = b
    · exact hab
    · exact absurd (Option.some.inj he) (bn_ne h.2.1 ha hb (fun z => hab z.2))
  · intro he
    rw [he]
section BNQ
variable {own : String}
theorem bn_reti2 (F : bn_F p s m args c cc own Y) {v : Int32} {q : Int32 × bn_S} (hr : meth.sig.returnType = some .int) (hk : meth.locks = false) (h : bn_H Y s.heap H locs N) (hq : q = (v, N)) (hdg : decode cc pc = .ok (.ireturn, 1)) : W p l e R s m args below meth c H locs 0 0 (MQ below (va_Qi (fun (v : Int32) (u : bn_S) => v = q.1 ∧ u = q.2) (bn_Post Y (bn_AY Y s.heap.size)) (bn_AY Y s.heap.size)) args s 0 0 (bn_AY Y s.heap.size)) (F0 m pc ls [.int v]) := by
  subst hq
  exact bn_reti F hr hk h rfl rfl hdg
theorem bn_retz2 (F : bn_F p s m args c cc own Y) {v : Int32} {q : Int32 × bn_S} (hr : meth.sig.returnType = some .boolean) (hn : narrow .boolean (.int v) = .int v) (hk : meth.locks = false) (h : bn_H Y s.heap H locs N) (hq : q = (v, N)) (hdg : decode cc pc = .ok (.ireturn, 1)) : W p l e R s m args below meth c H locs 0 0 (MQ below (va_Qi (fun (v : Int32) (u : bn_S) => v = q.1 ∧ u = q.2) (bn_Post Y (bn_AY Y s.heap.size)) (bn_AY Y s.heap.size)) args s 0 0 (bn_AY Y s.heap.size)) (F0 m pc ls [.int v]) := by
  subst hq
  exact bn_retz F hr hn hk h rfl rfl hdg
theorem bn_retl2 (F : bn_F p s m args c cc own Y) {v : Int64} {q : Int64 × bn_S} (hr : meth.sig.returnType = some .long) (hk : meth.locks = false) (h : bn_H Y s.heap H locs N) (hq : q = (v, N)) (hdg : decode cc pc = .ok (.lreturn, 1)) : W p l e R s m args below meth c H locs 0 0 (MQ below (va_Ql (fun (v : Int64) (u : bn_S) => v = q.1 ∧ u = q.2) (bn_Post Y (bn_AY Y s.heap.size)) (bn_AY Y s.heap.size)) args s 0 0 (bn_AY Y s.heap.size)) (F0 m pc ls [.long v]) := by
  subst hq
  exact bn_retl F hr hk h rfl rfl hdg
end BNQ
end BNO
theorem ks_Br_chooseRoot : Cond.selects "BridgeNet$Bridge" y_Br_chooseRoot y_Br_chooseRoot ∈ bn_all := bn_sel (q := (⟨"BridgeNet$Bridge", "chooseRoot", "()V"⟩, 9)) (List.mem_of_getElem? (i := 0) rfl)
theorem ks_Br_giveRoles : Cond.selects "BridgeNet$Bridge" y_Br_giveRoles y_Br_giveRoles ∈ bn_all := bn_sel (q := (⟨"BridgeNet$Bridge", "giveRoles", "()Z"⟩, 9)) (List.mem_of_getElem? (i := 1) rfl)
theorem ks_Br_dueRole : Cond.selects "BridgeNet$Bridge" y_Br_dueRole y_Br_dueRole ∈ bn_all := bn_sel (q := (⟨"BridgeNet$Bridge", "dueRole", "(LBridgeNet$Port;)I"⟩, 9)) (List.mem_of_getElem? (i := 2) rfl)
theorem ks_Br_ownVector : Cond.selects "BridgeNet$Bridge" y_Br_ownVector y_Br_ownVector ∈ bn_all := bn_sel (q := (⟨"BridgeNet$Bridge", "ownVector", "(LBridgeNet$Port;)J"⟩, 9)) (List.mem_of_getElem? (i := 3) rfl)
theorem ks_Po_propose : Cond.selects "BridgeNet$Port" y_Po_propose y_Po_propose ∈ bn_all := bn_sel (q := (⟨"BridgeNet$Port", "propose", "()V"⟩, 16)) (List.mem_of_getElem? (i := 4) rfl)
theorem ks_Br_tellOn : Cond.selects "BridgeNet$Bridge" y_Br_tellOn y_Br_tellOn ∈ bn_all := bn_sel (q := (⟨"BridgeNet$Bridge", "tellOn", "(LBridgeNet$Port;)V"⟩, 9)) (List.mem_of_getElem? (i := 5) rfl)
theorem ks_Li_put : Cond.selects "BridgeNet$Line" y_Li_put y_Li_put ∈ bn_all := bn_sel (q := (⟨"BridgeNet$Line", "put", "(IILBridgeNet$Frame;)LBridgeNet$Message;"⟩, 3)) (List.mem_of_getElem? (i := 6) rfl)
theorem ks_Ne_findPort : Cond.selects "BridgeNet" y_Ne_findPort y_Ne_findPort ∈ bn_all := bn_sel (q := (⟨"BridgeNet", "findPort", "(II)LBridgeNet$Port;"⟩, 3)) (List.mem_of_getElem? (i := 7) rfl)
theorem ks_Po_forward : Cond.selects "BridgeNet$Port" y_Po_forward y_Po_forward ∈ bn_all := bn_sel (q := (⟨"BridgeNet$Port", "forward", "()V"⟩, 16)) (List.mem_of_getElem? (i := 8) rfl)
theorem ks_Ne_findStation : Cond.selects "BridgeNet" y_Ne_findStation y_Ne_findStation ∈ bn_all := bn_sel (q := (⟨"BridgeNet", "findStation", "(I)LBridgeNet$Station;"⟩, 3)) (List.mem_of_getElem? (i := 9) rfl)
theorem ks_Br_learn : Cond.selects "BridgeNet$Bridge" y_Br_learn y_Br_learn ∈ bn_all := bn_sel (q := (⟨"BridgeNet$Bridge", "learn", "(III)V"⟩, 9)) (List.mem_of_getElem? (i := 11) rfl)
theorem ks_Br_flood : Cond.selects "BridgeNet$Bridge" y_Br_flood y_Br_flood ∈ bn_all := bn_sel (q := (⟨"BridgeNet$Bridge", "flood", "(LBridgeNet$Port;LBridgeNet$Frame;)I"⟩, 9)) (List.mem_of_getElem? (i := 12) rfl)
theorem ks_Br_passTo : Cond.selects "BridgeNet$Bridge" y_Br_passTo y_Br_passTo ∈ bn_all := bn_sel (q := (⟨"BridgeNet$Bridge", "passTo", "(ILBridgeNet$Port;LBridgeNet$Frame;)I"⟩, 9)) (List.mem_of_getElem? (i := 13) rfl)
theorem ks_Br_answerProposal : Cond.selects "BridgeNet$Bridge" y_Br_answerProposal y_Br_answerProposal ∈ bn_all := bn_sel (q := (⟨"BridgeNet$Bridge", "answerProposal", "(LBridgeNet$Port;)V"⟩, 9)) (List.mem_of_getElem? (i := 14) rfl)
theorem ks_Br_proposeOnOthers : Cond.selects "BridgeNet$Bridge" y_Br_proposeOnOthers y_Br_proposeOnOthers ∈ bn_all := bn_sel (q := (⟨"BridgeNet$Bridge", "proposeOnOthers", "(LBridgeNet$Port;)V"⟩, 9)) (List.mem_of_getElem? (i := 15) rfl)
theorem ks_Mo_raise : Cond.selects "BridgeNetModel" y_Mo_raise y_Mo_raise ∈ bn_all := bn_sel (q := (⟨"BridgeNetModel", "raise", "(I)I"⟩, 32)) (List.mem_of_getElem? (i := 16) rfl)
theorem ks_Mo_shift : Cond.selects "BridgeNetModel" y_Mo_shift y_Mo_shift ∈ bn_all := bn_sel (q := (⟨"BridgeNetModel", "shift", "(I)V"⟩, 32)) (List.mem_of_getElem? (i := 17) rfl)
theorem ks_Mo_copy : Cond.selects "BridgeNetModel" y_Mo_copy y_Mo_copy ∈ bn_all := bn_sel (q := (⟨"BridgeNetModel", "copy", "(II)V"⟩, 32)) (List.mem_of_getElem? (i := 18) rfl)
theorem ks_Mo_toldOn : Cond.selects "BridgeNetModel" y_Mo_toldOn y_Mo_toldOn ∈ bn_all := bn_sel (q := (⟨"BridgeNetModel", "toldOn", "(I)V"⟩, 32)) (List.mem_of_getElem? (i := 19) rfl)
theorem ks_Mo_compute : Cond.selects "BridgeNetModel" y_Mo_compute y_Mo_compute ∈ bn_all := bn_sel (q := (⟨"BridgeNetModel", "compute", "(I)V"⟩, 32)) (List.mem_of_getElem? (i := 20) rfl)
theorem ks_Mo_choose : Cond.selects "BridgeNetModel" y_Mo_choose y_Mo_choose ∈ bn_all := bn_sel (q := (⟨"BridgeNetModel", "choose", "(I)V"⟩, 32)) (List.mem_of_getElem? (i := 21) rfl)
theorem ks_Mo_id : Cond.selects "BridgeNetModel" y_Mo_id y_Mo_id ∈ bn_all := bn_sel (q := (⟨"BridgeNetModel", "id", "(I)I"⟩, 32)) (List.mem_of_getElem? (i := 22) rfl)
theorem ks_Mo_roleOf : Cond.selects "BridgeNetModel" y_Mo_roleOf y_Mo_roleOf ∈ bn_all := bn_sel (q := (⟨"BridgeNetModel", "roleOf", "(I)I"⟩, 32)) (List.mem_of_getElem? (i := 23) rfl)
theorem ks_Mo_wouldTell : Cond.selects "BridgeNetModel" y_Mo_wouldTell y_Mo_wouldTell ∈ bn_all := bn_sel (q := (⟨"BridgeNetModel", "wouldTell", "(I)J"⟩, 32)) (List.mem_of_getElem? (i := 24) rfl)
theorem ks_Mo_take : Cond.selects "BridgeNetModel" y_Mo_take y_Mo_take ∈ bn_all := bn_sel (q := (⟨"BridgeNetModel", "take", "(II)V"⟩, 32)) (List.mem_of_getElem? (i := 25) rfl)
theorem ks_Mo_isLinked : Cond.selects "BridgeNetModel" y_Mo_isLinked y_Mo_isLinked ∈ bn_all := bn_sel (q := (⟨"BridgeNetModel", "isLinked", "(I)Z"⟩, 32)) (List.mem_of_getElem? (i := 26) rfl)
theorem ks_Mo_tellAll : Cond.selects "BridgeNetModel" y_Mo_tellAll y_Mo_tellAll ∈ bn_all := bn_sel (q := (⟨"BridgeNetModel", "tellAll", "(I)V"⟩, 32)) (List.mem_of_getElem? (i := 27) rfl)
theorem ks_Mo_tell : Cond.selects "BridgeNetModel" y_Mo_tell y_Mo_tell ∈ bn_all := bn_sel (q := (⟨"BridgeNetModel", "tell", "(I)V"⟩, 32)) (List.mem_of_getElem? (i := 28) rfl)
theorem ks_Mo_post : Cond.selects "BridgeNetModel" y_Mo_post y_Mo_post ∈ bn_all := bn_sel (q := (⟨"BridgeNetModel", "post", "(II)I"⟩, 32)) (List.mem_of_getElem? (i := 29) rfl)
theorem ks_Mo_agree : Cond.selects "BridgeNetModel" y_Mo_agree y_Mo_agree ∈ bn_all := bn_sel (q := (⟨"BridgeNetModel", "agree", "(I)V"⟩, 32)) (List.mem_of_getElem? (i := 30) rfl)
theorem ks_Mo_agreedOn : Cond.selects "BridgeNetModel" y_Mo_agreedOn y_Mo_agreedOn ∈ bn_all := bn_sel (q := (⟨"BridgeNetModel", "agreedOn", "(I)V"⟩, 32)) (List.mem_of_getElem? (i := 31) rfl)
theorem ks_Mo_frame : Cond.selects "BridgeNetModel" y_Mo_frame y_Mo_frame ∈ bn_all := bn_sel (q := (⟨"BridgeNetModel", "frame", "(I)I"⟩, 32)) (List.mem_of_getElem? (i := 32) rfl)
theorem ks_Mo_has : Cond.selects "BridgeNetModel" y_Mo_has y_Mo_has ∈ bn_all := bn_sel (q := (⟨"BridgeNetModel", "has", "(II)Z"⟩, 32)) (List.mem_of_getElem? (i := 33) rfl)
theorem ks_Mo_out : Cond.selects "BridgeNetModel" y_Mo_out y_Mo_out ∈ bn_all := bn_sel (q := (⟨"BridgeNetModel", "out", "(I)I"⟩, 32)) (List.mem_of_getElem? (i := 34) rfl)
theorem ks_Mo_ageOf : Cond.selects "BridgeNetModel" y_Mo_ageOf y_Mo_ageOf ∈ bn_all := bn_sel (q := (⟨"BridgeNetModel", "ageOf", "(I)V"⟩, 32)) (List.mem_of_getElem? (i := 35) rfl)
theorem ks_Mo_clear : Cond.selects "BridgeNetModel" y_Mo_clear y_Mo_clear ∈ bn_all := bn_sel (q := (⟨"BridgeNetModel", "clear", "(I)V"⟩, 32)) (List.mem_of_getElem? (i := 36) rfl)
