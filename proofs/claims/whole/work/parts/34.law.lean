/-! the law's attach -/
def bn_QL (D : va_G) (ar : Nat → ClassId) (ad : Nat → Nat → Nat) (nf : Nat) (A1 A : Nat → Prop) (r : Int32) (N' : bn_S) (E : Heap → Prop) : Array Value → State → Outcome → State → Prop := fun _ st o t =>
  o = .returned (some (.int r)) ∧ (∃ ad' : Nat → Nat → Nat, (∀ a b : Nat, ¬ a = 13 → ad' a b = ad a b) ∧ bn_Post (bn_y D ar ad' nf) A1 N' t) ∧ E t.heap ∧ va_F A st t
theorem bl_start {l : Launch} {y : MethodName} {rm : Room} {Y : bn_Y} {N : bn_S} {av : List Value} {cc : ByteArray} {maxL : Nat} {ret : Option FieldType} {ws : List Cond} {hh : List (Nat × Nat × Nat × Nat)} {sz mc ms : Nat} {E : Heap → Prop} {Qc : Array Value → State → Outcome → State → Prop} {free : Addr → Prop} (hy : plainName y.cls = true) (hw : ws = Cond.codeWith y cc maxL ret hh :: bn_all) (hlen : (lg_sl av).length ≤ maxL)
    (body : ∀ (p : Program) (e : Env) (s : State) (m : MethodId) (args : Array Value) (below : List Frame) (meth : Method) (c : Code) (ls : Array Slot), s.heap.size = sz → bn_F p s m args c cc y.cls Y → c.maxLocals = maxL → meth.sig.returnType = ret → meth.locks = false → lv_has ls maxL (lv_args 0 av) → bn_H Y s.heap s.heap [] N → bx_O s → c.exceptionTable.toList.map (fun x => (x.startPc, x.endPc, x.handlerPc, x.catchType)) = hh → E s.heap →
      W p l e rm s m args below meth c s.heap [] 0 0 (MQ below Qc args s mc ms free) (F0 m 0 ls [])) : Met l y ws rm (va_Pc av (fun U => (bn_Pre Y N sz U ∧ bx_O U) ∧ E U.heap)) Qc mc ms free := by
  refine va_MetW (cc := cc) (maxL := maxL) (ret := ret) (hh := hh) hy hw ?_
  intro p e s m args below meth c s₁ B hml hv
  obtain ⟨rfl, ⟨⟨hsz, hP, hK, hD0, hN⟩, hO⟩, hE⟩ := hv
  have hts := atoms_spec (ws := ws) B.pre
  have hl := lv_entry av (n := maxL) hlen
  obtain ⟨m9, meth9, c9, hn9, h1, h2, h3, h4, h5, -⟩ := Cond.codeWith_spec (hts _ (by rw [hw]; exact List.mem_cons_self))
  cases B.named.symm.trans hn9
  cases B.method.symm.trans h1
  cases (Stand.of_body B).code.symm.trans h2
  rw [lg_entry_eq]
  exact body p e s m _ below meth c _ hsz ⟨B.exec, B.bytes, findClass_of_methodNamed B.named, fun w h => hts w (by rw [hw]; exact List.mem_cons_of_mem _ h), hK⟩ hml B.returns B.notSynchronized hl ⟨hP, bn_D_self hD0, va_S.rf, hN⟩ hO h5 hE
section BLR
variable {p : Program} {l : Launch} {e : Env} {R : Room} {s : State} {m : MethodId} {args : Array Value} {below : List Frame} {meth : Method} {c : Code} {H : Heap} {locs : List Loc}
variable {cc : ByteArray} {pc : Nat} {ls : Array Slot} {D : va_G} {ar : Nat → ClassId} {ad ad2 : Nat → Nat → Nat} {nf nf2 cells slots : Nat} {N' : bn_S} {own : String} {A1 A : Nat → Prop} {E : Heap → Prop}
theorem bl_ret (F : bn_F p s m args c cc own (bn_y D ar ad nf)) {v r : Int32} (hr : meth.sig.returnType = some .int) (hk : meth.locks = false) (had : ∀ a b : Nat, ¬ a = 13 → ad2 a b = ad a b) (h1 : va_P D bn_cl (bn_ws (bn_y D ar ad2 nf2) N') H) (h2 : va_D A1 (bn_ws (bn_y D ar ad2 nf2) N')) (h3 : va_S A s.heap H locs) (h4 : bn_wf nf2 N') (hE : E H) (hv : v = r) (hdg : decode cc pc = .ok (.ireturn, 1)) :
    W p l e R s m args below meth c H locs cells slots (MQ below (bn_QL D ar ad nf2 A1 A r N' E) args s cells slots A) (F0 m pc ls [.int v]) := by
  subst hv
  exact W.iret F.1 F.2.1 hr (fun t ht hW => ⟨rfl, ⟨ad2, had, by rw [ht]; exact h1, va_K.moved hW.alike F.2.2.2.2, h2, h4⟩, by rw [ht]; exact hE, h3.F ht⟩) h3.2.2 hdg hk
end BLR
theorem at_k (N : bn_S) (sa ba pa va : Int32) : (o_Ne_attach N sa ba pa va).1 = 0 ∨ (o_Ne_attach N sa ba pa va).1 = 1 ∨ (o_Ne_attach N sa ba pa va).1 = 2 ∨ (o_Ne_attach N sa ba pa va).1 = 3 := by
  unfold o_Ne_attach bn_oc
  repeat' split
  all_goals first | (simp; done) | (dsimp only; split <;> simp)
theorem at_n : (parseMethodDescriptor y_Ne_attach.desc).map (fun d => d.parameters.length) = some 4 := by decide
abbrev w_La_attach : List Cond := Cond.codeWith y_La_attach b_La_attach 6 (some .int) (bx_tb 9 [(12, 1), (16, 2), (20, 3)]) :: bn_all
set_option maxHeartbeats 4000000 in
theorem c_La_attach (l : Launch) (hfl : l.flags = flags0) (D : va_G) (ar : Nat → ClassId) (ad : Nat → Nat → Nat) (nf : Nat) (N : bn_S) (sa ba pa va : Int32) (sz : Nat) :
    Met l y_La_attach w_La_attach { frames := 7, cells := 1, slots := 6, locals := 180 } (va_Pc [.ref (ad 0 0), .int sa, .int ba, .int pa, .int va] (fun U => (bn_Pre (bn_y D ar ad nf) N sz U ∧ bx_O U) ∧ True))
      (bn_QL D ar ad nf (bn_AY (bn_y D ar ad nf) sz) (bn_AY (bn_y D ar ad nf) sz) (nI (o_Ne_attach N sa ba pa va).1) (o_Ne_attach N sa ba pa va).2 (fun _ => True)) 1 6 (bn_AY (bn_y D ar ad nf) sz) := by
  refine bl_start (y := y_La_attach) (Y := bn_y D ar ad nf) (N := N) (av := [.ref (ad 0 0), .int sa, .int ba, .int pa, .int va]) (E := fun _ => True) (sz := sz) (cc := b_La_attach) (maxL := 6) (ret := some .int) (by decide) rfl (Nat.le_of_ble_eq_true rfl) ?_
  intro p e s m args below meth c ls hsz F hml hr hk hl h hO htab _
  subst hsz
  have E1 := F.1
  have E2 := F.2.1
  have hl : lv_has ls 6 [(0, .ref (ad 0 0)), (1, .int sa), (2, .int ba), (3, .int pa), (4, .int va)] := hl
  refine lv_aload_n E1 E2 d_La_attach_0 rfl (lv_at hl 0 rfl) ?_
  refine lv_iload_n E1 E2 d_La_attach_1 rfl (lv_at hl 1 rfl) ?_
  refine lv_iload_n E1 E2 d_La_attach_2 rfl (lv_at hl 2 rfl) ?_
  refine lv_iload_n E1 E2 d_La_attach_3 rfl (lv_at hl 3 rfl) ?_
  refine lv_iload E1 E2 d_La_attach_4 (lv_at hl 4 rfl) ?_
  rcases at_k N sa ba pa va with hk0 | hk0 | hk0 | hk0
  · refine bx_try (hp := 0) (As := [.int sa, .int ba, .int pa, .int va]) (rest := []) F hO hml hl.1 h rfl k_463 k_464 k_465 k_466 (c_Ne_attach l hfl D ar ad nf N sa ba pa va) ⟨rfl, rfl⟩ ⟨by decide, by decide⟩ at_n rfl (Nat.zero_le _) d_La_attach_6 ⟨by decide, by decide⟩ htab (by decide) (fun hz => absurd hk0 hz) (fun _ ad' H1 locs1 had hP1 hD1 hS1 hN1 => ?_) (fun hz => absurd hk0 hz)
    refine lv_goto E1 E2 d_La_attach_9 rfl ?_
    refine lv_iconst (v := 0) E1 E2 d_La_attach_24 (by decide) ?_
    exact bl_ret F hr hk had hP1 hD1 hS1 hN1 trivial (by rw [hk0]; rfl) d_La_attach_25
  · refine bx_try (hp := 12) (As := [.int sa, .int ba, .int pa, .int va]) (rest := []) F hO hml hl.1 h rfl k_463 k_464 k_465 k_466 (c_Ne_attach l hfl D ar ad nf N sa ba pa va) ⟨rfl, rfl⟩ ⟨by decide, by decide⟩ at_n rfl (Nat.zero_le _) d_La_attach_6 ⟨by decide, by decide⟩ htab (by decide) (fun _ => by rw [hk0]; exact ⟨by decide, [], [(16, 2), (20, 3)], rfl, by decide⟩) (fun hz => absurd (hk0.symm.trans hz) (by decide)) (fun _ ad' H1 locs1 x had hP1 hD1 hS1 hN1 => ?_)
    refine lv_astore E1 E2 d_La_attach_12 hl (by decide) rfl (fun ls hl => ?_)
    refine lv_iconst (v := 1) E1 E2 d_La_attach_14 (by decide) ?_
    exact bl_ret F hr hk had hP1 hD1 hS1 hN1 trivial (by rw [hk0]; rfl) d_La_attach_15
  · refine bx_try (hp := 16) (As := [.int sa, .int ba, .int pa, .int va]) (rest := []) F hO hml hl.1 h rfl k_463 k_464 k_465 k_466 (c_Ne_attach l hfl D ar ad nf N sa ba pa va) ⟨rfl, rfl⟩ ⟨by decide, by decide⟩ at_n rfl (Nat.zero_le _) d_La_attach_6 ⟨by decide, by decide⟩ htab (by decide) (fun _ => by rw [hk0]; exact ⟨by decide, [(12, 1)], [(20, 3)], rfl, by decide⟩) (fun hz => absurd (hk0.symm.trans hz) (by decide)) (fun _ ad' H1 locs1 x had hP1 hD1 hS1 hN1 => ?_)
    refine lv_astore E1 E2 d_La_attach_16 hl (by decide) rfl (fun ls hl => ?_)
    refine lv_iconst (v := 2) E1 E2 d_La_attach_18 (by decide) ?_
    exact bl_ret F hr hk had hP1 hD1 hS1 hN1 trivial (by rw [hk0]; rfl) d_La_attach_19
  · refine bx_try (hp := 20) (As := [.int sa, .int ba, .int pa, .int va]) (rest := []) F hO hml hl.1 h rfl k_463 k_464 k_465 k_466 (c_Ne_attach l hfl D ar ad nf N sa ba pa va) ⟨rfl, rfl⟩ ⟨by decide, by decide⟩ at_n rfl (Nat.zero_le _) d_La_attach_6 ⟨by decide, by decide⟩ htab (by decide) (fun _ => by rw [hk0]; exact ⟨by decide, [(12, 1), (16, 2)], [], rfl, by decide⟩) (fun hz => absurd (hk0.symm.trans hz) (by decide)) (fun _ ad' H1 locs1 x had hP1 hD1 hS1 hN1 => ?_)
    refine lv_astore E1 E2 d_La_attach_20 hl (by decide) rfl (fun ls hl => ?_)
    refine lv_iconst (v := 3) E1 E2 d_La_attach_22 (by decide) ?_
    exact bl_ret F hr hk had hP1 hD1 hS1 hN1 trivial (by rw [hk0]; rfl) d_La_attach_23
