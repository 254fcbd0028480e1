/-! a call that may throw, under handlers -/
theorem bt_blind (Y : bn_Y) (N : bn_S) (av : List Value) (sz : Nat) : FrameBlind (va_Pc av (fun U => bn_Pre Y N sz U ∧ bx_O U)) := fun a U g mk q => by
  obtain ⟨q0, q1, q2⟩ := q
  exact ⟨q0, (bn_blind Y N av sz a U g mk ⟨q0, q1⟩).2, q2.call g mk a⟩
section BXT
variable {p : Program} {l : Launch} {e : Env} {R : Room} {s : State} {m : MethodId} {args : Array Value} {below : List Frame} {meth : Method} {c : Code} {Q : State → Prop}
variable {cc bytes : ByteArray} {pc nL maxL index z : Nat} {ls : Array Slot} {rest st0 As : List Value} {D : va_G} {ar : Nat → ClassId} {ad : Nat → Nat → Nat} {nf nf' k : Nat} {N N' : bn_S} {y : MethodName} {ret : Option FieldType} {rm : Room} {rv : Option Value}
set_option maxHeartbeats 4000000 in
theorem bx_try (F : bn_F p s m args c cc "BridgeNetLaw" (bn_y D ar ad nf)) (hO : bx_O s) (hml : c.maxLocals = nL) (hsz : ls.size = nL) (h : bn_H (bn_y D ar ad nf) s.heap s.heap [] N)
    (hy : y.cls = "BridgeNet") (hlink : Cond.methodLink "BridgeNetLaw" index y ∈ bn_all) (hinst : Cond.instanceMethod y ∈ bn_all) (hsel : Cond.selects "BridgeNet" y y ∈ bn_all) (hcode : Cond.code y bytes maxL ret ∈ bn_all)
    (hM : bn_T l y (Cond.code y bytes maxL ret :: bn_all) rm D ar ad nf N (.ref (ad 0 0) :: As) k rv N' nf') (hrm : rm.cells = 1 ∧ rm.slots = 6) (hR : rm.frames + 1 ≤ R.frames ∧ 8 + (maxL + 11) + rm.locals ≤ R.locals) (hn : (parseMethodDescriptor y.desc).map (fun d => d.parameters.length) = some As.length)
    (hst : st0 = As.reverse ++ .ref (ad 0 0) :: rest) (hW : (rest.map fun v => v.category).sum ≤ 8) (hdg : decode cc pc = .ok (.invokevirtual index, 3)) (hf : 1 ≤ R.cells ∧ 6 ≤ R.slots)
    {ks : List (Nat × Nat)} {hp : Nat} (htab : c.exceptionTable.toList.map (fun x => (x.startPc, x.endPc, x.handlerPc, x.catchType)) = bx_tb z ks) (hz : pc < z) (hks : ¬ k = 0 → k < 4 ∧ ∃ ks1 ks2, ks = ks1 ++ (hp, k) :: ks2 ∧ ∀ q ∈ ks1, ¬ q.2 = k ∧ ¬ q.2 = 0 ∧ q.2 < 4)
    (k0 : k = 0 → ∀ (ad' : Nat → Nat → Nat) (H1 : Heap) (locs1 : List Loc), (∀ a b : Nat, ¬ a = 13 → ad' a b = ad a b) → va_P D bn_cl (bn_ws (bn_y D ar ad' nf') N') H1 → va_D (bn_AY (bn_y D ar ad nf) s.heap.size) (bn_ws (bn_y D ar ad' nf') N') → va_S (bn_AY (bn_y D ar ad nf) s.heap.size) s.heap H1 locs1 → bn_wf nf' N' →
      W p l e R s m args below meth c H1 locs1 1 6 Q (F0 m (pc + 3) ls (rv.toList ++ rest)))
    (kx : ¬ k = 0 → ∀ (ad' : Nat → Nat → Nat) (H1 : Heap) (locs1 : List Loc) (x : Addr), (∀ a b : Nat, ¬ a = 13 → ad' a b = ad a b) → va_P D bn_cl (bn_ws (bn_y D ar ad' nf') N') H1 → va_D (bn_AY (bn_y D ar ad nf) s.heap.size) (bn_ws (bn_y D ar ad' nf') N') → va_S (bn_AY (bn_y D ar ad nf) s.heap.size) s.heap H1 locs1 → bn_wf nf' N' →
      W p l e R s m args below meth c H1 locs1 1 6 Q (F0 m hp ls [.ref x])) : W p l e R s m args below meth c s.heap [] 0 0 Q (F0 m pc ls st0) := by
  intro T hT X
  obtain ⟨hP, hD, hS, hN⟩ := h
  obtain ⟨q0, hq0⟩ := bn_wl_get (ad := ad) (ce := bn_c ar ad N) (mm_0 (nf := nf))
  obtain ⟨cellB, hb1, hb2, hb3⟩ := va_recv (ci := 0) (q := (R_Ne, T_Ne, 3)) F.2.2.2.2 hP rfl hq0
  obtain ⟨o, st₀, t, T', L, g1, g2, X', hL, e1, e2, hq, kr, kt⟩ := bx_call (C := "BridgeNet") (ret := ret) (bytes := bytes) (maxL := maxL) X F.1 F.2.2.1 (F.2.2.2.1 _ hlink) (F.2.2.2.1 _ hinst) (F.2.2.2.1 _ hsel) (F.2.2.2.1 _ hcode) (by rw [hy]; exact F.2.2.2.1 _ k_1) (by rw [hy]; exact ⟨by decide, by decide⟩)
    (hM s.heap.size) (bt_blind _ _ _ _) hrm.1 hrm.2 hR.1 hR.2
    (fun w hw a' U hWU => by
      rcases List.mem_cons.mp hw with rfl | hw
      · exact word_at hWU (bn_goodW hcode) (F.2.2.2.1 _ hcode)
      · exact word_at hWU (bn_goodW hw) (F.2.2.2.1 _ hw))
    (b := ad 0 0) (by rw [hT]; exact hb1) hb2 hb3 (g := F0 m pc ls st0) rfl (hsz.trans hml.symm) (argsL := As) (rest := rest) (fun sig hs => by rw [hs] at hn; exact (Option.some.inj hn).symm) hst (lv_room hW) (by rw [F.2.1]; exact hdg)
    (fun U hU hWU => ⟨rfl, ⟨by rw [hU, hT], by rw [hU, hT]; exact hP, va_K.moved hWU.alike F.2.2.2.2, hD.weaken (fun _ _ _ _ => trivial), hN⟩, hO.on hWU (fun a k hk => by rw [hU, hT]; exact hk)⟩) ⟨by simpa using hf.1, by simpa using hf.2⟩
  obtain ⟨⟨ad', had, hP1, -, hD1, hN1⟩, ⟨hz1, hz2⟩, hcase⟩ := hq
  rw [← e1] at hP1
  rw [g1, hT] at hz1 hz2
  rw [← e1] at hz1 hz2
  have hS1 : va_S (bn_AY (bn_y D ar ad nf) s.heap.size) s.heap T'.heap ([] ++ L) := ⟨hz1, hz2, fun q hq => hL q hq⟩
  rcases hcase with ⟨hk, ho⟩ | ⟨hk, x, cell, ho, hc1, hc2, hc3⟩
  · obtain ⟨t2, a1, b1⟩ := k0 hk ad' T'.heap ([] ++ L) had hP1 hD1 hS1 hN1 T' rfl X'
    exact ⟨t2, kr rv ho t2 a1, b1⟩
  · obtain ⟨h4, ks1, ks2, hsp, hpre⟩ := hks hk
    subst hsp
    obtain ⟨vm', X2, hgo⟩ := bx_catch X' hO F.2.2.1 htab hk h4 hpre (g := { F0 m pc ls st0 with stack := rest }) rfl hz (a := x) (cell := cell) (by rw [e1]; exact hc1) hc2 (by rw [← g2.alike.findClass]; exact hc3)
    obtain ⟨t2, a1, b1⟩ := kx hk ad' T'.heap ([] ++ L) x had hP1 hD1 hS1 hN1 (T'.setVm vm') rfl X2
    exact ⟨t2, kt x ho t2 (hgo t2 a1), b1⟩
end BXT
