/-! calls of constructors; words that ride along -/
theorem bx_AO {U : State} (h : bx_O U) {C : String} (hw : Cond.arrayOver (.object C) ∈ lw_tbl) : va_AO C U := by
  obtain ⟨s0, A0, h1, h2, h3, h4⟩ := h
  exact va_AO.moved h3.alike (va_AO.of (h1 _ hw))
theorem bx_nest {U : State} (h : bx_O U) {a x : String} {i : Nat} {y : MethodName} (hw : Cond.methodLinkNest a i y x ∈ lw_tbl) : va_Nw (.methodLinkNest a i y x) U := by
  obtain ⟨s0, A0, h1, h2, h3, h4⟩ := h
  exact va_Nw.warmM h3 (va_Nw.of rfl (h1 _ hw))
theorem ao_Br : Cond.arrayOver (.object "BridgeNet$Bridge") ∈ lw_tbl := by decide +kernel
theorem ao_Po : Cond.arrayOver (.object "BridgeNet$Port") ∈ lw_tbl := by decide +kernel
theorem ao_Ms : Cond.arrayOver (.object "BridgeNet$Message") ∈ lw_tbl := by decide +kernel
theorem ao_St : Cond.arrayOver (.object "BridgeNet$Station") ∈ lw_tbl := by decide +kernel
theorem nl_Ms : Cond.methodLinkNest "BridgeNet$Line" 24 y_Ms_init "BridgeNet" ∈ lw_tbl := by decide +kernel
theorem nl_St : Cond.methodLinkNest "BridgeNet" 31 y_St_init "BridgeNet" ∈ lw_tbl := by decide +kernel
theorem rw_blind (D : va_G) (ar : Nat → ClassId) (z sz : Nat) (w : va_W) (av : List Value) : FrameBlind (va_Pc av (rw_Pre D ar z sz w)) := fun a U g mk q => by
  obtain ⟨q0, q1, qP, qK, qO⟩ := q
  exact ⟨q0, q1, qP, va_K.moved (u := U) (U := U.calling g mk a) (Vm.Alike.refl U.vm) qK, qO.call g mk a⟩
section RAD
variable {p : Program} {l : Launch} {e : Env} {R : Room} {s : State} {m : MethodId} {args : Array Value} {below : List Frame} {meth : Method} {c : Code} {H : Heap} {locs : List Loc} {cells slots : Nat} {Q : State → Prop}
variable {cc bytes : ByteArray} {pc n nL maxL k index q mc ms : Nat} {ls : Array Slot} {rest st0 As : List Value} {own host : String} {A : Nat → Prop} {ws0 w : va_W} {b : va_E} {D : va_G} {ar : Nat → ClassId} {y : MethodName} {rm : Room}
theorem rw_preS {z q1 : Nat} (F : bn_F p s m args c cc own (rw_Y D ar)) (hO : bx_Og z s) (hz : z ≤ q1) (hq1 : q1 < s.heap.size) (h : rw_H D (rw_A q1 s.heap.size) s.heap H locs (ws0 ++ [(q, b)])) (hn : H.size = n) : PreS s H (va_Pc (.ref q :: As) (rw_Pre D ar z n [(q, b)])) (.ref q :: As) := by
  refine ⟨rw_blind _ _ _ _ _ _, fun U hU hW => ⟨rfl, by rw [hU]; exact hn, ?_, va_K.moved hW.alike F.2.2.2.2, hO.on hW (fun a x ha hx => ?_)⟩⟩
  · rw [hU]
    intro i x hi
    have hz : i < 1 := (List.getElem?_eq_some_iff.mp hi).1
    rw [show i = 0 by omega] at hi
    cases hi
    exact h.1 ws0.length (q, b) (by simp)
  · have ha1 : a < q1 := Nat.lt_of_lt_of_le ha hz
    have ha2 : a < s.heap.size := Nat.lt_trans ha1 hq1
    rw [hU, h.2.2.2.1 a ha2 (fun h9 => by
      rcases h9 with h1 | h1
      · exact absurd h1 (Nat.ne_of_lt ha1)
      · exact absurd ha2 (Nat.not_lt.mpr h1))]
    exact hx
/-- a constructor called by its own link -/
theorem rw_ctor {z q1 : Nat} (F : bn_F p s m args c cc own (rw_Y D ar)) (hO : bx_Og z s) (hz : z ≤ q1) (hq1 : q1 < s.heap.size) (hml : c.maxLocals = nL) (hsz : ls.size = nL) (h : rw_H D (rw_A q1 s.heap.size) s.heap H locs (ws0 ++ [(q, b)])) (hn : H.size = n)
    (hM : rw_C l y (Cond.code y bytes maxL none :: bn_all) rm D ar z q n b As mc ms w) (hcode : Cond.code y bytes maxL none ∈ bn_all) (hini : Cond.initialized y.cls ∈ bn_all) (hl : Cond.methodLink own index y ∈ bn_all) (hin : Cond.instanceMethod y ∈ bn_all) (hy1 : y.name = "<init>") (hrm : rm.cells = mc ∧ rm.slots = ms)
    (hd : y.cls ≠ "java/lang/invoke/MethodHandle" ∧ y.cls ≠ "java/lang/invoke/VarHandle" ∧ (parseMethodDescriptor y.desc).map (fun d => d.parameters.length) = some k) (hR : rm.frames + 1 ≤ R.frames ∧ 8 + (maxL + 11) + rm.locals ≤ R.locals) (hk : As.length = k) (hst : st0 = As.reverse ++ .ref q :: rest) (hW : (rest.map fun v => v.category).sum ≤ 8) (hdg : decode cc pc = .ok (.invokespecial index, 3)) (hf : cells + mc ≤ R.cells ∧ slots + ms ≤ R.slots)
    (kk : ∀ (H1 : Heap) (locs1 : List Loc), H1.size = n + mc → rw_H D (rw_A q1 s.heap.size) s.heap H1 locs1 (ws0 ++ w) → W p l e R s m args below meth c H1 locs1 (cells + mc) (slots + ms) Q (F0 m (pc + 3) ls rest)) : W p l e R s m args below meth c H locs cells slots Q (F0 m pc ls st0) := by
  have hr := va_runI (R := R) (H := H) (locs := locs) (cells := cells) (slots := slots) (below := below) (meth := meth) (e := e) (b := q) (rest := rest) (g := F0 m pc ls st0) ⟨F.1, F.2.1, hml, F.2.2.1, F.2.2.2.1⟩ hM (cwI k F.2.2.2.1 (bn_goodC hcode) rfl hrm.1 hrm.2 (F.2.2.2.1 _ hini) (F.2.2.2.1 _ hl) (F.2.2.2.1 _ hin) hy1 hd hR) (rw_preS F hO hz hq1 h hn) rfl hk hsz hst (lv_room hW) hdg hf
  exact rw_back hr h (fun x hx => Or.inr hx) hn kk
theorem rw_ctorN {z q1 : Nat} (F : bn_F p s m args c cc own (rw_Y D ar)) (hO : bx_Og z s) (hz : z ≤ q1) (hq1 : q1 < s.heap.size) (hml : c.maxLocals = nL) (hsz : ls.size = nL) (h : rw_H D (rw_A q1 s.heap.size) s.heap H locs (ws0 ++ [(q, b)])) (hn : H.size = n)
    (hM : rw_C l y (Cond.code y bytes maxL none :: bn_all) rm D ar z q n b As mc ms w) (hcode : Cond.code y bytes maxL none ∈ bn_all) (hini : Cond.initialized y.cls ∈ bn_all) (hl : va_Nw (.methodLinkNest own index y host) s) (hin : Cond.instanceMethod y ∈ bn_all) (hy1 : y.name = "<init>") (hrm : rm.cells = mc ∧ rm.slots = ms)
    (hd : y.cls ≠ "java/lang/invoke/MethodHandle" ∧ y.cls ≠ "java/lang/invoke/VarHandle" ∧ (parseMethodDescriptor y.desc).map (fun d => d.parameters.length) = some k) (hR : rm.frames + 1 ≤ R.frames ∧ 8 + (maxL + 11) + rm.locals ≤ R.locals) (hk : As.length = k) (hst : st0 = As.reverse ++ .ref q :: rest) (hW : (rest.map fun v => v.category).sum ≤ 8) (hdg : decode cc pc = .ok (.invokespecial index, 3)) (hf : cells + mc ≤ R.cells ∧ slots + ms ≤ R.slots)
    (kk : ∀ (H1 : Heap) (locs1 : List Loc), H1.size = n + mc → rw_H D (rw_A q1 s.heap.size) s.heap H1 locs1 (ws0 ++ w) → W p l e R s m args below meth c H1 locs1 (cells + mc) (slots + ms) Q (F0 m (pc + 3) ls rest)) : W p l e R s m args below meth c H locs cells slots Q (F0 m pc ls st0) := by
  have hr := va_runIN (R := R) (H := H) (locs := locs) (cells := cells) (slots := slots) (below := below) (meth := meth) (e := e) (b := q) (rest := rest) (g := F0 m pc ls st0) ⟨F.1, F.2.1, hml, F.2.2.1, F.2.2.2.1⟩ hM ⟨va_cnB k F.2.2.2.1 (bn_goodC hcode) rfl hrm.1 hrm.2 hl (F.2.2.2.1 _ hini) hd hR, hy1, F.2.2.2.1 _ hin⟩ (rw_preS F hO hz hq1 h hn) rfl hk hsz hst (lv_room hW) hdg hf
  exact rw_back hr h (fun x hx => Or.inr hx) hn kk
end RAD
