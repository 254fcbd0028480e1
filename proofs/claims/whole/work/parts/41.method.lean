/-! constructors called where more than one cell may change; a method over a world that is a list -/
theorem rw_arr {cA : ClassId} {k : Nat} {f g : Nat → Value} (h : ∀ i : Nat, i < k → f i = g i) : arrV cA k f = arrV cA k g := by
  unfold arrV
  rw [show (fun j : Fin k => f j.val) = (fun j : Fin k => g j.val) from funext fun j => h j.val j.isLt]
section RAM
variable {p : Program} {l : Launch} {e : Env} {R : Room} {s : State} {m : MethodId} {args : Array Value} {below : List Frame} {meth : Method} {c : Code} {H : Heap} {locs : List Loc} {cells slots : Nat} {Q : State → Prop}
variable {cc bytes : ByteArray} {pc n nL maxL k index q mc ms z : Nat} {ls : Array Slot} {rest st0 As : List Value} {own host : String} {A : Nat → Prop} {ws0 w0 w : va_W} {b : va_E} {D : va_G} {ar : Nat → ClassId} {y : MethodName} {rm : Room}
theorem rw_preA (F : bn_F p s m args c cc own (rw_Y D ar)) (hO : bx_Og z s) (hz : ∀ a : Nat, a < z → a < s.heap.size ∧ ¬ A a) (h : rw_H D A s.heap H locs (ws0 ++ [(q, b)])) (hn : H.size = n) : PreS s H (va_Pc (.ref q :: As) (rw_Pre D ar z n [(q, b)])) (.ref q :: As) := by
  refine ⟨rw_blind _ _ _ _ _ _, fun U hU hW => ⟨rfl, by rw [hU]; exact hn, ?_, va_K.moved hW.alike F.2.2.2.2, hO.on hW (fun a x ha hx => ?_)⟩⟩
  · rw [hU]
    intro i x hi
    have hz : i < 1 := (List.getElem?_eq_some_iff.mp hi).1
    rw [show i = 0 by omega] at hi
    cases hi
    exact h.1 ws0.length (q, b) (by simp)
  · rw [hU, h.2.2.2.1 a (hz a ha).1 (hz a ha).2]
    exact hx
theorem rw_ctorA (F : bn_F p s m args c cc own (rw_Y D ar)) (hO : bx_Og z s) (hz : ∀ a : Nat, a < z → a < s.heap.size ∧ ¬ A a) (hA : ∀ q, s.heap.size ≤ q → A q) (hml : c.maxLocals = nL) (hsz : ls.size = nL) (h : rw_H D A s.heap H locs (ws0 ++ [(q, b)])) (hn : H.size = n)
    (hM : rw_C l y (Cond.code y bytes maxL none :: bn_all) rm D ar z q n b As mc ms w) (hcode : Cond.code y bytes maxL none ∈ bn_all) (hini : Cond.initialized y.cls ∈ bn_all) (hl : Cond.methodLink own index y ∈ bn_all) (hin : Cond.instanceMethod y ∈ bn_all) (hy1 : y.name = "<init>") (hrm : rm.cells = mc ∧ rm.slots = ms)
    (hd : y.cls ≠ "java/lang/invoke/MethodHandle" ∧ y.cls ≠ "java/lang/invoke/VarHandle" ∧ (parseMethodDescriptor y.desc).map (fun d => d.parameters.length) = some k) (hR : rm.frames + 1 ≤ R.frames ∧ 8 + (maxL + 11) + rm.locals ≤ R.locals) (hk : As.length = k) (hst : st0 = As.reverse ++ .ref q :: rest) (hW : (rest.map fun v => v.category).sum ≤ 8) (hdg : decode cc pc = .ok (.invokespecial index, 3)) (hf : cells + mc ≤ R.cells ∧ slots + ms ≤ R.slots)
    (kk : ∀ (H1 : Heap) (locs1 : List Loc), H1.size = n + mc → rw_H D A s.heap H1 locs1 (ws0 ++ w) → W p l e R s m args below meth c H1 locs1 (cells + mc) (slots + ms) Q (F0 m (pc + 3) ls rest)) : W p l e R s m args below meth c H locs cells slots Q (F0 m pc ls st0) := by
  have hr := va_runI (R := R) (H := H) (locs := locs) (cells := cells) (slots := slots) (below := below) (meth := meth) (e := e) (b := q) (rest := rest) (g := F0 m pc ls st0) ⟨F.1, F.2.1, hml, F.2.2.1, F.2.2.2.1⟩ hM (cwI k F.2.2.2.1 (bn_goodC hcode) rfl hrm.1 hrm.2 (F.2.2.2.1 _ hini) (F.2.2.2.1 _ hl) (F.2.2.2.1 _ hin) hy1 hd hR) (rw_preA F hO hz h hn) rfl hk hsz hst (lv_room hW) hdg hf
  exact rw_back hr h hA hn kk
theorem rw_ctorNA (F : bn_F p s m args c cc own (rw_Y D ar)) (hO : bx_Og z s) (hz : ∀ a : Nat, a < z → a < s.heap.size ∧ ¬ A a) (hA : ∀ q, s.heap.size ≤ q → A q) (hml : c.maxLocals = nL) (hsz : ls.size = nL) (h : rw_H D A s.heap H locs (ws0 ++ [(q, b)])) (hn : H.size = n)
    (hM : rw_C l y (Cond.code y bytes maxL none :: bn_all) rm D ar z q n b As mc ms w) (hcode : Cond.code y bytes maxL none ∈ bn_all) (hini : Cond.initialized y.cls ∈ bn_all) (hl : va_Nw (.methodLinkNest own index y host) s) (hin : Cond.instanceMethod y ∈ bn_all) (hy1 : y.name = "<init>") (hrm : rm.cells = mc ∧ rm.slots = ms)
    (hd : y.cls ≠ "java/lang/invoke/MethodHandle" ∧ y.cls ≠ "java/lang/invoke/VarHandle" ∧ (parseMethodDescriptor y.desc).map (fun d => d.parameters.length) = some k) (hR : rm.frames + 1 ≤ R.frames ∧ 8 + (maxL + 11) + rm.locals ≤ R.locals) (hk : As.length = k) (hst : st0 = As.reverse ++ .ref q :: rest) (hW : (rest.map fun v => v.category).sum ≤ 8) (hdg : decode cc pc = .ok (.invokespecial index, 3)) (hf : cells + mc ≤ R.cells ∧ slots + ms ≤ R.slots)
    (kk : ∀ (H1 : Heap) (locs1 : List Loc), H1.size = n + mc → rw_H D A s.heap H1 locs1 (ws0 ++ w) → W p l e R s m args below meth c H1 locs1 (cells + mc) (slots + ms) Q (F0 m (pc + 3) ls rest)) : W p l e R s m args below meth c H locs cells slots Q (F0 m pc ls st0) := by
  have hr := va_runIN (R := R) (H := H) (locs := locs) (cells := cells) (slots := slots) (below := below) (meth := meth) (e := e) (b := q) (rest := rest) (g := F0 m pc ls st0) ⟨F.1, F.2.1, hml, F.2.2.1, F.2.2.2.1⟩ hM ⟨va_cnB k F.2.2.2.1 (bn_goodC hcode) rfl hrm.1 hrm.2 hl (F.2.2.2.1 _ hini) hd hR, hy1, F.2.2.2.1 _ hin⟩ (rw_preA F hO hz h hn) rfl hk hsz hst (lv_room hW) hdg hf
  exact rw_back hr h hA hn kk
/-- a method that begins with the world w0 in a heap of sz cells -/
def rw_PreL (D : va_G) (ar : Nat → ClassId) (z sz : Nat) (w0 : va_W) (U : State) : Prop := rw_Pre D ar z sz w0 U ∧ va_D (fun _ => True) w0
def rw_M (l : Launch) (y : MethodName) (ws : List Cond) (rm : Room) (D : va_G) (ar : Nat → ClassId) (z sz : Nat) (w0 : va_W) (av : List Value) (mc ms : Nat) (w : va_W) : Prop :=
  Met l y ws rm (va_Pc av (rw_PreL D ar z sz w0)) (rw_Q D (va_A w0 sz) (sz + mc) w) mc ms (va_A w0 sz)
theorem rw_startM {l : Launch} {y : MethodName} {rm : Room} {D : va_G} {ar : Nat → ClassId} {z sz : Nat} {w0 : va_W} {av : List Value} {mc ms : Nat} {w : va_W} {cc : ByteArray} {maxL : Nat} {ws : List Cond} (hy : plainName y.cls = true) (hw : ws = Cond.code y cc maxL none :: bn_all) (hlen : (lg_sl av).length ≤ maxL)
    (body : ∀ (p : Program) (e : Env) (s : State) (m : MethodId) (args : Array Value) (below : List Frame) (meth : Method) (c : Code) (ls : Array Slot), s.heap.size = sz → bn_F p s m args c cc y.cls (rw_Y D ar) → bx_Og z s → meth.name = y.name → c.maxLocals = maxL → meth.sig.returnType = none → meth.locks = false → lv_has ls maxL (lv_args 0 av) → rw_H D (va_A w0 sz) s.heap s.heap [] w0 →
      W p l e rm s m args below meth c s.heap [] 0 0 (MQ below (rw_Q D (va_A w0 sz) (sz + mc) w) args s mc ms (va_A w0 sz)) (F0 m 0 ls [])) : rw_M l y ws rm D ar z sz w0 av mc ms w := by
  refine Met.ofW (cc := cc) (maxL := maxL) (ret := none) hy hw ?_
  intro p e s m args below meth c s₁ B hml hv
  obtain ⟨rfl, ⟨hsz, hP, hK, hO⟩, hD⟩ := hv
  have hts := atoms_spec (ws := ws) B.pre
  have hl := lv_entry av (n := maxL) hlen
  rw [lg_entry_eq]
  exact body p e s m _ below meth c _ hsz ⟨B.exec, B.bytes, findClass_of_methodNamed B.named, fun w h => hts w (by rw [hw]; exact List.mem_cons_of_mem _ h), hK⟩ hO (name_of_methodNamed B.named B.method).1 hml B.returns B.notSynchronized hl ⟨hP, hD.weaken (fun _ _ hq _ => va_A.in hq), va_S.rf⟩
theorem rw_backM {a : Array Value} (hr : va_Run p l e R s m args below meth c H locs cells slots mc ms (F0 m pc ls st0) rest (rw_Q D (va_A w0 n) (n + mc) w a) (va_A w0 n)) (h : rw_H D A s.heap H locs (ws0 ++ w0)) (hA : ∀ q, s.heap.size ≤ q → A q) (hn : H.size = n)
    (kk : ∀ (H1 : Heap) (locs1 : List Loc), H1.size = n + mc → rw_H D A s.heap H1 locs1 (ws0 ++ w) → W p l e R s m args below meth c H1 locs1 (cells + mc) (slots + ms) Q (F0 m (pc + 3) ls rest)) : W p l e R s m args below meth c H locs cells slots Q (F0 m pc ls st0) := by
  intro T hT X
  obtain ⟨v, st₀, t, T', L, h0, X', hL, e1, e2, ⟨hv, hP1, hD1, hz1, hF1, hF2⟩, st⟩ := hr T hT X
  cases hv
  subst hn
  obtain ⟨hP, hD, hS⟩ := h
  rw [h0] at hF1 hF2
  have hin : ∀ (i : Nat) (x : Nat × va_E), ws0[i]? = some x → (ws0 ++ w0)[i]? = some x := fun i x hi => by rw [List.getElem?_append_left (List.getElem?_eq_some_iff.mp hi).1]; exact hi
  have hin2 : ∀ (i : Nat) (x : Nat × va_E), w0[i]? = some x → (ws0 ++ w0)[ws0.length + i]? = some x := fun i x hi => by rw [List.getElem?_append_right (by omega), show ws0.length + i - ws0.length = i by omega]; exact hi
  have hap : ∀ (i : Nat) (x : Nat × va_E), ws0[i]? = some x → x.1 < H.size ∧ ¬ va_A w0 H.size x.1 := fun i x hi => by
    have h1 := (hP i x (hin i x hi)).lt
    refine ⟨h1, ?_⟩
    rintro (⟨k, x2, h2⟩ | h2)
    · have h3 := hD.1 i (ws0.length + k) x (x.1, x2) (hin i x hi) (hin2 k _ h2) rfl
      have h4 := (List.getElem?_eq_some_iff.mp hi).1
      omega
    · exact absurd h1 (Nat.not_lt.mpr h2)
  have hAA : ∀ x : Nat, va_A w0 H.size x → A x := fun x hx => by
    rcases hx with ⟨k, x2, h2⟩ | hx
    · exact hD.2 (ws0.length + k) (x, x2) (hin2 k _ h2)
    · exact hA x (Nat.le_trans hS.1 hx)
  have hR : rw_H D A s.heap T'.heap (locs ++ L) (ws0 ++ w) := by
    refine ⟨va_P.app (fun i x hi => ?_) (by rw [e1]; exact hP1), va_D.app ⟨fun i j x y hi hj hxy => hD.1 i j x y (hin i x hi) (hin j y hj) hxy, fun i x hi => hD.2 i x (hin i x hi)⟩ (hD1.weaken (fun _ x _ hx => hAA x.1 hx)) (fun i j x y hi hj hxy => ?_), ⟨Nat.le_trans hS.1 (by rw [e1]; exact hF1), fun x h1 h2 => ?_, fun x hx => ?_⟩⟩
    · exact (hP i x (hin i x hi)).kept (by rw [e1]; exact hF2 x.1 (hap i x hi).1 (hap i x hi).2)
    · exact (hap i x hi).2 (by rw [hxy]; exact hD1.2 j y hj)
    · rw [e1, hF2 x (Nat.lt_of_lt_of_le h1 hS.1) (fun h3 => h2 (hAA x h3))]
      exact hS.2.1 x h1 h2
    · rcases List.mem_append.mp hx with hx | hx
      · exact hS.2.2 x hx
      · exact hAA _ (hL x hx)
  obtain ⟨t2, a1, b1⟩ := kk T'.heap (locs ++ L) (by rw [e1]; exact hz1) hR T' rfl X'
  exact ⟨t2, st t2 a1, b1⟩
theorem rw_blindL (D : va_G) (ar : Nat → ClassId) (z sz : Nat) (w : va_W) (av : List Value) : FrameBlind (va_Pc av (rw_PreL D ar z sz w)) := fun a U g mk q => by
  obtain ⟨q0, ⟨q1, qP, qK, qO⟩, qD⟩ := q
  exact ⟨q0, ⟨q1, qP, va_K.moved (u := U) (U := U.calling g mk a) (Vm.Alike.refl U.vm) qK, qO.call g mk a⟩, qD⟩
theorem rw_callM {B : Nat} (F : bn_F p s m args c cc own (rw_Y D ar)) (hO : bx_Og z s) (hz : ∀ a : Nat, a < z → a < s.heap.size ∧ ¬ A a) (hA : ∀ q, s.heap.size ≤ q → A q) (hml : c.maxLocals = nL) (hsz : ls.size = nL) (h : rw_H D A s.heap H locs (ws0 ++ w0)) (hn : H.size = n) {ci : Nat} {fs : List Value} {qc : vw_C} (h00 : w0[0]? = some (B, .inr (ci, fs))) (hc : bn_cl[ci]? = some qc)
    (hM : rw_M l y (Cond.code y bytes maxL none :: bn_all) rm D ar z n w0 (.ref B :: As) mc ms w) (G : GoodIn bn_all (wsV own index qc.1 y (Cond.code y bytes maxL none :: bn_all))) (hrm : rm.cells = mc ∧ rm.slots = ms)
    (hd : y.cls = qc.1 ∧ y.cls ≠ "java/lang/invoke/MethodHandle" ∧ y.cls ≠ "java/lang/invoke/VarHandle" ∧ (parseMethodDescriptor y.desc).map (fun d => d.parameters.length) = some k) (hR : rm.frames + 1 ≤ R.frames ∧ 8 + (maxL + 11) + rm.locals ≤ R.locals) (hk : As.length = k) (hst : st0 = As.reverse ++ .ref B :: rest) (hW : (rest.map fun v => v.category).sum ≤ 8) (hdg : decode cc pc = .ok (.invokevirtual index, 3)) (hf : cells + mc ≤ R.cells ∧ slots + ms ≤ R.slots)
    (kk : ∀ (H1 : Heap) (locs1 : List Loc), H1.size = n + mc → rw_H D A s.heap H1 locs1 (ws0 ++ w) → W p l e R s m args below meth c H1 locs1 (cells + mc) (slots + ms) Q (F0 m (pc + 3) ls rest)) : W p l e R s m args below meth c H locs cells slots Q (F0 m pc ls st0) := by
  have hin2 : ∀ (i : Nat) (x : Nat × va_E), w0[i]? = some x → (ws0 ++ w0)[ws0.length + i]? = some x := fun i x hi => by rw [List.getElem?_append_right (by omega), show ws0.length + i - ws0.length = i by omega]; exact hi
  have hpre : PreV s H qc.1 B (va_Pc (.ref B :: As) (rw_PreL D ar z n w0)) As := ⟨rw_blindL _ _ _ _ _ _, va_recv F.2.2.2.2 h.1 hc (hin2 0 _ h00), fun U hU hW => ⟨rfl, ⟨by rw [hU]; exact hn, by rw [hU]; exact fun i x hi => h.1 _ x (hin2 i x hi), va_K.moved hW.alike F.2.2.2.2, hO.on hW (fun a x ha hx => by rw [hU, h.2.2.2.1 a (hz a ha).1 (hz a ha).2]; exact hx)⟩, ⟨fun i j x y hi hj hxy => by have := h.2.1.1 _ _ x y (hin2 i x hi) (hin2 j y hj) hxy; omega, fun _ _ _ => trivial⟩⟩⟩
  have hr := va_runV (R := R) (H := H) (locs := locs) (cells := cells) (slots := slots) (below := below) (meth := meth) (e := e) (rest := rest) (g := F0 m pc ls st0) ⟨F.1, F.2.1, hml, F.2.2.1, F.2.2.2.1⟩ hM (cwV k F.2.2.2.1 G rfl hrm.1 hrm.2 hd hR) hpre rfl hk hsz hst (lv_room hW) hdg hf
  exact rw_backM hr h hA hn kk
theorem rw_congr {q0 a k : Nat} {cA : ClassId} {f g : Nat → Option Nat} (h : rw_H D A s.heap H locs w) (h0 : w[q0]? = some (a, .inl (cA, k, .inr (.inr (.inr (.inr f)))))) (hfg : ∀ i : Nat, i < k → f i = g i) : rw_H D A s.heap H locs (w.set q0 (a, .inl (cA, k, .inr (.inr (.inr (.inr g)))))) := by
  have hlen := (List.getElem?_eq_some_iff.mp h0).1
  have hcell : vp_cell cA (k, .inr (.inr (.inr (.inr f)))) = vp_cell cA (k, .inr (.inr (.inr (.inr g)))) := by
    rw [vp_cell_q, vp_cell_q]
    exact rw_arr (fun j hj => by rw [hfg j hj])
  have hex : ∀ (i : Nat) (x : Nat × va_E), (w.set q0 (a, .inl (cA, k, .inr (.inr (.inr (.inr g))))))[i]? = some x → (i = q0 ∧ x = (a, .inl (cA, k, .inr (.inr (.inr (.inr g)))))) ∨ (¬ i = q0 ∧ w[i]? = some x) := fun i x hi => by
    by_cases e : i = q0
    · subst e
      rw [List.getElem?_set_self hlen] at hi
      exact Or.inl ⟨rfl, (Option.some.inj hi).symm⟩
    · rw [List.getElem?_set_ne (fun e2 => e e2.symm)] at hi
      exact Or.inr ⟨e, hi⟩
  have had : ∀ (i : Nat) (x : Nat × va_E), (w.set q0 (a, .inl (cA, k, .inr (.inr (.inr (.inr g))))))[i]? = some x → ∃ x' : Nat × va_E, w[i]? = some x' ∧ x'.1 = x.1 := fun i x hi => by
    rcases hex i x hi with ⟨e1, e2⟩ | ⟨_, e2⟩
    · subst e1 e2
      exact ⟨_, h0, rfl⟩
    · exact ⟨x, e2, rfl⟩
  refine ⟨fun i x hi => ?_, ⟨fun i j x y hi hj hxy => ?_, fun i x hi => ?_⟩, h.2.2⟩
  · rcases hex i x hi with ⟨e1, e2⟩ | ⟨_, e2⟩
    · subst e1 e2
      have h1 : H[a]? = some (vp_cell cA (k, .inr (.inr (.inr (.inr f))))) := h.1 _ _ h0
      rw [hcell] at h1
      exact h1
    · exact h.1 i x e2
  · obtain ⟨x', hx1, hx2⟩ := had i x hi
    obtain ⟨y', hy1, hy2⟩ := had j y hj
    exact h.2.1.1 i j x' y' hx1 hy1 (by rw [hx2, hy2]; exact hxy)
  · obtain ⟨x', hx1, hx2⟩ := had i x hi
    rw [← hx2]
    exact h.2.1.2 i x' hx1
theorem rw_at {X Z : va_W} {x : Nat × va_E} : (X ++ x :: Z)[X.length]? = some x := by simp
theorem rw_at1 {X Z : va_W} {x1 x : Nat × va_E} : (X ++ x1 :: x :: Z)[X.length + 1]? = some x := by simp
theorem rw_at3 {X Z : va_W} {x1 x2 x3 x : Nat × va_E} : (X ++ x1 :: x2 :: x3 :: x :: Z)[X.length + 3]? = some x := by simp
end RAM
