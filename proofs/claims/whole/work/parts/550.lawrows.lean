/-! the law's own rows: a static method with handlers is called; the class's cells, the reference's cells and the array out lie beside one another -/
section LWS
variable {p : Program} {l : Launch} {e : Env} {R : Room} {s T : State} {m : MethodId} {args : Array Value} {below : List Frame} {meth : Method} {c : Code} {H : Heap} {locs : List Loc} {cells slots : Nat} {Q : State → Prop}
theorem lw_callS (X : Stand p l e R s m args below meth c T locs cells slots) (hexec : p.tables.exec = Jvm.exec) {own : String} {index : Nat} {y : MethodName} {bytes : ByteArray} {maxL : Nat} {ret : Option FieldType} {hh : List (Nat × Nat × Nat × Nat)}
    (hown : s.vm.findClass own = some m.cls) (hlink : (Cond.methodLink own index y).before args s = true) (hstat : (Cond.static y).before args s = true) (hinit : (Cond.initialized y.cls).before args s = true)
    (hcode : (Cond.codeWith y bytes maxL ret hh).before args s = true) (hy : y.cls ≠ "java/lang/invoke/MethodHandle" ∧ y.cls ≠ "java/lang/invoke/VarHandle")
    {W : Nat} {Pre : Pt → Array Value → Prop} {Post : Pt → Array Value → Option Value → Pt → Prop} (hK : Back l R p e below s args y 3 W Pre Post)
    {g : JFrame} (hg : g.method = m) (hsize : g.locals.size = c.maxLocals) {argsL rest : List Value} (hlen : ∀ sig, parseMethodDescriptor y.desc = some sig → argsL.length = sig.parameters.length)
    (hstack : g.stack = argsL.reverse ++ rest) (hW : 2 * g.monitorRoom + (rest.map fun v => v.category).sum ≤ W) (hdg : decode c.code g.pc = .ok (.invokestatic index, 3))
    (hpre : ∀ vm₁, s.WarmedH vm₁ → Pre ⟨T.setVm vm₁, locs, cells, slots⟩ argsL.toArray) :
    ∃ (v : Option Value) (vm₁ : Vm) (B : Pt), s.WarmedH vm₁ ∧ Stand p l e R s m args below meth c B.U B.locs B.cells B.slots ∧ Post ⟨T.setVm vm₁, locs, cells, slots⟩ argsL.toArray v B ∧
      ∀ target, Steps p.tables e below (B.U.setTop { g with pc := g.pc + 3, stack := v.toList ++ rest }) target → Steps p.tables e below (T.setTop g) target := by
  obtain ⟨mk, mt, cM, hnamed, hmt, -, -, -, -, -, -, hsig⟩ := Cond.codeWith_spec hcode
  have hstatic : mt.isStatic = true := Cond.static_spec hnamed hmt hstat
  obtain ⟨kP, hkP, -⟩ := className_of_methodNamed hnamed
  have hini : kP.init = .initialized := Cond.initialized_spec (findClass_of_methodNamed hnamed) hkP hinit
  obtain ⟨vm₁, X₁, hs1⟩ := X.invokestatic hexec hown hlink hnamed hmt hstatic hkP hini hy (g := g) hg (argsL := argsL) (rest := rest) (hlen _ hsig) hstack hdg
  obtain ⟨v, B, X', hpost, hs2⟩ := hK m meth c ⟨T.setVm vm₁, locs, cells, slots⟩ { g with stack := rest } (.invokestatic index) mk argsL.toArray X₁ hg hsize hdg hW (X₁.named hnamed) (hpre vm₁ X₁.warmed)
  exact ⟨v, vm₁, B, X₁.warmed, X', hpost, fun target h => hs1 _ fun acts => by rw [doInvoke_state]; exact hs2.trans h⟩
theorem lw_runSW {cc bytes : ByteArray} {nL maxL mc ms n index : Nat} {ret : Option FieldType} {hh : List (Nat × Nat × Nat × Nat)} {y : MethodName} {rm : Room} {Pc : Array Value → State → Prop} {Qc : Array Value → State → Outcome → State → Prop} {free : Addr → Prop} {own : String} {As rest : List Value} {g : JFrame} {Y : bn_Y}
    (F : bn_F p s m args c cc own Y) (hml : c.maxLocals = nL) (hM : Met l y (Cond.codeWith y bytes maxL ret hh :: bn_all) rm Pc Qc mc ms free) (hcode : Cond.codeWith y bytes maxL ret hh ∈ bn_all) (hlink : Cond.methodLink own index y ∈ bn_all) (hstat : Cond.static y ∈ bn_all) (hini : Cond.initialized y.cls ∈ bn_all) (hrm : rm.cells = mc ∧ rm.slots = ms)
    (hR : rm.frames + 1 ≤ R.frames ∧ 8 + (maxL + 11) + rm.locals ≤ R.locals) (hd : y.cls ≠ "java/lang/invoke/MethodHandle" ∧ y.cls ≠ "java/lang/invoke/VarHandle" ∧ (parseMethodDescriptor y.desc).map (fun d => d.parameters.length) = some n) (hp : PreS s H Pc As)
    (hg : g.method = m) (hn : As.length = n) (hsize : g.locals.size = nL) (hstack : g.stack = As.reverse ++ rest) (hW : 2 * g.monitorRoom + (rest.map fun v => v.category).sum ≤ 8) (hdg : decode cc g.pc = .ok (.invokestatic index, 3)) (hf : cells + mc ≤ R.cells ∧ slots + ms ≤ R.slots) :
    va_Run p l e R s m args below meth c H locs cells slots mc ms g rest (Qc As.toArray) free := by
  have hall : ∀ w ∈ Cond.codeWith y bytes maxL ret hh :: bn_all, ∀ (a' : Array Value) (U : State), s.WarmedH U.vm → w.before a' U = true := fun w hw a' U hU => by
    have h1 : w ∈ bn_all := by
      rcases List.mem_cons.mp hw with rfl | h
      · exact hcode
      · exact h
    exact word_at hU (bn_goodW h1) (F.2.2.2.1 _ h1)
  have hK : Back l R p e below s args y 3 8 (PreOf R mc ms Pc) (PostOf Qc mc ms free) := va_backW (hh := hh) hM hp.1 hrm.1 hrm.2 hR.1 hR.2 hall List.mem_cons_self (fun a' U hU => hall _ (List.mem_cons_of_mem _ hini) a' U hU)
  have hlen : ∀ sig, parseMethodDescriptor y.desc = some sig → As.length = sig.parameters.length := fun sig hs => by
    have h9 := hd.2.2
    rw [hs] at h9
    exact hn.trans (Option.some.inj h9).symm
  intro T hT X
  obtain ⟨v, vm₁, ⟨U', l2, c2, s2⟩, hW₁, X', ⟨g', mk, t, L, e1, e2, hq, h1, hL, h2, h3⟩, st⟩ := lw_callS X F.1 (bytes := bytes) (maxL := maxL) (ret := ret) (hh := hh) F.2.2.1 (F.2.2.2.1 _ hlink) (F.2.2.2.1 _ hstat) (F.2.2.2.1 _ hini) (F.2.2.2.1 _ hcode) ⟨hd.1, hd.2.1⟩ hK hg (hsize.trans hml.symm) (argsL := As) (rest := rest) hlen hstack hW (by rw [F.2.1]; exact hdg)
    (fun vm₁ hW₁ => ⟨hf.1, hf.2, hp.2 (T.setVm vm₁) hT hW₁⟩)
  dsimp only [Pt.U, Pt.locs, Pt.cells, Pt.slots] at X' e1 e2 h1 h2 h3 st
  subst h1; subst h2; subst h3
  exact ⟨v, (T.setVm vm₁).calling g' mk As.toArray, t, U', L, hT, X', hL, e1, e2, hq, st⟩
end LWS
abbrev lw_A (H0 : Heap) : Nat → Prop := fun q => H0.size ≤ q
/-- class, reference and the array out in one heap, all newer than H0 -/
def lw_I (D : va_G) (ar : Nat → ClassId) (ad2 : Nat → Nat → Nat) (r : Nat) (H0 H : Heap) (locs : List Loc) (ad : Nat → Nat → Nat) (nf : Nat) (N M : bn_S) (g : Nat → Int64) : Prop :=
  (va_P D bn_cl (bn_ws (bn_y D ar ad nf) N) H ∧ va_D (lw_A H0) (bn_ws (bn_y D ar ad nf) N) ∧ bn_wf nf N) ∧
  (va_P D bn_cl (bn_ws (mo_y D ar ad2) M) H ∧ va_D (lw_A H0) (bn_ws (mo_y D ar ad2) M) ∧ mo_wf M) ∧
  (H[r]? = some (vp_cell (ar 1) (1, .inr (.inl g))) ∧ H0.size ≤ r) ∧
  ((∀ k x : Nat, (k, x) ∈ bn_ix nf → ∀ k' x' : Nat, (k', x') ∈ mo_ix → ¬ ad k x = ad2 k' x') ∧ (∀ k x : Nat, (k, x) ∈ bn_ix nf → ¬ ad k x = r) ∧ ∀ k x : Nat, (k, x) ∈ mo_ix → ¬ ad2 k x = r) ∧
  va_S (lw_A H0) H0 H locs
section LWI
variable {D : va_G} {ar : Nat → ClassId} {ad ad' ad2 : Nat → Nat → Nat} {r nf nf' : Nat} {H0 H H1 : Heap} {locs locs1 : List Loc} {N N' M M' : bn_S} {g g' : Nat → Int64} {Y : bn_Y}
theorem lw_lt {ix : List (Nat × Nat)} {ce : Nat → Nat → va_E} {k x : Nat} (hP : va_P D bn_cl (bn_wl ix ad ce) H) (h : (k, x) ∈ ix) : ad k x < H.size := by
  obtain ⟨q, hq⟩ := bn_wl_get (ad := ad) (ce := ce) h
  exact (hP q _ hq).lt
theorem lw_ge {A : Nat → Prop} {ix : List (Nat × Nat)} {ce : Nat → Nat → va_E} {k x : Nat} (hD : va_D A (bn_wl ix ad ce)) (h : (k, x) ∈ ix) : A (ad k x) := by
  obtain ⟨q, hq⟩ := bn_wl_get (ad := ad) (ce := ce) h
  exact hD.2 q _ hq
theorem lw_toH (hP : va_P Y.1 bn_cl (bn_ws Y N) H) (hD : va_D (lw_A H0) (bn_ws Y N)) (hS : va_S (lw_A H0) H0 H locs) (hN : Y.2.2.2.2.2 N) : bn_H Y H0 H locs N :=
  ⟨hP, hD.weaken (fun _ _ _ h => Or.inr h), ⟨hS.1, fun q h1 h2 => hS.2.1 q h1 (fun h3 => h2 (Or.inr h3)), fun x hx => Or.inr (hS.2.2 x hx)⟩, hN⟩
theorem lw_H1 (I : lw_I D ar ad2 r H0 H locs ad nf N M g) : bn_H (bn_y D ar ad nf) H0 H locs N := lw_toH I.1.1 I.1.2.1 I.2.2.2.2 I.1.2.2
theorem lw_H2 (I : lw_I D ar ad2 r H0 H locs ad nf N M g) : bn_H (mo_y D ar ad2) H0 H locs M := lw_toH I.2.1.1 I.2.1.2.1 I.2.2.2.2 I.2.1.2.2
theorem lw_sub {q : Nat} (hD : va_D (lw_A H0) (bn_ws Y N)) (hle : H0.size ≤ H.size) (h : bn_AY Y H.size q) : H0.size ≤ q := by
  rcases h with ⟨k, x, hm, he⟩ | h
  · rw [← he]
    exact lw_ge hD hm
  · exact Nat.le_trans hle h
theorem lw_rlt (I : lw_I D ar ad2 r H0 H locs ad nf N M g) : r < H.size := (Array.getElem?_eq_some_iff.mp I.2.2.1.1).1
theorem lw_nr1 (I : lw_I D ar ad2 r H0 H locs ad nf N M g) : ¬ bn_AY (bn_y D ar ad nf) H.size r := by
  rintro (⟨k, x, hm, he⟩ | h)
  · exact I.2.2.2.1.2.1 k x hm he
  · exact absurd (lw_rlt I) (Nat.not_lt.mpr h)
theorem lw_nr2 (I : lw_I D ar ad2 r H0 H locs ad nf N M g) : ¬ bn_AY (mo_y D ar ad2) H.size r := by
  rintro (⟨k, x, hm, he⟩ | h)
  · exact I.2.2.2.1.2.2 k x hm he
  · exact absurd (lw_rlt I) (Nat.not_lt.mpr h)
theorem lw_up1 (I : lw_I D ar ad2 r H0 H locs ad nf N M g) (hP : va_P D bn_cl (bn_ws (bn_y D ar ad' nf') N') H1) (hD : va_D (bn_AY (bn_y D ar ad nf) H.size) (bn_ws (bn_y D ar ad' nf') N')) (hN : bn_wf nf' N')
    (hk : ∀ q : Nat, q < H.size → ¬ (bn_AY (bn_y D ar ad nf) H.size q ∨ q = r) → H1[q]? = H[q]?) (hr : H1[r]? = some (vp_cell (ar 1) (1, .inr (.inl g')))) (hS : va_S (lw_A H0) H0 H1 locs1) : lw_I D ar ad2 r H0 H1 locs1 ad' nf' N' M g' := by
  have hm : ∀ k x : Nat, (k, x) ∈ mo_ix → ¬ (bn_AY (bn_y D ar ad nf) H.size (ad2 k x) ∨ ad2 k x = r) := fun k x hx => by
    rintro ((⟨k', x', hm, he⟩ | h) | h)
    · exact I.2.2.2.1.1 k' x' hm k x hx he
    · exact absurd (lw_lt I.2.1.1 hx) (Nat.not_lt.mpr h)
    · exact I.2.2.2.1.2.2 k x hx h
  refine ⟨⟨hP, hD.weaken (fun _ _ _ h => lw_sub I.1.2.1 I.2.2.2.2.1 h), hN⟩, ⟨fun i q hi => ?_, I.2.1.2.1, I.2.1.2.2⟩, ⟨hr, I.2.2.1.2⟩, ⟨fun k x hx k' x' hx' he => ?_, fun k x hx he => ?_, I.2.2.2.1.2.2⟩, hS⟩
  · have h1 := I.2.1.1 i q hi
    refine h1.kept (hk q.1 h1.lt ?_)
    obtain ⟨k, x, h2, rfl⟩ := bn_wl_of hi
    exact hm k x (List.mem_of_getElem? h2)
  · have h1 : bn_AY (bn_y D ar ad nf) H.size (ad' k x) := lw_ge hD hx
    rw [he] at h1
    exact hm k' x' hx' (Or.inl h1)
  · have h1 : bn_AY (bn_y D ar ad nf) H.size (ad' k x) := lw_ge hD hx
    rw [he] at h1
    exact lw_nr1 I h1
theorem lw_up2 (I : lw_I D ar ad2 r H0 H locs ad nf N M g) (hP : va_P D bn_cl (bn_ws (mo_y D ar ad2) M') H1) (hD : va_D (bn_AY (mo_y D ar ad2) H.size) (bn_ws (mo_y D ar ad2) M')) (hN : mo_wf M')
    (hk : ∀ q : Nat, q < H.size → ¬ bn_AY (mo_y D ar ad2) H.size q → H1[q]? = H[q]?) (hS : va_S (lw_A H0) H0 H1 locs1) : lw_I D ar ad2 r H0 H1 locs1 ad nf N M' g := by
  refine ⟨⟨fun i q hi => ?_, I.1.2.1, I.1.2.2⟩, ⟨hP, hD.weaken (fun _ _ _ h => lw_sub I.2.1.2.1 I.2.2.2.2.1 h), hN⟩, ⟨?_, I.2.2.1.2⟩, I.2.2.2.1, hS⟩
  · have h1 := I.1.1 i q hi
    refine h1.kept (hk q.1 h1.lt ?_)
    obtain ⟨k, x, h2, rfl⟩ := bn_wl_of hi
    rintro (⟨k', x', hm, he⟩ | h)
    · exact I.2.2.2.1.1 k x (List.mem_of_getElem? h2) k' x' hm he.symm
    · exact absurd h1.lt (Nat.not_lt.mpr h)
  · rw [hk r (lw_rlt I) (lw_nr2 I)]
    exact I.2.2.1.1
end LWI
section LWC
variable {p : Program} {l : Launch} {e : Env} {R : Room} {s : State} {m : MethodId} {args : Array Value} {below : List Frame} {meth : Method} {c : Code} {H : Heap} {locs : List Loc} {cells slots : Nat} {Q : State → Prop}
variable {D : va_G} {ar : Nat → ClassId} {ad ad2 : Nat → Nat → Nat} {r nf nf' pc : Nat} {N N' M M' : bn_S} {g : Nat → Int64} {ls : Array Slot} {st0 rest : List Value} {a : Array Value}
theorem lw_i1 {v : Int32} (I : lw_I D ar ad2 r s.heap H locs ad nf N M g) (hr : va_Run p l e R s m args below meth c H locs cells slots 0 0 (F0 m pc ls st0) rest (va_Qi (fun (w : Int32) (u : bn_S) => w = v ∧ u = N') (bn_Post (bn_y D ar ad nf) (bn_AY (bn_y D ar ad nf) H.size)) (bn_AY (bn_y D ar ad nf) H.size) a) (bn_AY (bn_y D ar ad nf) H.size))
    (kk : ∀ (H1 : Heap) (locs1 : List Loc), lw_I D ar ad2 r s.heap H1 locs1 ad nf N' M g → W p l e R s m args below meth c H1 locs1 cells slots Q (F0 m (pc + 3) ls (.int v :: rest))) : W p l e R s m args below meth c H locs cells slots Q (F0 m pc ls st0) := by
  refine va_calli hr I.2.2.2.2 (fun q _ hq => lw_sub I.1.2.1 I.2.2.2.2.1 hq) (fun q hq => lw_sub I.1.2.1 I.2.2.2.2.1 hq) (fun w u t H1 locs1 ht hvm hu hB hle hk hS1 => ?_)
  obtain ⟨rfl, rfl⟩ := hu
  obtain ⟨hP1, -, hD1, hN1⟩ := hB
  rw [ht] at hP1
  exact kk H1 locs1 (lw_up1 I hP1 hD1 hN1 (fun q h1 h2 => hk q h1 (fun h3 => h2 (Or.inl h3))) (by rw [hk r (lw_rlt I) (lw_nr1 I)]; exact I.2.2.1.1) hS1)
theorem lw_l1 {v : Int64} (I : lw_I D ar ad2 r s.heap H locs ad nf N M g) (hr : va_Run p l e R s m args below meth c H locs cells slots 0 0 (F0 m pc ls st0) rest (va_Ql (fun (w : Int64) (u : bn_S) => w = v ∧ u = N') (bn_Post (bn_y D ar ad nf) (bn_AY (bn_y D ar ad nf) H.size)) (bn_AY (bn_y D ar ad nf) H.size) a) (bn_AY (bn_y D ar ad nf) H.size))
    (kk : ∀ (H1 : Heap) (locs1 : List Loc), lw_I D ar ad2 r s.heap H1 locs1 ad nf N' M g → W p l e R s m args below meth c H1 locs1 cells slots Q (F0 m (pc + 3) ls (.long v :: rest))) : W p l e R s m args below meth c H locs cells slots Q (F0 m pc ls st0) := by
  refine va_calll hr I.2.2.2.2 (fun q _ hq => lw_sub I.1.2.1 I.2.2.2.2.1 hq) (fun q hq => lw_sub I.1.2.1 I.2.2.2.2.1 hq) (fun w u t H1 locs1 ht hvm hu hB hle hk hS1 => ?_)
  obtain ⟨rfl, rfl⟩ := hu
  obtain ⟨hP1, -, hD1, hN1⟩ := hB
  rw [ht] at hP1
  exact kk H1 locs1 (lw_up1 I hP1 hD1 hN1 (fun q h1 h2 => hk q h1 (fun h3 => h2 (Or.inl h3))) (by rw [hk r (lw_rlt I) (lw_nr1 I)]; exact I.2.2.1.1) hS1)
theorem lw_v1 (I : lw_I D ar ad2 r s.heap H locs ad nf N M g) (hr : va_Run p l e R s m args below meth c H locs cells slots 0 0 (F0 m pc ls st0) rest (va_Qv (fun u : bn_S => u = N') (bn_Post (bn_y D ar ad nf) (bn_AY (bn_y D ar ad nf) H.size)) (bn_AY (bn_y D ar ad nf) H.size) a) (bn_AY (bn_y D ar ad nf) H.size))
    (kk : ∀ (H1 : Heap) (locs1 : List Loc), lw_I D ar ad2 r s.heap H1 locs1 ad nf N' M g → W p l e R s m args below meth c H1 locs1 cells slots Q (F0 m (pc + 3) ls rest)) : W p l e R s m args below meth c H locs cells slots Q (F0 m pc ls st0) := by
  refine va_callv hr I.2.2.2.2 (fun q _ hq => lw_sub I.1.2.1 I.2.2.2.2.1 hq) (fun q hq => lw_sub I.1.2.1 I.2.2.2.2.1 hq) (fun u t H1 locs1 ht hvm hu hB hle hk hS1 => ?_)
  subst hu
  obtain ⟨hP1, -, hD1, hN1⟩ := hB
  rw [ht] at hP1
  exact kk H1 locs1 (lw_up1 I hP1 hD1 hN1 (fun q h1 h2 => hk q h1 (fun h3 => h2 (Or.inl h3))) (by rw [hk r (lw_rlt I) (lw_nr1 I)]; exact I.2.2.1.1) hS1)
theorem lw_i2 {v : Int32} (I : lw_I D ar ad2 r s.heap H locs ad nf N M g) (hr : va_Run p l e R s m args below meth c H locs cells slots 0 0 (F0 m pc ls st0) rest (va_Qi (fun (w : Int32) (u : bn_S) => w = v ∧ u = M') (bn_Post (mo_y D ar ad2) (bn_AY (mo_y D ar ad2) H.size)) (bn_AY (mo_y D ar ad2) H.size) a) (bn_AY (mo_y D ar ad2) H.size))
    (kk : ∀ (H1 : Heap) (locs1 : List Loc), lw_I D ar ad2 r s.heap H1 locs1 ad nf N M' g → W p l e R s m args below meth c H1 locs1 cells slots Q (F0 m (pc + 3) ls (.int v :: rest))) : W p l e R s m args below meth c H locs cells slots Q (F0 m pc ls st0) := by
  refine va_calli hr I.2.2.2.2 (fun q _ hq => lw_sub I.2.1.2.1 I.2.2.2.2.1 hq) (fun q hq => lw_sub I.2.1.2.1 I.2.2.2.2.1 hq) (fun w u t H1 locs1 ht hvm hu hB hle hk hS1 => ?_)
  obtain ⟨rfl, rfl⟩ := hu
  obtain ⟨hP1, -, hD1, hN1⟩ := hB
  rw [ht] at hP1
  exact kk H1 locs1 (lw_up2 I hP1 hD1 hN1 hk hS1)
theorem lw_l2 {v : Int64} (I : lw_I D ar ad2 r s.heap H locs ad nf N M g) (hr : va_Run p l e R s m args below meth c H locs cells slots 0 0 (F0 m pc ls st0) rest (va_Ql (fun (w : Int64) (u : bn_S) => w = v ∧ u = M') (bn_Post (mo_y D ar ad2) (bn_AY (mo_y D ar ad2) H.size)) (bn_AY (mo_y D ar ad2) H.size) a) (bn_AY (mo_y D ar ad2) H.size))
    (kk : ∀ (H1 : Heap) (locs1 : List Loc), lw_I D ar ad2 r s.heap H1 locs1 ad nf N M' g → W p l e R s m args below meth c H1 locs1 cells slots Q (F0 m (pc + 3) ls (.long v :: rest))) : W p l e R s m args below meth c H locs cells slots Q (F0 m pc ls st0) := by
  refine va_calll hr I.2.2.2.2 (fun q _ hq => lw_sub I.2.1.2.1 I.2.2.2.2.1 hq) (fun q hq => lw_sub I.2.1.2.1 I.2.2.2.2.1 hq) (fun w u t H1 locs1 ht hvm hu hB hle hk hS1 => ?_)
  obtain ⟨rfl, rfl⟩ := hu
  obtain ⟨hP1, -, hD1, hN1⟩ := hB
  rw [ht] at hP1
  exact kk H1 locs1 (lw_up2 I hP1 hD1 hN1 hk hS1)
theorem lw_v2 (I : lw_I D ar ad2 r s.heap H locs ad nf N M g) (hr : va_Run p l e R s m args below meth c H locs cells slots 0 0 (F0 m pc ls st0) rest (va_Qv (fun u : bn_S => u = M') (bn_Post (mo_y D ar ad2) (bn_AY (mo_y D ar ad2) H.size)) (bn_AY (mo_y D ar ad2) H.size) a) (bn_AY (mo_y D ar ad2) H.size))
    (kk : ∀ (H1 : Heap) (locs1 : List Loc), lw_I D ar ad2 r s.heap H1 locs1 ad nf N M' g → W p l e R s m args below meth c H1 locs1 cells slots Q (F0 m (pc + 3) ls rest)) : W p l e R s m args below meth c H locs cells slots Q (F0 m pc ls st0) := by
  refine va_callv hr I.2.2.2.2 (fun q _ hq => lw_sub I.2.1.2.1 I.2.2.2.2.1 hq) (fun q hq => lw_sub I.2.1.2.1 I.2.2.2.2.1 hq) (fun u t H1 locs1 ht hvm hu hB hle hk hS1 => ?_)
  subst hu
  obtain ⟨hP1, -, hD1, hN1⟩ := hB
  rw [ht] at hP1
  exact kk H1 locs1 (lw_up2 I hP1 hD1 hN1 hk hS1)
/-- behind attach, send or deliver of the law -/
theorem lw_s1 {v : Int32} {E : Heap → Prop} {A : Nat → Prop} {G : (Nat → Int64) → Prop} (I : lw_I D ar ad2 r s.heap H locs ad nf N M g) (hA : ∀ q : Nat, A q → bn_AY (bn_y D ar ad nf) H.size q ∨ q = r) (hE : ∀ H1 : Heap, H.size ≤ H1.size → (∀ q : Nat, q < H.size → ¬ A q → H1[q]? = H[q]?) → E H1 → ∃ g' : Nat → Int64, H1[r]? = some (vp_cell (ar 1) (1, .inr (.inl g'))) ∧ G g')
    (hr : va_Run p l e R s m args below meth c H locs cells slots 1 6 (F0 m pc ls st0) rest (bn_QL D ar ad nf' (bn_AY (bn_y D ar ad nf) H.size) A v N' E a) A)
    (kk : ∀ (H1 : Heap) (locs1 : List Loc) (ad' : Nat → Nat → Nat) (g' : Nat → Int64), ad' 0 0 = ad 0 0 → G g' → lw_I D ar ad2 r s.heap H1 locs1 ad' nf' N' M g' → W p l e R s m args below meth c H1 locs1 (cells + 1) (slots + 6) Q (F0 m (pc + 3) ls (.int v :: rest))) : W p l e R s m args below meth c H locs cells slots Q (F0 m pc ls st0) := by
  intro T hT X
  obtain ⟨w, st₀, t, T', L, h0, X', hL, e1, e2, ⟨hv, ⟨ad', had, hP1, hK1, hD1, hN1⟩, hE1, hF1, hF2⟩, st⟩ := hr T hT X
  cases hv
  rw [h0] at hF1 hF2
  have hS := I.2.2.2.2
  have hA0 : ∀ q : Nat, A q → s.heap.size ≤ q := fun q hq => by
    rcases hA q hq with h | h
    · exact lw_sub I.1.2.1 hS.1 h
    · rw [h]; exact I.2.2.1.2
  rw [← e1] at hF1 hF2 hE1 hP1
  obtain ⟨g', hg', hG⟩ := hE T'.heap hF1 hF2 hE1
  obtain ⟨t2, a1, b1⟩ := kk T'.heap (locs ++ L) ad' g' (had 0 0 (by decide)) hG (lw_up1 I hP1 hD1 hN1 (fun q h1 h2 => hF2 q h1 (fun h3 => h2 (hA q h3))) hg'
    ⟨Nat.le_trans hS.1 hF1, fun q h1 h2 => by rw [hF2 q (Nat.lt_of_lt_of_le h1 hS.1) (fun z => h2 (hA0 q z))]; exact hS.2.1 q h1 h2, fun q hq => by
      rcases List.mem_append.mp hq with h | h
      · exact hS.2.2 q h
      · exact hA0 _ (hL q h)⟩) T' rfl X'
  exact ⟨t2, st t2 a1, b1⟩
theorem lw_preS {E : Heap → Prop} {av : List Value} {cc : ByteArray} {own : String} (F : bn_F p s m args c cc own (bn_y D ar ad nf)) (hO : bx_Og s.heap.size s) (I : lw_I D ar ad2 r s.heap H locs ad nf N M g) (hE : E H) : PreS s H (va_Pc av (fun U => (bn_Pre (bn_y D ar ad nf) N H.size U ∧ bx_O U) ∧ E U.heap)) av := by
  refine ⟨fun a U g mk q => ?_, fun U hU hW => ⟨rfl, ⟨⟨by rw [hU], by rw [hU]; exact I.1.1, va_K.moved hW.alike F.2.2.2.2, I.1.2.1.weaken (fun _ _ _ _ => trivial), I.1.2.2⟩, (hO.on hW (fun a x ha hx => ?_)).to⟩, by rw [hU]; exact hE⟩⟩
  · obtain ⟨q0, ⟨⟨q1, qP, qK, qD, qN⟩, qO⟩, qE⟩ := q
    exact ⟨q0, ⟨⟨q1, qP, va_K.moved (u := U) (U := U.calling g mk a) (Vm.Alike.refl U.vm) qK, qD, qN⟩, qO.call g mk a⟩, qE⟩
  · rw [hU, I.2.2.2.2.2.1 a ha (Nat.not_le.mpr ha)]
    exact hx
end LWC
