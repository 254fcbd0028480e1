/-! objects that are born: rows for constructors; the frame's constructor -/
theorem bn_startI {l : Launch} {y : MethodName} {rm : Room} {Y : bn_Y} {N : bn_S} {av : List Value} {cc : ByteArray} {maxL : Nat} {ret : Option FieldType} {ws : List Cond} {sz mc ms : Nat} {Qc : Array Value → State → Outcome → State → Prop} {free : Addr → Prop} (hy : plainName y.cls = true) (hw : ws = Cond.code y cc maxL ret :: bn_all) (hlen : (lg_sl av).length ≤ maxL)
    (body : ∀ (p : Program) (e : Env) (s : State) (m : MethodId) (args : Array Value) (below : List Frame) (meth : Method) (c : Code) (ls : Array Slot), s.heap.size = sz → bn_F p s m args c cc y.cls Y → meth.name = y.name → c.maxLocals = maxL → meth.sig.returnType = ret → meth.locks = false → lv_has ls maxL (lv_args 0 av) → bn_H Y s.heap s.heap [] N →
      W p l e rm s m args below meth c s.heap [] 0 0 (MQ below Qc args s mc ms free) (F0 m 0 ls [])) : Met l y ws rm (va_Pc av (bn_Pre Y N sz)) Qc mc ms free := by
  refine Met.ofW (cc := cc) (maxL := maxL) (ret := ret) hy hw ?_
  intro p e s m args below meth c s₁ B hml hv
  obtain ⟨rfl, hsz, hP, hK, hD0, hN⟩ := hv
  have hts := atoms_spec (ws := ws) B.pre
  have hl := lv_entry av (n := maxL) hlen
  rw [lg_entry_eq]
  refine body p e s m _ below meth c _ hsz ⟨B.exec, B.bytes, findClass_of_methodNamed B.named, fun w h => hts w (by rw [hw]; exact List.mem_cons_of_mem _ h), hK⟩ (name_of_methodNamed B.named B.method).1 hml B.returns B.notSynchronized hl ⟨hP, bn_D_self hD0, va_S.rf, hN⟩
section BNB
variable {p : Program} {l : Launch} {e : Env} {R : Room} {s : State} {m : MethodId} {args : Array Value} {below : List Frame} {meth : Method} {c : Code} {H : Heap} {locs : List Loc} {cells slots : Nat} {Q : State → Prop}
variable {cc : ByteArray} {pc nL : Nat} {ls : Array Slot} {rest : List Value} {Y : bn_Y} {N N' : bn_S} {own : String} {k x : Nat}
theorem bn_obj (F : bn_F p s m args c cc own Y) (hml : c.maxLocals = nL) (hsz : ls.size = nL) {idx a : Nat} (hl : Cond.methodLink own idx Lib.objectInit ∈ bn_all) (hd : decode cc pc = .ok (.invokespecial idx, 3)) (hf : 1 ≤ R.frames) (hlo : 12 ≤ R.locals)
    (kk : W p l e R s m args below meth c H locs cells slots Q (F0 m (pc + 3) ls [])) : W p l e R s m args below meth c H locs cells slots Q (F0 m pc ls [.ref a]) :=
  W.objInit F.1 F.2.1 F.2.2.1 (F.2.2.2.1 _ hl) (F.2.2.2.1 _ k_23) (F.2.2.2.1 _ k_24) (g := F0 m pc ls [.ref a]) rfl (hsz.trans hml.symm) rfl hd hf (by simpa [JFrame.monitorRoom] using hlo) kk
theorem bn_putF (F : bn_F p s m args c cc own Y) (h : bn_H Y s.heap H locs N) (hm : (k, x) ∈ Y.2.2.1) {C : String} {T : u_T} {n ci index : Nat} {fs : List Value} (he : Y.2.2.2.2.1 N k x = .inr (ci, fs)) (hc : bn_cl[ci]? = some (C, T, n)) (hin : ∀ w ∈ u_ws C T n, w ∈ bn_all)
    (ty0 : Nat → FieldType) (hty : ∀ k, k < n → parseFieldDescriptor (T k).2.2.1 = some (ty0 k)) (hnm : ∀ a, a < n → ∀ b, b < n → a ≠ b → (T a).2.1 ≠ (T b).2.1) (j : Nat) (hj : j < n) (hT : (T j).1 = C) (hC : C = own) (hfin : (T j).2.2.2 = true) (hini : meth.name = "<init>")
    (hlink : Cond.fieldLink own index C (T j).2.1 (T j).2.2.1 ∈ bn_all) {v : Value} (hn : narrow (ty0 j) v = v) (hfit : fits (ty0 j) v = true) (hl : j < fs.length) (h1 : Y.2.2.2.2.1 N' k x = .inr (ci, fs.set j v)) (h2 : ∀ k' x' : Nat, ¬ (k' = k ∧ x' = x) → Y.2.2.2.2.1 N' k' x' = Y.2.2.2.2.1 N k' x') (hN' : Y.2.2.2.2.2 N')
    (hdg : decode cc pc = .ok (.putfield index, 3)) (kk : ∀ (H1 : Heap) (locs1 : List Loc), bn_H Y s.heap H1 locs1 N' → W p l e R s m args below meth c H1 locs1 cells slots Q (F0 m (pc + 3) ls rest)) : W p l e R s m args below meth c H locs cells slots Q (F0 m pc ls (v :: .ref (Y.2.2.2.1 k x) :: rest)) := by
  obtain ⟨q, hq⟩ := bn_wl_get (ad := Y.2.2.2.1) (ce := Y.2.2.2.2.1 N) hm
  rw [he] at hq
  obtain ⟨hP, hD, hS, hN⟩ := h
  refine va_putF (ref := C) F.1 F.2.1 F.2.2.2.1 hin ty0 hty hnm F.2.2.1 F.2.2.2.2 hP hD hS q hq hc j hj (F.2.2.2.1 _ hlink) (fun _ h9 => by rw [hT] at h9; exact h9) hfin hini (hT.trans hC) (hty j hj) hn hfit hl hdg (fun H1 locs1 hP1 hD1 hS1 => ?_)
  have hs := bn_wl_set hD hm hq h1 h2
  rw [hs] at hP1 hD1
  exact kk H1 locs1 ⟨hP1, hD1, hS1, hN'⟩
/-- a new object beside the system -/
theorem bn_new (F : bn_F p s m args c cc own Y) (h : bn_H Y s.heap H locs N) {C : String} {T : u_T} {n ci index : Nat} (hin : ∀ w ∈ u_ws C T n, w ∈ bn_all) (ty : Nat → FieldType) (hty : ∀ k, k < n → parseFieldDescriptor (T k).2.2.1 = some (ty k)) (hcl : Cond.classLink own index C ∈ bn_all) (hinst : Cond.instantiable C n ∈ bn_all) (hini : Cond.initialized C ∈ bn_all)
    (hc : bn_cl[ci]? = some (C, T, n)) {fs : List Value} (hfs : ∀ j, j < n → defaultValue (ty j) = vp_V fs j) (hcells : cells + 1 ≤ R.cells) (hslots : slots + n ≤ R.slots) (hdg : decode cc pc = .ok (.new index, 3))
    (kk : ∀ H1 : Heap, H1.size = H.size + 1 → (∀ q, q < H.size → H1[q]? = H[q]?) → va_P Y.1 bn_cl [(H.size, .inr (ci, fs))] H1 → bn_H Y s.heap H1 locs N →
      W p l e R s m args below meth c H1 locs (cells + 1) (slots + n) Q (F0 m (pc + 3) ls (.ref H.size :: rest))) : W p l e R s m args below meth c H locs cells slots Q (F0 m pc ls rest) := by
  have hKn := F.2.2.2.2.1 ci _ hc
  obtain ⟨hP, hD, hS, hN⟩ := h
  refine W.newcK F.1 F.2.1 F.2.2.1 (F.2.2.2.1 _ hcl) (F.2.2.2.1 _ hinst) (F.2.2.2.1 _ hini) rfl hdg hcells hslots hKn.2.1 rfl fun H1 kC hkC e1 z1 o1 => ?_
  refine kk H1 z1 o1 (fun i q hi => ?_) ⟨hP.kept (fun i q hi => o1 q.1 ((hP i q hi).lt)), hD, ⟨Nat.le_trans hS.1 (by omega), fun q h1 h2 => (o1 q (Nat.lt_of_lt_of_le h1 hS.1)).trans (hS.2.1 q h1 h2), hS.2.2⟩, hN⟩
  have hz : i < 1 := (List.getElem?_eq_some_iff.mp hi).1
  rw [show i = 0 by omega] at hi
  cases hi
  exact ⟨_, hc, (u_born ty F.2.2.2.1 hin hKn hkC e1 hty).to hfs⟩
end BNB
/-- a frame alone -/
def fr_c (N : bn_S) (k x : Nat) : va_E := if k = 13 ∧ x = 0 then .inr (6, [.int (N.1 0 0), .int (N.1 1 0), .int (N.1 2 0), .int (N.1 3 0)]) else .inr (6, [])
abbrev fr_y (D : va_G) (ar : Nat → ClassId) (q : Nat) : bn_Y := (D, bn_ty ar, [(13, 0)], fun _ _ => q, fr_c, fun _ => True)
def fr_0 : bn_S := (fun _ _ => 0, fun _ _ => 0, fun _ _ => 0, fun _ _ => none)
def o_Fr_init (N : bn_S) (a b c d : Int32) : bn_S := sI (sI (sI (sI N 0 0 a) 1 0 b) 2 0 c) 3 0 d
theorem fr_h2 {N N' : bn_S} : ∀ k' x' : Nat, ¬ (k' = 13 ∧ x' = 0) → fr_c N' k' x' = fr_c N k' x' := fun k' x' hn => by simp [fr_c, hn]
set_option maxHeartbeats 4000000 in
theorem c_Fr_init (l : Launch) (D : va_G) (ar : Nat → ClassId) (q : Nat) (N : bn_S) (a b c d : Int32) : bn_V l y_Fr_init w_Fr_init { frames := 1, cells := 0, slots := 0, locals := 12 } (fr_y D ar q) N [.ref q, .int a, .int b, .int c, .int d] (o_Fr_init N a b c d) := by
  intro sz
  refine bn_startI (cc := b_Fr_init) (maxL := 5) (ret := none) (by decide) rfl (Nat.le_of_ble_eq_true rfl) ?_
  intro p e s m args below meth c0 ls hsz F hnm hml hr hk hl h
  subst hsz
  have E1 := F.1
  have E2 := F.2.1
  have hl : lv_has ls 5 [(0, .ref q), (1, .int a), (2, .int b), (3, .int c), (4, .int d)] := hl
  refine lv_aload_n E1 E2 d_Fr_init_0 rfl (lv_at hl 0 rfl) ?_
  refine bn_obj F hml hl.1 k_592 d_Fr_init_1 (by decide) (by decide) ?_
  refine lv_aload_n E1 E2 d_Fr_init_4 rfl (lv_at hl 0 rfl) ?_
  refine lv_iload_n E1 E2 d_Fr_init_5 rfl (lv_at hl 1 rfl) ?_
  refine bn_putF F h (k := 13) (x := 0) (N' := sI N 0 0 a) List.mem_cons_self rfl rfl i_Fr t_Fr t_Fr_ok n_Fr 0 (by decide) rfl rfl rfl hnm k_593 rfl rfl (by simp) rfl fr_h2 trivial d_Fr_init_6 (fun H locs h => ?_)
  refine lv_aload_n E1 E2 d_Fr_init_9 rfl (lv_at hl 0 rfl) ?_
  refine lv_iload_n E1 E2 d_Fr_init_10 rfl (lv_at hl 2 rfl) ?_
  refine bn_putF F h (k := 13) (x := 0) (N' := sI (sI N 0 0 a) 1 0 b) List.mem_cons_self rfl rfl i_Fr t_Fr t_Fr_ok n_Fr 1 (by decide) rfl rfl rfl hnm k_595 rfl rfl (by simp) rfl fr_h2 trivial d_Fr_init_11 (fun H locs h => ?_)
  refine lv_aload_n E1 E2 d_Fr_init_14 rfl (lv_at hl 0 rfl) ?_
  refine lv_iload_n E1 E2 d_Fr_init_15 rfl (lv_at hl 3 rfl) ?_
  refine bn_putF F h (k := 13) (x := 0) (N' := sI (sI (sI N 0 0 a) 1 0 b) 2 0 c) List.mem_cons_self rfl rfl i_Fr t_Fr t_Fr_ok n_Fr 2 (by decide) rfl rfl rfl hnm k_598 rfl rfl (by simp) rfl fr_h2 trivial d_Fr_init_16 (fun H locs h => ?_)
  refine lv_aload_n E1 E2 d_Fr_init_19 rfl (lv_at hl 0 rfl) ?_
  refine lv_iload E1 E2 d_Fr_init_20 (lv_at hl 4 rfl) ?_
  refine bn_putF F h (k := 13) (x := 0) (N' := o_Fr_init N a b c d) List.mem_cons_self rfl rfl i_Fr t_Fr t_Fr_ok n_Fr 3 (by decide) rfl rfl rfl hnm k_602 rfl rfl (by simp) rfl fr_h2 trivial d_Fr_init_22 (fun H locs h => ?_)
  exact bn_retv F hr hk h rfl d_Fr_init_25
