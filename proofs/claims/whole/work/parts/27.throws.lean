/-! attach and deliver of the class: written by wip/whole/gen_throw2.py -/
def bx_W (ia ic k : Nat) : Prop := Cond.classLink "BridgeNet" ia (bx_ex k) ∈ bn_all ∧ Cond.instantiable (bx_ex k) 6 ∈ bn_all ∧ Cond.initialized (bx_ex k) ∈ bn_all ∧ Bundle.fit (bx_ex k) = true ∧ (Bundle.ownAtoms "BridgeNet" ic (bx_ex k) ["java/lang/RuntimeException", "java/lang/Exception"]).all bx_ok = true ∧ ¬ k = 0
theorem bx_w1 : bx_W 78 82 1 := ⟨k_467, k_468, k_12, by decide, bx_ok1, by decide⟩
theorem bx_w2 : bx_W 88 92 2 := ⟨k_535, k_536, k_13, by decide, bx_ok2, by decide⟩
theorem bx_w3 : bx_W 93 97 3 := ⟨k_551, k_552, k_14, by decide, bx_ok3, by decide⟩
section BTS
variable {p : Program} {l : Launch} {e : Env} {R : Room} {s : State} {m : MethodId} {args : Array Value} {below : List Frame} {meth : Method} {c : Code} {H : Heap} {locs : List Loc}
variable {cc : ByteArray} {pc nL : Nat} {ls : Array Slot} {D : va_G} {ar : Nat → ClassId} {ad : Nat → Nat → Nat} {nf : Nat} {N : bn_S} {own : String} {cells slots k : Nat}
theorem bt_retv2 {q : Nat × bn_S} (F : bn_F p s m args c cc own (bn_y D ar ad nf)) (hr : meth.sig.returnType = none) (hk : meth.locks = false) (h : bn_H (bn_y D ar ad nf) s.heap H locs N) (hq : q = (0, N)) (hc : cells ≤ 1) (hs : slots ≤ 6) (hdg : decode cc pc = .ok (.return_, 1)) :
    W p l e R s m args below meth c H locs cells slots (MQT below (bn_QT D ar ad nf (bn_AY (bn_y D ar ad nf) s.heap.size) q.1 none q.2) args s 1 6 (bn_AY (bn_y D ar ad nf) s.heap.size)) (F0 m pc ls []) := by
  subst hq
  exact bt_retv F hr hk h rfl rfl hc hs hdg
theorem bt_reti2 {q : Nat × Int32 × bn_S} {v : Int32} (F : bn_F p s m args c cc own (bn_y D ar ad nf)) (hr : meth.sig.returnType = some .int) (hk : meth.locks = false) (h : bn_H (bn_y D ar ad nf) s.heap H locs N) (hq : q = (0, v, N)) (hc : cells ≤ 1) (hs : slots ≤ 6) (hdg : decode cc pc = .ok (.ireturn, 1)) :
    W p l e R s m args below meth c H locs cells slots (MQT below (bn_QT D ar ad nf (bn_AY (bn_y D ar ad nf) s.heap.size) q.1 (some (.int q.2.1)) q.2.2) args s 1 6 (bn_AY (bn_y D ar ad nf) s.heap.size)) (F0 m pc ls [.int v]) := by
  subst hq
  exact bt_reti F hr hk h rfl rfl rfl hc hs hdg
theorem bt_throwV {q : Nat × bn_S} (hfl : l.flags = flags0) (F : bn_F p s m args c cc "BridgeNet" (bn_y D ar ad nf)) (hml : c.maxLocals = nL) (hsz : ls.size = nL) (hk : meth.locks = false) (hex : c.exceptionTable.toList = []) (h : bn_H (bn_y D ar ad nf) s.heap s.heap [] N) (hO : bx_O s) (hq : q = (k, N))
    {tx : String} {ia ib ic : Nat} (hw : bx_W ia ic k) (hstr : Cond.stringRef "BridgeNet" ib tx ∈ lw_tbl)
    (d0 : decode cc pc = .ok (.new ia, 3)) (d3 : decode cc (pc + 3) = .ok (.dup, 1)) (d4 : decode cc (pc + 4) = .ok (.ldc ib, 2)) (d6 : decode cc (pc + 6) = .ok (.invokespecial ic, 3)) (d9 : decode cc (pc + 9) = .ok (.athrow, 1))
    (hR1 : 5 < R.frames) (hR2 : 100 ≤ R.locals) (hR3 : 1 ≤ R.cells) (hR4 : 6 ≤ R.slots) :
    W p l e R s m args below meth c s.heap [] 0 0 (MQT below (bn_QT D ar ad nf (bn_AY (bn_y D ar ad nf) s.heap.size) q.1 none q.2) args s 1 6 (bn_AY (bn_y D ar ad nf) s.heap.size)) (F0 m pc ls []) := by
  subst hq
  exact bt_throw hfl F hml hsz hk hex h hO rfl hw.2.2.2.2.2 hw.1 hw.2.1 hw.2.2.1 hw.2.2.2.1 hw.2.2.2.2.1 hstr d0 d3 d4 d6 d9 hR1 hR2 hR3 hR4
theorem bt_throwI {q : Nat × Int32 × bn_S} {v : Int32} (hfl : l.flags = flags0) (F : bn_F p s m args c cc "BridgeNet" (bn_y D ar ad nf)) (hml : c.maxLocals = nL) (hsz : ls.size = nL) (hk : meth.locks = false) (hex : c.exceptionTable.toList = []) (h : bn_H (bn_y D ar ad nf) s.heap s.heap [] N) (hO : bx_O s) (hq : q = (k, v, N))
    {tx : String} {ia ib ic : Nat} (hw : bx_W ia ic k) (hstr : Cond.stringRef "BridgeNet" ib tx ∈ lw_tbl)
    (d0 : decode cc pc = .ok (.new ia, 3)) (d3 : decode cc (pc + 3) = .ok (.dup, 1)) (d4 : decode cc (pc + 4) = .ok (.ldc ib, 2)) (d6 : decode cc (pc + 6) = .ok (.invokespecial ic, 3)) (d9 : decode cc (pc + 9) = .ok (.athrow, 1))
    (hR1 : 5 < R.frames) (hR2 : 100 ≤ R.locals) (hR3 : 1 ≤ R.cells) (hR4 : 6 ≤ R.slots) :
    W p l e R s m args below meth c s.heap [] 0 0 (MQT below (bn_QT D ar ad nf (bn_AY (bn_y D ar ad nf) s.heap.size) q.1 (some (.int q.2.1)) q.2.2) args s 1 6 (bn_AY (bn_y D ar ad nf) s.heap.size)) (F0 m pc ls []) := by
  subst hq
  exact bt_throw hfl F hml hsz hk hex h hO rfl hw.2.2.2.2.2 hw.1 hw.2.1 hw.2.2.1 hw.2.2.2.1 hw.2.2.2.2.1 hstr d0 d3 d4 d6 d9 hR1 hR2 hR3 hR4
end BTS
def o_Ne_attach (N : bn_S) (sa : Int32) (ba : Int32) (pa : Int32) (va : Int32) : Nat × bn_S := (bn_oc (r_Ne_findStation N sa) (bn_oc (r_Ne_findPort N ba pa) (1, N) (fun y4 => (1, N))) (fun y2 => (bn_oc (r_Ne_findPort N ba pa) (1, N) (fun y6 => (if r_Ne_isVlan N va = 0 then (2, N) else (if r_Po_isFree N y6 = 0 then (3, N) else (0, (o_St_settle (o_St_leave N y2) y2 y6 (va.toNatClampNeg)))))))))
set_option maxHeartbeats 4000000 in
set_option maxRecDepth 100000 in
theorem c_Ne_attach (l : Launch) (hfl : l.flags = flags0) (D : va_G) (ar : Nat → ClassId) (ad : Nat → Nat → Nat) (nf : Nat) (N : bn_S)  (sa : Int32) (ba : Int32) (pa : Int32) (va : Int32) : bn_T l y_Ne_attach w_Ne_attach { frames := 6, cells := 1, slots := 6, locals := 150 } D ar ad nf N [.ref (ad 0 0), .int sa, .int ba, .int pa, .int va] (o_Ne_attach N sa ba pa va).1 none (o_Ne_attach N sa ba pa va).2 nf := by
  intro sz
  refine bt_start (cc := b_Ne_attach) (maxL := 7) (ret := (Option.none : Option Jvm.ClassFile.FieldType)) (by decide) rfl (Nat.le_of_ble_eq_true rfl) ?_
  intro p e s m args below meth c ls hsz F hml hr hk hl h hO hex
  subst hsz
  have E1 := F.1
  have E2 := F.2.1
  have hl : lv_has ls 7 [(0, .ref (ad 0 0)), (1, .int sa), (2, .int ba), (3, .int pa), (4, .int va)] := hl
  refine lv_aload_n E1 E2 d_Ne_attach_0 rfl (lv_at hl 0 rfl) ?_
  refine lv_iload_n E1 E2 d_Ne_attach_1 rfl (lv_at hl 1 rfl) ?_
  have hwf := h.2.2.2
  refine bn_pcall (bn_runV (n := 1) (As := [.int sa]) (rest := []) F hml hl.1 h mm_0 rfl rfl (cp_Ne_findStation l D ar ad nf N sa _) (bn_goodV k_416 k_418 ks_Ne_findStation k_1 k_419) rfl rfl (by decide) ⟨by decide, by decide⟩ rfl rfl (Nat.le_of_ble_eq_true rfl) d_Ne_attach_2 ⟨Nat.zero_le _, Nat.zero_le _⟩) ?_
  refine bn_oq (f := ad 11) (o := r_Ne_findStation N sa) (fun ho1 => ?_) (fun y2 ho1 => ?_)
  · skip
    refine lv_astoreN E1 E2 d_Ne_attach_5 hl (by decide) rfl (fun ls hl => ?_)
    have hl : lv_has ls 7 [(5, .null), (0, .ref (ad 0 0)), (1, .int sa), (2, .int ba), (3, .int pa), (4, .int va)] := hl
    refine lv_aload_n E1 E2 d_Ne_attach_7 rfl (lv_at hl 1 rfl) ?_
    refine lv_iload_n E1 E2 d_Ne_attach_8 rfl (lv_at hl 3 rfl) ?_
    refine lv_iload_n E1 E2 d_Ne_attach_9 rfl (lv_at hl 4 rfl) ?_
    have hwf := h.2.2.2
    refine bn_pcall (bn_runV (n := 2) (As := [.int ba, .int pa]) (rest := []) F hml hl.1 h mm_0 rfl rfl (cp_Ne_findPort l D ar ad nf N ba pa _) (bn_goodV k_321 k_323 ks_Ne_findPort k_1 k_324) rfl rfl (by decide) ⟨by decide, by decide⟩ rfl rfl (Nat.le_of_ble_eq_true rfl) d_Ne_attach_10 ⟨Nat.zero_le _, Nat.zero_le _⟩) ?_
    refine bn_oq (f := ad 6) (o := r_Ne_findPort N ba pa) (fun ho3 => ?_) (fun y4 ho3 => ?_)
    · skip
      refine lv_astoreN E1 E2 d_Ne_attach_13 hl (by decide) rfl (fun ls hl => ?_)
      have hl : lv_has ls 7 [(6, .null), (5, .null), (0, .ref (ad 0 0)), (1, .int sa), (2, .int ba), (3, .int pa), (4, .int va)] := hl
      refine lv_aloadN E1 E2 d_Ne_attach_15 (lv_at hl 1 rfl) ?_
      refine lv_ifnullN E1 E2 d_Ne_attach_17 rfl ?_
      have hq : o_Ne_attach N sa ba pa va = (1, N) := Eq.trans (bn_oc_n ho1) (bn_oc_n ho3)
      exact bt_throwV hfl F hml hl.1 hk hex h hO hq bx_w1 bx_str80 d_Ne_attach_25 d_Ne_attach_28 d_Ne_attach_29 d_Ne_attach_31 d_Ne_attach_34 (by decide) (by decide) (by decide) (by decide)
    · have hy4 := lt_Ne_findPort ho3
      refine lv_astore E1 E2 d_Ne_attach_13 hl (by decide) rfl (fun ls hl => ?_)
      have hl : lv_has ls 7 [(6, .ref (ad 6 y4)), (5, .null), (0, .ref (ad 0 0)), (1, .int sa), (2, .int ba), (3, .int pa), (4, .int va)] := hl
      refine lv_aloadN E1 E2 d_Ne_attach_15 (lv_at hl 1 rfl) ?_
      refine lv_ifnullN E1 E2 d_Ne_attach_17 rfl ?_
      have hq : o_Ne_attach N sa ba pa va = (1, N) := Eq.trans (bn_oc_n ho1) (bn_oc_s ho3)
      exact bt_throwV hfl F hml hl.1 hk hex h hO hq bx_w1 bx_str80 d_Ne_attach_25 d_Ne_attach_28 d_Ne_attach_29 d_Ne_attach_31 d_Ne_attach_34 (by decide) (by decide) (by decide) (by decide)
  · have hy2 := lt_Ne_findStation ho1
    refine lv_astore E1 E2 d_Ne_attach_5 hl (by decide) rfl (fun ls hl => ?_)
    have hl : lv_has ls 7 [(5, .ref (ad 11 y2)), (0, .ref (ad 0 0)), (1, .int sa), (2, .int ba), (3, .int pa), (4, .int va)] := hl
    refine lv_aload_n E1 E2 d_Ne_attach_7 rfl (lv_at hl 1 rfl) ?_
    refine lv_iload_n E1 E2 d_Ne_attach_8 rfl (lv_at hl 3 rfl) ?_
    refine lv_iload_n E1 E2 d_Ne_attach_9 rfl (lv_at hl 4 rfl) ?_
    have hwf := h.2.2.2
    refine bn_pcall (bn_runV (n := 2) (As := [.int ba, .int pa]) (rest := []) F hml hl.1 h mm_0 rfl rfl (cp_Ne_findPort l D ar ad nf N ba pa _) (bn_goodV k_321 k_323 ks_Ne_findPort k_1 k_324) rfl rfl (by decide) ⟨by decide, by decide⟩ rfl rfl (Nat.le_of_ble_eq_true rfl) d_Ne_attach_10 ⟨Nat.zero_le _, Nat.zero_le _⟩) ?_
    refine bn_oq (f := ad 6) (o := r_Ne_findPort N ba pa) (fun ho5 => ?_) (fun y6 ho5 => ?_)
    · skip
      refine lv_astoreN E1 E2 d_Ne_attach_13 hl (by decide) rfl (fun ls hl => ?_)
      have hl : lv_has ls 7 [(6, .null), (5, .ref (ad 11 y2)), (0, .ref (ad 0 0)), (1, .int sa), (2, .int ba), (3, .int pa), (4, .int va)] := hl
      refine lv_aload E1 E2 d_Ne_attach_15 (lv_at hl 1 rfl) ?_
      refine lv_ifnull E1 E2 d_Ne_attach_17 ?_
      refine lv_aloadN E1 E2 d_Ne_attach_20 (lv_at hl 0 rfl) ?_
      refine lv_ifnonnullN E1 E2 d_Ne_attach_22 ?_
      have hq : o_Ne_attach N sa ba pa va = (1, N) := Eq.trans (bn_oc_s ho1) (bn_oc_n ho5)
      exact bt_throwV hfl F hml hl.1 hk hex h hO hq bx_w1 bx_str80 d_Ne_attach_25 d_Ne_attach_28 d_Ne_attach_29 d_Ne_attach_31 d_Ne_attach_34 (by decide) (by decide) (by decide) (by decide)
    · have hy6 := lt_Ne_findPort ho5
      refine lv_astore E1 E2 d_Ne_attach_13 hl (by decide) rfl (fun ls hl => ?_)
      have hl : lv_has ls 7 [(6, .ref (ad 6 y6)), (5, .ref (ad 11 y2)), (0, .ref (ad 0 0)), (1, .int sa), (2, .int ba), (3, .int pa), (4, .int va)] := hl
      refine lv_aload E1 E2 d_Ne_attach_15 (lv_at hl 1 rfl) ?_
      refine lv_ifnull E1 E2 d_Ne_attach_17 ?_
      refine lv_aload E1 E2 d_Ne_attach_20 (lv_at hl 0 rfl) ?_
      refine lv_ifnonnull E1 E2 d_Ne_attach_22 rfl ?_
      refine lv_iload E1 E2 d_Ne_attach_35 (lv_at hl 6 rfl) ?_
      refine bn_pcall (bn_runS (n := 1) (As := [.int va]) (rest := []) F hml hl.1 h (cp_Ne_isVlan l D ar ad nf N va _) (bn_goodS k_420 k_421 k_1 k_422) rfl rfl (by decide) ⟨by decide, by decide⟩ rfl rfl (Nat.le_of_ble_eq_true rfl) d_Ne_attach_37 ⟨Nat.zero_le _, Nat.zero_le _⟩) ?_
      refine lv_if_ne E1 E2 d_Ne_attach_40 rfl (fun h7 => ?_) (fun h7 => ?_)
      · have h7 : ¬ (r_Ne_isVlan N va = 0) := h7
        refine lv_aload E1 E2 d_Ne_attach_53 (lv_at hl 0 rfl) ?_
        refine bn_pcall (bn_runV (n := 0) (As := []) (rest := []) F hml hl.1 h (mm_6 (by omega)) rfl rfl (cp_Po_isFree l D ar ad nf N y6 (by omega) _) (bn_goodV k_329 k_241 k_242 k_3 k_243) rfl rfl (by decide) ⟨by decide, by decide⟩ rfl rfl (Nat.le_of_ble_eq_true rfl) d_Ne_attach_55 ⟨Nat.zero_le _, Nat.zero_le _⟩) ?_
        refine lv_if_ne E1 E2 d_Ne_attach_58 rfl (fun h8 => ?_) (fun h8 => ?_)
        · have h8 : ¬ (r_Po_isFree N y6 = 0) := h8
          refine lv_aload E1 E2 d_Ne_attach_71 (lv_at hl 1 rfl) ?_
          refine bn_callv F h (bn_runV (n := 0) (As := []) (rest := []) F hml hl.1 h (mm_11 (by omega)) rfl rfl (c_St_leave l D ar ad nf N y2 (by omega) _) (bn_goodV k_567 k_568 k_569 k_6 k_570) rfl rfl (by decide) ⟨by decide, by decide⟩ rfl rfl (Nat.le_of_ble_eq_true rfl) d_Ne_attach_73 ⟨Nat.zero_le _, Nat.zero_le _⟩) (fun H locs h => ?_)
          have h : bn_H (bn_y D ar ad nf) s.heap H locs (o_St_leave N y2) := h
          refine lv_aload E1 E2 d_Ne_attach_76 (lv_at hl 1 rfl) ?_
          refine lv_aload E1 E2 d_Ne_attach_78 (lv_at hl 0 rfl) ?_
          refine lv_iload E1 E2 d_Ne_attach_80 (lv_at hl 6 rfl) ?_
          have hn_va := bn_isV h7
          have hn_va2 := hn_va.2
          refine bn_ti hn_va.1 ?_
          refine bn_callv F h (bn_runV (n := 2) (As := [.ref (ad 6 y6), .int (nI (va.toNatClampNeg))]) (rest := []) F hml hl.1 h (mm_11 (by omega)) rfl rfl (c_St_settle l D ar ad nf (o_St_leave N y2) y2 (by omega) y6 (by omega) (va.toNatClampNeg) (by omega) (by omega) _) (bn_goodV k_573 k_574 k_575 k_6 k_576) rfl rfl (by decide) ⟨by decide, by decide⟩ rfl rfl (Nat.le_of_ble_eq_true rfl) d_Ne_attach_82 ⟨Nat.zero_le _, Nat.zero_le _⟩) (fun H locs h => ?_)
          have h : bn_H (bn_y D ar ad nf) s.heap H locs (o_St_settle (o_St_leave N y2) y2 y6 (va.toNatClampNeg)) := h
          have hq : o_Ne_attach N sa ba pa va = (0, (o_St_settle (o_St_leave N y2) y2 y6 (va.toNatClampNeg))) := Eq.trans (bn_oc_s ho1) (Eq.trans (bn_oc_s ho5) (Eq.trans (if_neg h7) (if_neg h8)))
          exact bt_retv2 F hr hk h hq (by decide) (by decide) d_Ne_attach_85
        · have h8 : r_Po_isFree N y6 = 0 := h8
          have hq : o_Ne_attach N sa ba pa va = (3, N) := Eq.trans (bn_oc_s ho1) (Eq.trans (bn_oc_s ho5) (Eq.trans (if_neg h7) (if_pos h8)))
          exact bt_throwV hfl F hml hl.1 hk hex h hO hq bx_w3 bx_str95 d_Ne_attach_61 d_Ne_attach_64 d_Ne_attach_65 d_Ne_attach_67 d_Ne_attach_70 (by decide) (by decide) (by decide) (by decide)
      · have h7 : r_Ne_isVlan N va = 0 := h7
        have hq : o_Ne_attach N sa ba pa va = (2, N) := Eq.trans (bn_oc_s ho1) (Eq.trans (bn_oc_s ho5) (if_pos h7))
        exact bt_throwV hfl F hml hl.1 hk hex h hO hq bx_w2 bx_str90 d_Ne_attach_43 d_Ne_attach_46 d_Ne_attach_47 d_Ne_attach_49 d_Ne_attach_52 (by decide) (by decide) (by decide) (by decide)
def o_Ne_deliver (N : bn_S) (ba : Int32) (pa : Int32) : Nat × Int32 × bn_S := (bn_oc (r_Ne_findPort N ba pa) (1, 0, N) (fun y2 => (bn_oc ((o_Li_takeFirst N y2).1) (0, 0, (o_Li_takeFirst N y2).2) (fun y4 => (if ((o_Li_takeFirst N y2).2).1 12 y4 = 1 then (0, (o_Br_hearTell ((o_Li_takeFirst N y2).2) (y2 / 4) y2 y4).1 12 y4, (o_Br_hearTell ((o_Li_takeFirst N y2).2) (y2 / 4) y2 y4)) else (if ((o_Li_takeFirst N y2).2).1 12 y4 = 2 then (0, (o_Br_hearAgree ((o_Li_takeFirst N y2).2) (y2 / 4) y2 (((o_Li_takeFirst N y2).2).1 13 y4)).1 12 y4, (o_Br_hearAgree ((o_Li_takeFirst N y2).2) (y2 / 4) y2 (((o_Li_takeFirst N y2).2).1 13 y4))) else (bn_oc (((o_Li_takeFirst N y2).2).2.2.2 5 y4) (0, ((o_Br_hearFrame ((o_Li_takeFirst N y2).2) (y2 / 4) y2 none).2).1 12 y4, (o_Br_hearFrame ((o_Li_takeFirst N y2).2) (y2 / 4) y2 none).2) (fun y8 => (0, ((o_Br_hearFrame ((o_Li_takeFirst N y2).2) (y2 / 4) y2 (some y8)).2).1 12 y4, (o_Br_hearFrame ((o_Li_takeFirst N y2).2) (y2 / 4) y2 (some y8)).2)))))))))
set_option maxHeartbeats 4000000 in
set_option maxRecDepth 100000 in
theorem c_Ne_deliver (l : Launch) (hfl : l.flags = flags0) (D : va_G) (ar : Nat → ClassId) (ad : Nat → Nat → Nat) (nf : Nat) (N : bn_S)  (ba : Int32) (pa : Int32) : bn_T l y_Ne_deliver w_Ne_deliver { frames := 6, cells := 1, slots := 6, locals := 150 } D ar ad nf N [.ref (ad 0 0), .int ba, .int pa] (o_Ne_deliver N ba pa).1 (some (.int (o_Ne_deliver N ba pa).2.1)) (o_Ne_deliver N ba pa).2.2 nf := by
  intro sz
  refine bt_start (cc := b_Ne_deliver) (maxL := 5) (ret := (Option.some Jvm.ClassFile.FieldType.int)) (by decide) rfl (Nat.le_of_ble_eq_true rfl) ?_
  intro p e s m args below meth c ls hsz F hml hr hk hl h hO hex
  subst hsz
  have E1 := F.1
  have E2 := F.2.1
  have hl : lv_has ls 5 [(0, .ref (ad 0 0)), (1, .int ba), (2, .int pa)] := hl
  refine lv_aload_n E1 E2 d_Ne_deliver_0 rfl (lv_at hl 0 rfl) ?_
  refine lv_iload_n E1 E2 d_Ne_deliver_1 rfl (lv_at hl 1 rfl) ?_
  refine lv_iload_n E1 E2 d_Ne_deliver_2 rfl (lv_at hl 2 rfl) ?_
  have hwf := h.2.2.2
  refine bn_pcall (bn_runV (n := 2) (As := [.int ba, .int pa]) (rest := []) F hml hl.1 h mm_0 rfl rfl (cp_Ne_findPort l D ar ad nf N ba pa _) (bn_goodV k_321 k_323 ks_Ne_findPort k_1 k_324) rfl rfl (by decide) ⟨by decide, by decide⟩ rfl rfl (Nat.le_of_ble_eq_true rfl) d_Ne_deliver_3 ⟨Nat.zero_le _, Nat.zero_le _⟩) ?_
  refine bn_oq (f := ad 6) (o := r_Ne_findPort N ba pa) (fun ho1 => ?_) (fun y2 ho1 => ?_)
  · skip
    refine lv_astore_nN E1 E2 d_Ne_deliver_6 rfl hl (by decide) rfl (fun ls hl => ?_)
    have hl : lv_has ls 5 [(3, .null), (0, .ref (ad 0 0)), (1, .int ba), (2, .int pa)] := hl
    refine lv_aload_nN E1 E2 d_Ne_deliver_7 rfl (lv_at hl 0 rfl) ?_
    refine lv_ifnonnullN E1 E2 d_Ne_deliver_8 ?_
    have hq : o_Ne_deliver N ba pa = (1, 0, N) := bn_oc_n ho1
    exact bt_throwI hfl F hml hl.1 hk hex h hO hq bx_w1 bx_str126 d_Ne_deliver_11 d_Ne_deliver_14 d_Ne_deliver_15 d_Ne_deliver_17 d_Ne_deliver_20 (by decide) (by decide) (by decide) (by decide)
  · have hy2 := lt_Ne_findPort ho1
    refine lv_astore_n E1 E2 d_Ne_deliver_6 rfl hl (by decide) rfl (fun ls hl => ?_)
    have hl : lv_has ls 5 [(3, .ref (ad 6 y2)), (0, .ref (ad 0 0)), (1, .int ba), (2, .int pa)] := hl
    refine lv_aload_n E1 E2 d_Ne_deliver_7 rfl (lv_at hl 0 rfl) ?_
    refine lv_ifnonnull E1 E2 d_Ne_deliver_8 rfl ?_
    refine lv_aload_n E1 E2 d_Ne_deliver_21 rfl (lv_at hl 0 rfl) ?_
    refine g_Po_line F h (by omega) k_136 d_Ne_deliver_22 ?_
    have hwf := h.2.2.2
    refine bn_callq F h (bn_runV (n := 0) (As := []) (rest := []) F hml hl.1 h (mm_7 (by omega)) rfl rfl (c_Li_takeFirst l D ar ad nf N y2 (by omega) _) (bn_goodV k_351 k_352 k_353 k_4 k_354) rfl rfl (by decide) ⟨by decide, by decide⟩ rfl rfl (Nat.le_of_ble_eq_true rfl) d_Ne_deliver_25 ⟨Nat.zero_le _, Nat.zero_le _⟩) (fun H locs h => ?_)
    have h : bn_H (bn_y D ar ad nf) s.heap H locs (o_Li_takeFirst N y2).2 := h
    refine bn_oq (f := ad 9) (o := (o_Li_takeFirst N y2).1) (fun ho3 => ?_) (fun y4 ho3 => ?_)
    · skip
      refine lv_astoreN E1 E2 d_Ne_deliver_28 hl (by decide) rfl (fun ls hl => ?_)
      have hl : lv_has ls 5 [(4, .null), (3, .ref (ad 6 y2)), (0, .ref (ad 0 0)), (1, .int ba), (2, .int pa)] := hl
      refine lv_aloadN E1 E2 d_Ne_deliver_30 (lv_at hl 0 rfl) ?_
      refine lv_ifnonnullN E1 E2 d_Ne_deliver_32 ?_
      refine lv_iconst (v := 0) E1 E2 d_Ne_deliver_35 (by decide) ?_
      have hq : o_Ne_deliver N ba pa = (0, 0, (o_Li_takeFirst N y2).2) := Eq.trans (bn_oc_s ho1) (bn_oc_n ho3)
      exact bt_reti2 F hr hk h hq (by decide) (by decide) d_Ne_deliver_36
    · have hy4 := lt_Li_takeFirst hwf (by omega) ho3
      refine lv_astore E1 E2 d_Ne_deliver_28 hl (by decide) rfl (fun ls hl => ?_)
      have hl : lv_has ls 5 [(4, .ref (ad 9 y4)), (3, .ref (ad 6 y2)), (0, .ref (ad 0 0)), (1, .int ba), (2, .int pa)] := hl
      refine lv_aload E1 E2 d_Ne_deliver_30 (lv_at hl 0 rfl) ?_
      refine lv_ifnonnull E1 E2 d_Ne_deliver_32 rfl ?_
      refine lv_aload E1 E2 d_Ne_deliver_37 (lv_at hl 0 rfl) ?_
      refine g_Ms_kind F h (by omega) k_89 (v := ((o_Li_takeFirst N y2).2).1 12 y4) rfl d_Ne_deliver_39 ?_
      by_cases h5 : ((o_Li_takeFirst N y2).2).1 12 y4 = 1
      · refine lv_lookup (off := 26) (tgt := 68) E1 E2 d_Ne_deliver_42 (by decide) (by rw [h5]; decide) (by decide) ?_
        refine lv_aload_n E1 E2 d_Ne_deliver_68 rfl (lv_at hl 1 rfl) ?_
        refine g_Po_owner F h (by omega) k_132 d_Ne_deliver_69 ?_
        refine lv_aload_n E1 E2 d_Ne_deliver_72 rfl (lv_at hl 1 rfl) ?_
        refine lv_aload E1 E2 d_Ne_deliver_73 (lv_at hl 0 rfl) ?_
        refine bn_callv F h (bn_runV (n := 2) (As := [.ref (ad 6 y2), .ref (ad 9 y4)]) (rest := []) F hml hl.1 h (mm_2 (by omega)) rfl rfl (c_Br_hearTell l D ar ad nf ((o_Li_takeFirst N y2).2) (y2 / 4) (by omega) y2 (by omega) y4 (by omega) _) (bn_goodV k_659 k_660 k_661 k_2 k_662) rfl rfl (by decide) ⟨by decide, by decide⟩ rfl rfl (Nat.le_of_ble_eq_true rfl) d_Ne_deliver_75 ⟨Nat.zero_le _, Nat.zero_le _⟩) (fun H locs h => ?_)
        have h : bn_H (bn_y D ar ad nf) s.heap H locs (o_Br_hearTell ((o_Li_takeFirst N y2).2) (y2 / 4) y2 y4) := h
        refine lv_goto E1 E2 d_Ne_deliver_78 rfl ?_
        refine lv_aload E1 E2 d_Ne_deliver_111 (lv_at hl 0 rfl) ?_
        refine g_Ms_kind F h (by omega) k_89 (v := (o_Br_hearTell ((o_Li_takeFirst N y2).2) (y2 / 4) y2 y4).1 12 y4) rfl d_Ne_deliver_113 ?_
        have hq : o_Ne_deliver N ba pa = (0, (o_Br_hearTell ((o_Li_takeFirst N y2).2) (y2 / 4) y2 y4).1 12 y4, (o_Br_hearTell ((o_Li_takeFirst N y2).2) (y2 / 4) y2 y4)) := Eq.trans (bn_oc_s ho1) (Eq.trans (bn_oc_s ho3) (if_pos h5))
        exact bt_reti2 F hr hk h hq (by decide) (by decide) d_Ne_deliver_116
      · skip
        by_cases h6 : ((o_Li_takeFirst N y2).2).1 12 y4 = 2
        · refine lv_lookup (off := 39) (tgt := 81) E1 E2 d_Ne_deliver_42 (by decide) (by rw [h6]; decide) (by decide) ?_
          refine lv_aload_n E1 E2 d_Ne_deliver_81 rfl (lv_at hl 1 rfl) ?_
          refine g_Po_owner F h (by omega) k_132 d_Ne_deliver_82 ?_
          refine lv_aload_n E1 E2 d_Ne_deliver_85 rfl (lv_at hl 1 rfl) ?_
          refine lv_aload E1 E2 d_Ne_deliver_86 (lv_at hl 0 rfl) ?_
          refine g_Ms_root F h (by omega) k_93 (v := ((o_Li_takeFirst N y2).2).1 13 y4) rfl d_Ne_deliver_88 ?_
          refine bn_callv F h (bn_runV (n := 2) (As := [.ref (ad 6 y2), .int (((o_Li_takeFirst N y2).2).1 13 y4)]) (rest := []) F hml hl.1 h (mm_2 (by omega)) rfl rfl (c_Br_hearAgree l D ar ad nf ((o_Li_takeFirst N y2).2) (y2 / 4) (by omega) y2 (by omega) (((o_Li_takeFirst N y2).2).1 13 y4) _) (bn_goodV k_683 k_684 k_685 k_2 k_686) rfl rfl (by decide) ⟨by decide, by decide⟩ rfl rfl (Nat.le_of_ble_eq_true rfl) d_Ne_deliver_91 ⟨Nat.zero_le _, Nat.zero_le _⟩) (fun H locs h => ?_)
          have h : bn_H (bn_y D ar ad nf) s.heap H locs (o_Br_hearAgree ((o_Li_takeFirst N y2).2) (y2 / 4) y2 (((o_Li_takeFirst N y2).2).1 13 y4)) := h
          refine lv_goto E1 E2 d_Ne_deliver_94 rfl ?_
          refine lv_aload E1 E2 d_Ne_deliver_111 (lv_at hl 0 rfl) ?_
          refine g_Ms_kind F h (by omega) k_89 (v := (o_Br_hearAgree ((o_Li_takeFirst N y2).2) (y2 / 4) y2 (((o_Li_takeFirst N y2).2).1 13 y4)).1 12 y4) rfl d_Ne_deliver_113 ?_
          have hq : o_Ne_deliver N ba pa = (0, (o_Br_hearAgree ((o_Li_takeFirst N y2).2) (y2 / 4) y2 (((o_Li_takeFirst N y2).2).1 13 y4)).1 12 y4, (o_Br_hearAgree ((o_Li_takeFirst N y2).2) (y2 / 4) y2 (((o_Li_takeFirst N y2).2).1 13 y4))) := Eq.trans (bn_oc_s ho1) (Eq.trans (bn_oc_s ho3) (Eq.trans (if_neg h5) (if_pos h6)))
          exact bt_reti2 F hr hk h hq (by decide) (by decide) d_Ne_deliver_116
        · skip
          refine lv_lookup (off := 55) (tgt := 97) E1 E2 d_Ne_deliver_42 (by decide) ((lv_osw h5 (by decide)).trans ((lv_osw h6 (by decide)).trans (rfl))) (by decide) ?_
          refine lv_aload_n E1 E2 d_Ne_deliver_97 rfl (lv_at hl 1 rfl) ?_
          refine g_Po_owner F h (by omega) k_132 d_Ne_deliver_98 ?_
          refine lv_aload_n E1 E2 d_Ne_deliver_101 rfl (lv_at hl 1 rfl) ?_
          refine lv_aload E1 E2 d_Ne_deliver_102 (lv_at hl 0 rfl) ?_
          refine g_Ms_frame F h (by omega) k_105 d_Ne_deliver_104 (fun ho7 => ?_) (fun y8 ho7 hy8 => ?_)
          · skip
            refine bn_calli F h (bn_runV (n := 2) (As := [.ref (ad 6 y2), .null]) (rest := []) F hml hl.1 h (mm_2 (by omega)) rfl rfl (c_Br_hearFrame l D ar ad nf ((o_Li_takeFirst N y2).2) (y2 / 4) (by omega) y2 (by omega) none (fun _ hz => by cases hz) _) (bn_goodV k_612 k_613 k_614 k_2 k_615) rfl rfl (by decide) ⟨by decide, by decide⟩ rfl rfl (Nat.le_of_ble_eq_true rfl) d_Ne_deliver_107 ⟨Nat.zero_le _, Nat.zero_le _⟩) (fun H locs h => ?_)
            have h : bn_H (bn_y D ar ad nf) s.heap H locs (o_Br_hearFrame ((o_Li_takeFirst N y2).2) (y2 / 4) y2 none).2 := h
            refine lv_pop E1 E2 d_Ne_deliver_110 rfl ?_
            refine lv_aload E1 E2 d_Ne_deliver_111 (lv_at hl 0 rfl) ?_
            refine g_Ms_kind F h (by omega) k_89 (v := ((o_Br_hearFrame ((o_Li_takeFirst N y2).2) (y2 / 4) y2 none).2).1 12 y4) rfl d_Ne_deliver_113 ?_
            have hq : o_Ne_deliver N ba pa = (0, ((o_Br_hearFrame ((o_Li_takeFirst N y2).2) (y2 / 4) y2 none).2).1 12 y4, (o_Br_hearFrame ((o_Li_takeFirst N y2).2) (y2 / 4) y2 none).2) := Eq.trans (bn_oc_s ho1) (Eq.trans (bn_oc_s ho3) (Eq.trans (if_neg h5) (Eq.trans (if_neg h6) (bn_oc_n ho7))))
            exact bt_reti2 F hr hk h hq (by decide) (by decide) d_Ne_deliver_116
          · skip
            refine bn_calli F h (bn_runV (n := 2) (As := [.ref (ad 6 y2), .ref (ad 13 y8)]) (rest := []) F hml hl.1 h (mm_2 (by omega)) rfl rfl (c_Br_hearFrame l D ar ad nf ((o_Li_takeFirst N y2).2) (y2 / 4) (by omega) y2 (by omega) (some y8) (fun _ hz => by cases hz; omega) _) (bn_goodV k_612 k_613 k_614 k_2 k_615) rfl rfl (by decide) ⟨by decide, by decide⟩ rfl rfl (Nat.le_of_ble_eq_true rfl) d_Ne_deliver_107 ⟨Nat.zero_le _, Nat.zero_le _⟩) (fun H locs h => ?_)
            have h : bn_H (bn_y D ar ad nf) s.heap H locs (o_Br_hearFrame ((o_Li_takeFirst N y2).2) (y2 / 4) y2 (some y8)).2 := h
            refine lv_pop E1 E2 d_Ne_deliver_110 rfl ?_
            refine lv_aload E1 E2 d_Ne_deliver_111 (lv_at hl 0 rfl) ?_
            refine g_Ms_kind F h (by omega) k_89 (v := ((o_Br_hearFrame ((o_Li_takeFirst N y2).2) (y2 / 4) y2 (some y8)).2).1 12 y4) rfl d_Ne_deliver_113 ?_
            have hq : o_Ne_deliver N ba pa = (0, ((o_Br_hearFrame ((o_Li_takeFirst N y2).2) (y2 / 4) y2 (some y8)).2).1 12 y4, (o_Br_hearFrame ((o_Li_takeFirst N y2).2) (y2 / 4) y2 (some y8)).2) := Eq.trans (bn_oc_s ho1) (Eq.trans (bn_oc_s ho3) (Eq.trans (if_neg h5) (Eq.trans (if_neg h6) (bn_oc_s ho7))))
            exact bt_reti2 F hr hk h hq (by decide) (by decide) d_Ne_deliver_116
