/-! send of the class: written by wip/whole/gen_send.py -/
def o_Ne_send (N : bn_S) (nf : Nat) (sa : Int32) (da : Int32) (va : Int32) : Nat × Int32 × bn_S := (bn_oc (r_Ne_findStation N sa) (1, 0, N) (fun y2 => (bn_oc (N.2.2.2 4 y2) (3, 0, N) (fun y4 => (if da < 0 then (2, 0, N) else (if da ≤ 9 then (0, (o_Br_hearFrame (fr_N N nf (sa.toNatClampNeg) (da.toNatClampNeg) (N.2.1 8 y2) va) (y4 / 4) y4 (some nf)).1, (o_Br_hearFrame (fr_N N nf (sa.toNatClampNeg) (da.toNatClampNeg) (N.2.1 8 y2) va) (y4 / 4) y4 (some nf)).2) else (2, 0, N)))))))
theorem fr_def : ∀ j, j < 4 → defaultValue (t_Fr j) = vp_V [.int 0, .int 0, .int 0, .int 0] j := by decide +kernel
set_option maxHeartbeats 4000000 in
set_option maxRecDepth 100000 in
theorem c_Ne_send (l : Launch) (hfl : l.flags = flags0) (D : va_G) (ar : Nat → ClassId) (ad : Nat → Nat → Nat) (nf : Nat) (N : bn_S)  (sa : Int32) (da : Int32) (va : Int32) : bn_T l y_Ne_send w_Ne_send { frames := 6, cells := 1, slots := 6, locals := 150 } D ar ad nf N [.ref (ad 0 0), .int sa, .int da, .int va] (o_Ne_send N nf sa da va).1 (some (.int (o_Ne_send N nf sa da va).2.1)) (o_Ne_send N nf sa da va).2.2 (if (o_Ne_send N nf sa da va).1 = 0 then nf + 1 else nf) := by
  intro sz
  refine bt_start (cc := b_Ne_send) (maxL := 6) (ret := (Option.some Jvm.ClassFile.FieldType.int)) (by decide) rfl (Nat.le_of_ble_eq_true rfl) ?_
  intro p e s m args below meth c ls hsz F hml hr hk hl h hO hex
  subst hsz
  have E1 := F.1
  have E2 := F.2.1
  have hl : lv_has ls 6 [(0, .ref (ad 0 0)), (1, .int sa), (2, .int da), (3, .int va)] := hl
  refine lv_aload_n E1 E2 d_Ne_send_0 rfl (lv_at hl 0 rfl) ?_
  refine lv_iload_n E1 E2 d_Ne_send_1 rfl (lv_at hl 1 rfl) ?_
  have hwf := h.2.2.2
  refine bn_pcall (bn_runV (n := 1) (As := [.int sa]) (rest := []) F hml hl.1 h mm_0 rfl rfl (cp_Ne_findStation l D ar ad nf N sa _) (bn_goodV k_416 k_418 ks_Ne_findStation k_1 k_419) rfl rfl (by decide) ⟨by decide, by decide⟩ rfl rfl (Nat.le_of_ble_eq_true rfl) d_Ne_send_2 ⟨Nat.zero_le _, Nat.zero_le _⟩) ?_
  refine bn_oq (f := ad 11) (o := r_Ne_findStation N sa) (fun ho1 => ?_) (fun y2 ho1 => ?_)
  · skip
    refine lv_astoreN E1 E2 d_Ne_send_5 hl (by decide) rfl (fun ls hl => ?_)
    have hl : lv_has ls 6 [(4, .null), (0, .ref (ad 0 0)), (1, .int sa), (2, .int da), (3, .int va)] := hl
    refine lv_aloadN E1 E2 d_Ne_send_7 (lv_at hl 0 rfl) ?_
    refine lv_ifnonnullN E1 E2 d_Ne_send_9 ?_
    have hq : o_Ne_send N nf sa da va = (1, 0, N) := bn_oc_n ho1
    exact bt_throwG hfl F hml hl.1 hk hex h hO hq bx_w1 bx_str105 d_Ne_send_12 d_Ne_send_15 d_Ne_send_16 d_Ne_send_18 d_Ne_send_21 (by decide) (by decide) (by decide) (by decide)
  · have hy2 := lt_Ne_findStation ho1
    refine lv_astore E1 E2 d_Ne_send_5 hl (by decide) rfl (fun ls hl => ?_)
    have hl : lv_has ls 6 [(4, .ref (ad 11 y2)), (0, .ref (ad 0 0)), (1, .int sa), (2, .int da), (3, .int va)] := hl
    refine lv_aload E1 E2 d_Ne_send_7 (lv_at hl 0 rfl) ?_
    refine lv_ifnonnull E1 E2 d_Ne_send_9 rfl ?_
    refine lv_aload E1 E2 d_Ne_send_22 (lv_at hl 0 rfl) ?_
    refine g_St_place F h (by omega) k_202 d_Ne_send_24 (fun ho3 => ?_) (fun y4 ho3 hy4 => ?_)
    · skip
      refine lv_astoreN E1 E2 d_Ne_send_27 hl (by decide) rfl (fun ls hl => ?_)
      have hl : lv_has ls 6 [(5, .null), (4, .ref (ad 11 y2)), (0, .ref (ad 0 0)), (1, .int sa), (2, .int da), (3, .int va)] := hl
      refine lv_aloadN E1 E2 d_Ne_send_29 (lv_at hl 0 rfl) ?_
      refine lv_ifnonnullN E1 E2 d_Ne_send_31 ?_
      have hq : o_Ne_send N nf sa da va = (3, 0, N) := Eq.trans (bn_oc_s ho1) (bn_oc_n ho3)
      exact bt_throwG hfl F hml hl.1 hk hex h hO hq bx_w3 bx_str110 d_Ne_send_34 d_Ne_send_37 d_Ne_send_38 d_Ne_send_40 d_Ne_send_43 (by decide) (by decide) (by decide) (by decide)
    · skip
      refine lv_astore E1 E2 d_Ne_send_27 hl (by decide) rfl (fun ls hl => ?_)
      have hl : lv_has ls 6 [(5, .ref (ad 6 y4)), (4, .ref (ad 11 y2)), (0, .ref (ad 0 0)), (1, .int sa), (2, .int da), (3, .int va)] := hl
      refine lv_aload E1 E2 d_Ne_send_29 (lv_at hl 0 rfl) ?_
      refine lv_ifnonnull E1 E2 d_Ne_send_31 rfl ?_
      refine lv_iload_n E1 E2 d_Ne_send_44 rfl (lv_at hl 4 rfl) ?_
      refine lv_if_lt E1 E2 d_Ne_send_45 rfl (fun h5 => ?_) (fun h5 => ?_)
      · have h5 : da < 0 := h5
        have hq : o_Ne_send N nf sa da va = (2, 0, N) := Eq.trans (bn_oc_s ho1) (Eq.trans (bn_oc_s ho3) (if_pos h5))
        exact bt_throwG hfl F hml hl.1 hk hex h hO hq bx_w2 bx_str112 d_Ne_send_54 d_Ne_send_57 d_Ne_send_58 d_Ne_send_60 d_Ne_send_63 (by decide) (by decide) (by decide) (by decide)
      · have h5 : ¬ (da < 0) := h5
        refine lv_iload_n E1 E2 d_Ne_send_48 rfl (lv_at hl 4 rfl) ?_
        refine lv_bipush (v := 9) E1 E2 d_Ne_send_49 (by decide) ?_
        refine lv_icmp_le E1 E2 d_Ne_send_51 rfl (fun h6 => ?_) (fun h6 => ?_)
        · have h6 : da ≤ 9 := h6
          refine lv_aload E1 E2 d_Ne_send_64 (lv_at hl 0 rfl) ?_
          refine g_Po_owner F h (by omega) k_132 d_Ne_send_66 ?_
          refine lv_aload E1 E2 d_Ne_send_69 (lv_at hl 0 rfl) ?_
          have hlt := fun (i : Nat) (x : Nat × va_E) hi => (h.1 i x hi).lt
          refine bn_new F h i_Fr t_Fr t_Fr_ok k_587 k_588 k_15 (ci := 6) rfl (fs := [.int 0, .int 0, .int 0, .int 0]) fr_def (by decide) (by decide) d_Ne_send_71 (fun H1 hzN hoN hP1 h => ?_)
          have h : bn_H (bn_y D ar ad nf) s.heap H1 [] N := h
          refine lv_dup E1 E2 d_Ne_send_74 rfl ?_
          refine lv_iload_n E1 E2 d_Ne_send_75 rfl (lv_at hl 3 rfl) ?_
          have hn_sa := bn_isS ho1
          have hn_sa2 := hn_sa.2
          refine bn_ti hn_sa.1 ?_
          refine lv_iload_n E1 E2 d_Ne_send_76 rfl (lv_at hl 4 rfl) ?_
          have hn_da := bn_natlt (n := 9) h5 (Int32.not_lt.mpr h6) (by decide)
          have hn_da2 := hn_da.2
          refine bn_ti hn_da.1 ?_
          refine lv_aload E1 E2 d_Ne_send_77 (lv_at hl 1 rfl) ?_
          refine g_St_vlan F h (by omega) k_204 (v := N.2.1 8 y2) rfl d_Ne_send_79 ?_
          refine lv_iload_n E1 E2 d_Ne_send_82 rfl (lv_at hl 5 rfl) ?_
          have hwsvlan : N.2.1 8 y2 < 3 := wf_svlan h.2.2.2 y2
          have hwsvlan0 : 1 ≤ N.2.1 8 y2 := wf_svlan_lo h.2.2.2 y2
          refine bn_frame F hml hl.1 h (q := s.heap.size) (Nat.le_refl _) hlt hP1 (a := sa.toNatClampNeg) (b := da.toNatClampNeg) (v := N.2.1 8 y2) (by omega) (by omega) (by omega) (by omega) ⟨by decide, by decide⟩ (Nat.le_of_ble_eq_true rfl) ⟨by decide, by decide⟩ d_Ne_send_83 (fun H locs h => ?_)
          have F2 : bn_F p s m args c b_Ne_send "BridgeNet" (bn_y D ar (fr_ad ad nf s.heap.size) (nf + 1)) := F
          refine bn_st (st' := [.ref ((fr_ad ad nf s.heap.size) 13 nf), .ref ((fr_ad ad nf s.heap.size) 6 y4), .ref ((fr_ad ad nf s.heap.size) 2 (y4 / 4))]) (by simp [bn_up]) ?_
          refine bn_calli F2 h (bn_runV (n := 2) (As := [.ref ((fr_ad ad nf s.heap.size) 6 y4), .ref ((fr_ad ad nf s.heap.size) 13 nf)]) (rest := []) F2 hml hl.1 h (mm_2 (by omega)) rfl rfl (c_Br_hearFrame l D ar (fr_ad ad nf s.heap.size) (nf + 1) (fr_N N nf (sa.toNatClampNeg) (da.toNatClampNeg) (N.2.1 8 y2) va) (y4 / 4) (by omega) y4 (by omega) (some nf) (fun _ hz => by cases hz; omega) _) (bn_goodV k_612 k_613 k_614 k_2 k_615) rfl rfl (by decide) ⟨by decide, by decide⟩ rfl rfl (Nat.le_of_ble_eq_true rfl) d_Ne_send_86 ⟨by decide, by decide⟩) (fun H locs h => ?_)
          have hq : o_Ne_send N nf sa da va = (0, (o_Br_hearFrame (fr_N N nf (sa.toNatClampNeg) (da.toNatClampNeg) (N.2.1 8 y2) va) (y4 / 4) y4 (some nf)).1, (o_Br_hearFrame (fr_N N nf (sa.toNatClampNeg) (da.toNatClampNeg) (N.2.1 8 y2) va) (y4 / 4) y4 (some nf)).2) := Eq.trans (bn_oc_s ho1) (Eq.trans (bn_oc_s ho3) (Eq.trans (if_neg h5) (if_pos h6)))
          exact bt_retG F hr hk (Nat.le_refl _) h hq (by decide) (by decide) d_Ne_send_89
        · have h6 : ¬ (da ≤ 9) := h6
          have hq : o_Ne_send N nf sa da va = (2, 0, N) := Eq.trans (bn_oc_s ho1) (Eq.trans (bn_oc_s ho3) (Eq.trans (if_neg h5) (if_neg h6)))
          exact bt_throwG hfl F hml hl.1 hk hex h hO hq bx_w2 bx_str112 d_Ne_send_54 d_Ne_send_57 d_Ne_send_58 d_Ne_send_60 d_Ne_send_63 (by decide) (by decide) (by decide) (by decide)
