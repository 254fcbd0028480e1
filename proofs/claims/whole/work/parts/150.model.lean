/-! contracts of the reference, written by wip/whole/gen_model.py -/
def o_Mo_post (N : bn_S) (x : Nat) (w : Int32) : Int32 × bn_S := (if (N.2.1 13 ((N.2.1 4 x) - 1)) = 12 then ((-1), N) else (nI ((12 * ((N.2.1 4 x) - 1)) + (N.2.1 13 ((N.2.1 4 x) - 1))), (sU (sI N 14 ((12 * ((N.2.1 4 x) - 1)) + (N.2.1 13 ((N.2.1 4 x) - 1))) w) 13 ((N.2.1 4 x) - 1) ((N.2.1 13 ((N.2.1 4 x) - 1)) + 1))))
set_option maxHeartbeats 4000000 in
set_option maxRecDepth 100000 in
theorem c_Mo_post (l : Launch) (D : va_G) (ar : Nat → ClassId) (ad : Nat → Nat → Nat) (N : bn_S)  (x : Nat) (hx : x < 20) (w : Int32) (hj1 : 1 ≤ N.2.1 4 x) (hj2 : N.2.1 4 x ≤ 20) : bn_I l y_Mo_post w_Mo_post { frames := 0, cells := 0, slots := 0, locals := 0 } (mo_y D ar ad) N [.ref (ad 0 0), .int (nI x), .int w] (o_Mo_post N x w).1 (o_Mo_post N x w).2 := by
  intro sz
  refine bn_start (cc := b_Mo_post) (maxL := 5) (ret := (Option.some Jvm.ClassFile.FieldType.int)) (by decide) rfl (Nat.le_of_ble_eq_true rfl) ?_
  intro p e s m args below meth c ls hsz F hml hr hk hl h
  subst hsz
  have E1 := F.1
  have E2 := F.2.1
  have hl : lv_has ls 5 [(0, .ref (ad 0 0)), (1, .int (nI x)), (2, .int w)] := hl
  refine lv_aload_n E1 E2 d_Mo_post_0 rfl (lv_at hl 0 rfl) ?_
  refine g_Mo_joined F h k_706 d_Mo_post_1 ?_
  refine lv_iload_n E1 E2 d_Mo_post_4 rfl (lv_at hl 1 rfl) ?_
  refine ml_joined F h (i := x) (by omega) (v := N.2.1 4 x) rfl d_Mo_post_5 ?_
  refine lv_iconst (v := 1) E1 E2 d_Mo_post_6 (by decide) ?_
  refine lv_isub E1 E2 d_Mo_post_7 ?_
  have hwjoined : N.2.1 4 x < 108 := mw_joined h.2.2.2 x
  refine bn_ti (y := nI ((N.2.1 4 x) - 1)) (pk_sub (a := (N.2.1 4 x)) (b := 1) (by omega)) ?_
  refine lv_istore_n E1 E2 d_Mo_post_8 rfl hl (by decide) rfl (fun ls hl => ?_)
  have hl : lv_has ls 5 [(3, .int (nI ((N.2.1 4 x) - 1))), (0, .ref (ad 0 0)), (1, .int (nI x)), (2, .int w)] := hl
  refine lv_aload_n E1 E2 d_Mo_post_9 rfl (lv_at hl 1 rfl) ?_
  refine g_Mo_lines F h k_715 d_Mo_post_10 ?_
  refine lv_iload_n E1 E2 d_Mo_post_13 rfl (lv_at hl 0 rfl) ?_
  have hwjoined : N.2.1 4 x < 108 := mw_joined h.2.2.2 x
  refine ml_lines F h (i := (N.2.1 4 x) - 1) (by omega) (v := N.2.1 13 ((N.2.1 4 x) - 1)) rfl d_Mo_post_14 ?_
  refine lv_bipush (v := 12) E1 E2 d_Mo_post_15 (by decide) ?_
  have hwlines : N.2.1 13 ((N.2.1 4 x) - 1) < 13 := mw_lines h.2.2.2 ((N.2.1 4 x) - 1)
  have hwjoined : N.2.1 4 x < 108 := mw_joined h.2.2.2 x
  refine lv_icmp_ne E1 E2 d_Mo_post_17 rfl (fun h1 => ?_) (fun h1 => ?_)
  · have h1 : ¬ ((N.2.1 13 ((N.2.1 4 x) - 1)) = 12) := (fun hw => h1 ((nI_eq (a := N.2.1 13 ((N.2.1 4 x) - 1)) (b := 12) (by omega) (by omega)).mpr hw))
    refine lv_bipush (v := 12) E1 E2 d_Mo_post_22 (by decide) ?_
    refine lv_iload_n E1 E2 d_Mo_post_24 rfl (lv_at hl 0 rfl) ?_
    refine lv_imul E1 E2 d_Mo_post_25 ?_
    have hwjoined : N.2.1 4 x < 108 := mw_joined h.2.2.2 x
    refine bn_ti (y := nI (12 * ((N.2.1 4 x) - 1))) (pk_mul 12 ((N.2.1 4 x) - 1)) ?_
    refine lv_aload_n E1 E2 d_Mo_post_26 rfl (lv_at hl 1 rfl) ?_
    refine g_Mo_lines F h k_715 d_Mo_post_27 ?_
    refine lv_iload_n E1 E2 d_Mo_post_30 rfl (lv_at hl 0 rfl) ?_
    have hwjoined : N.2.1 4 x < 108 := mw_joined h.2.2.2 x
    refine ml_lines F h (i := (N.2.1 4 x) - 1) (by omega) (v := N.2.1 13 ((N.2.1 4 x) - 1)) rfl d_Mo_post_31 ?_
    refine lv_iadd E1 E2 d_Mo_post_32 ?_
    have hwjoined : N.2.1 4 x < 108 := mw_joined h.2.2.2 x
    have hwlines : N.2.1 13 ((N.2.1 4 x) - 1) < 13 := mw_lines h.2.2.2 ((N.2.1 4 x) - 1)
    refine bn_ti (y := nI ((12 * ((N.2.1 4 x) - 1)) + (N.2.1 13 ((N.2.1 4 x) - 1)))) (nI_add (12 * ((N.2.1 4 x) - 1)) (N.2.1 13 ((N.2.1 4 x) - 1))) ?_
    refine lv_istore E1 E2 d_Mo_post_33 hl (by decide) rfl (fun ls hl => ?_)
    have hl : lv_has ls 5 [(4, .int (nI ((12 * ((N.2.1 4 x) - 1)) + (N.2.1 13 ((N.2.1 4 x) - 1))))), (3, .int (nI ((N.2.1 4 x) - 1))), (0, .ref (ad 0 0)), (1, .int (nI x)), (2, .int w)] := hl
    refine lv_aload_n E1 E2 d_Mo_post_35 rfl (lv_at hl 2 rfl) ?_
    refine g_Mo_kind F h k_716 d_Mo_post_36 ?_
    refine lv_iload E1 E2 d_Mo_post_39 (lv_at hl 0 rfl) ?_
    refine lv_iload_n E1 E2 d_Mo_post_41 rfl (lv_at hl 4 rfl) ?_
    have hwjoined : N.2.1 4 x < 108 := mw_joined h.2.2.2 x
    have hwlines : N.2.1 13 ((N.2.1 4 x) - 1) < 13 := mw_lines h.2.2.2 ((N.2.1 4 x) - 1)
    refine ms_kind F h (i := (12 * ((N.2.1 4 x) - 1)) + (N.2.1 13 ((N.2.1 4 x) - 1))) (by omega) (v := w) d_Mo_post_42 (fun H locs h => ?_)
    have h : bn_H (mo_y D ar ad) s.heap H locs (sI N 14 ((12 * ((N.2.1 4 x) - 1)) + (N.2.1 13 ((N.2.1 4 x) - 1))) w) := h
    refine lv_aload_n E1 E2 d_Mo_post_43 rfl (lv_at hl 2 rfl) ?_
    refine g_Mo_lines F h k_715 d_Mo_post_44 ?_
    refine lv_iload_n E1 E2 d_Mo_post_47 rfl (lv_at hl 1 rfl) ?_
    refine lv_dup2_11 E1 E2 d_Mo_post_48 rfl rfl ?_
    have hwjoined : N.2.1 4 x < 108 := mw_joined h.2.2.2 x
    refine ml_lines F h (i := (N.2.1 4 x) - 1) (by omega) (v := N.2.1 13 ((N.2.1 4 x) - 1)) rfl d_Mo_post_49 ?_
    refine lv_iconst (v := 1) E1 E2 d_Mo_post_50 (by decide) ?_
    refine lv_iadd E1 E2 d_Mo_post_51 ?_
    have hwlines : N.2.1 13 ((N.2.1 4 x) - 1) < 13 := mw_lines h.2.2.2 ((N.2.1 4 x) - 1)
    have hwjoined : N.2.1 4 x < 108 := mw_joined h.2.2.2 x
    refine bn_ti (y := nI ((N.2.1 13 ((N.2.1 4 x) - 1)) + 1)) (nI_add (N.2.1 13 ((N.2.1 4 x) - 1)) 1) ?_
    have hwjoined : N.2.1 4 x < 108 := mw_joined h.2.2.2 x
    have hwlines : N.2.1 13 ((N.2.1 4 x) - 1) < 13 := mw_lines h.2.2.2 ((N.2.1 4 x) - 1)
    have hwjoined : N.2.1 4 x < 108 := mw_joined h.2.2.2 x
    refine ms_lines F h (i := (N.2.1 4 x) - 1) (by omega) (v := (N.2.1 13 ((N.2.1 4 x) - 1)) + 1) (by omega) d_Mo_post_52 (fun H locs h => ?_)
    have h : bn_H (mo_y D ar ad) s.heap H locs (sU (sI N 14 ((12 * ((N.2.1 4 x) - 1)) + (N.2.1 13 ((N.2.1 4 x) - 1))) w) 13 ((N.2.1 4 x) - 1) ((N.2.1 13 ((N.2.1 4 x) - 1)) + 1)) := h
    refine lv_iload E1 E2 d_Mo_post_53 (lv_at hl 0 rfl) ?_
    have hq : o_Mo_post N x w = (nI ((12 * ((N.2.1 4 x) - 1)) + (N.2.1 13 ((N.2.1 4 x) - 1))), (sU (sI N 14 ((12 * ((N.2.1 4 x) - 1)) + (N.2.1 13 ((N.2.1 4 x) - 1))) w) 13 ((N.2.1 4 x) - 1) ((N.2.1 13 ((N.2.1 4 x) - 1)) + 1))) := if_neg h1
    exact bn_reti2 F hr hk h hq d_Mo_post_55
  · have h1 : (N.2.1 13 ((N.2.1 4 x) - 1)) = 12 := ((nI_eq (a := N.2.1 13 ((N.2.1 4 x) - 1)) (b := 12) (by omega) (by omega)).mp h1)
    refine lv_iconst (v := (-1)) E1 E2 d_Mo_post_20 (by decide) ?_
    have hq : o_Mo_post N x w = ((-1), N) := if_pos h1
    exact bn_reti2 F hr hk h hq d_Mo_post_21
theorem mo_pst {N : bn_S} {x : Nat} {w : Int32} (hN : mo_wf N) (h1 : 1 ≤ N.2.1 4 x) (h2 : N.2.1 4 x ≤ 20) (h : ¬ (o_Mo_post N x w).1 < 0) : (o_Mo_post N x w).1 = nI (o_Mo_post N x w).1.toNatClampNeg ∧ (o_Mo_post N x w).1.toNatClampNeg < 240 := by
  have h3 := mw_lines hN (N.2.1 4 x - 1)
  unfold o_Mo_post at h ⊢
  split at h
  · exact absurd (show ((-1 : Int32) < 0) by decide) h
  · rename_i h4
    rw [if_neg h4]
    show nI _ = nI (nI _).toNatClampNeg ∧ (nI _).toNatClampNeg < 240
    rw [nI_clamp (by omega)]
    exact ⟨rfl, by omega⟩
theorem kj_post (N : bn_S) (x : Nat) (w : Int32) : (o_Mo_post N x w).2.2.1 4 = N.2.1 4 := by
  unfold o_Mo_post
  split
  · rfl
  · funext i
    simp [sU, sI, bn_up]
def o_Mo_tell (N : bn_S) (x : Nat) : bn_S := (if (o_Mo_post N x 1).1 < 0 then (o_Mo_post N x 1).2 else (sU (sI (sJ ((o_Mo_post N x 1).2) 15 (((o_Mo_post N x 1).1).toNatClampNeg) (r_Mo_wouldTell ((o_Mo_post N x 1).2) x)) 16 (((o_Mo_post N x 1).1).toNatClampNeg) (((o_Mo_post N x 1).2).1 23 (x / 4))) 17 (((o_Mo_post N x 1).1).toNatClampNeg) (((o_Mo_post N x 1).2).2.1 7 x)))
set_option maxHeartbeats 4000000 in
set_option maxRecDepth 100000 in
theorem c_Mo_tell (l : Launch) (D : va_G) (ar : Nat → ClassId) (ad : Nat → Nat → Nat) (N : bn_S)  (x : Nat) (hx : x < 20) (hj1 : 1 ≤ N.2.1 4 x) (hj2 : N.2.1 4 x ≤ 20) : bn_V l y_Mo_tell w_Mo_tell { frames := 2, cells := 0, slots := 0, locals := 49 } (mo_y D ar ad) N [.ref (ad 0 0), .int (nI x)] (o_Mo_tell N x) := by
  intro sz
  refine bn_start (cc := b_Mo_tell) (maxL := 3) (ret := (Option.none : Option Jvm.ClassFile.FieldType)) (by decide) rfl (Nat.le_of_ble_eq_true rfl) ?_
  intro p e s m args below meth c ls hsz F hml hr hk hl h
  subst hsz
  have E1 := F.1
  have E2 := F.2.1
  have hl : lv_has ls 3 [(0, .ref (ad 0 0)), (1, .int (nI x))] := hl
  refine lv_aload_n E1 E2 d_Mo_tell_0 rfl (lv_at hl 0 rfl) ?_
  refine lv_iload_n E1 E2 d_Mo_tell_1 rfl (lv_at hl 1 rfl) ?_
  refine lv_iconst (v := 1) E1 E2 d_Mo_tell_2 (by decide) ?_
  have hwf := h.2.2.2
  refine bn_calli F h (bn_runV (n := 2) (As := [.int (nI x), .int 1]) (rest := []) F hml hl.1 h mi_0 rfl rfl (c_Mo_post l D ar ad N x (by omega) 1 hj1 hj2 _) (bn_goodV k_876 k_878 ks_Mo_post k_7 k_879) rfl rfl (by decide) ⟨by decide, by decide⟩ rfl rfl (Nat.le_of_ble_eq_true rfl) d_Mo_tell_3 ⟨Nat.zero_le _, Nat.zero_le _⟩) (fun H locs h => ?_)
  have h : bn_H (mo_y D ar ad) s.heap H locs (o_Mo_post N x 1).2 := h
  refine lv_istore_n E1 E2 d_Mo_tell_6 rfl hl (by decide) rfl (fun ls hl => ?_)
  have hl : lv_has ls 3 [(2, .int ((o_Mo_post N x 1).1)), (0, .ref (ad 0 0)), (1, .int (nI x))] := hl
  refine lv_iload_n E1 E2 d_Mo_tell_7 rfl (lv_at hl 0 rfl) ?_
  refine lv_if_lt E1 E2 d_Mo_tell_8 rfl (fun h1 => ?_) (fun h1 => ?_)
  · have h1 : (o_Mo_post N x 1).1 < 0 := h1
    have hq : o_Mo_tell N x = (o_Mo_post N x 1).2 := if_pos h1
    exact bn_retv F hr hk h hq.symm d_Mo_tell_48
  · have h1 : ¬ ((o_Mo_post N x 1).1 < 0) := h1
    refine lv_aload_n E1 E2 d_Mo_tell_11 rfl (lv_at hl 1 rfl) ?_
    refine g_Mo_told F h k_717 d_Mo_tell_12 ?_
    refine lv_iload_n E1 E2 d_Mo_tell_15 rfl (lv_at hl 0 rfl) ?_
    have hpl := mo_pst hwf hj1 hj2 h1
    have hpl2 := hpl.2
    refine bn_ti hpl.1 ?_
    refine lv_aload_n E1 E2 d_Mo_tell_16 rfl (lv_at hl 1 rfl) ?_
    refine lv_iload_n E1 E2 d_Mo_tell_17 rfl (lv_at hl 2 rfl) ?_
    refine bn_calll F h (bn_runV (n := 1) (As := [.int (nI x)]) (rest := [.int (nI (((o_Mo_post N x 1).1).toNatClampNeg)), .ref (ad 15 0)]) F hml hl.1 h mi_0 rfl rfl (c_Mo_wouldTell l D ar ad ((o_Mo_post N x 1).2) x (by omega) _) (bn_goodV k_856 k_858 ks_Mo_wouldTell k_7 k_859) rfl rfl (by decide) ⟨by decide, by decide⟩ rfl rfl (Nat.le_of_ble_eq_true rfl) d_Mo_tell_18 ⟨Nat.zero_le _, Nat.zero_le _⟩) (fun H locs h => ?_)
    refine ms_told F h (i := ((o_Mo_post N x 1).1).toNatClampNeg) (by omega) (v := r_Mo_wouldTell ((o_Mo_post N x 1).2) x) d_Mo_tell_21 (fun H locs h => ?_)
    have h : bn_H (mo_y D ar ad) s.heap H locs (sJ ((o_Mo_post N x 1).2) 15 (((o_Mo_post N x 1).1).toNatClampNeg) (r_Mo_wouldTell ((o_Mo_post N x 1).2) x)) := h
    refine lv_aload_n E1 E2 d_Mo_tell_22 rfl (lv_at hl 1 rfl) ?_
    refine g_Mo_hop F h k_718 d_Mo_tell_23 ?_
    refine lv_iload_n E1 E2 d_Mo_tell_26 rfl (lv_at hl 0 rfl) ?_
    have hpl := mo_pst hwf hj1 hj2 h1
    have hpl2 := hpl.2
    refine bn_ti hpl.1 ?_
    refine lv_aload_n E1 E2 d_Mo_tell_27 rfl (lv_at hl 1 rfl) ?_
    refine g_Mo_hops F h k_725 d_Mo_tell_28 ?_
    refine lv_iload_n E1 E2 d_Mo_tell_31 rfl (lv_at hl 2 rfl) ?_
    refine lv_iconst (v := 4) E1 E2 d_Mo_tell_32 (by decide) ?_
    refine lv_idiv E1 E2 d_Mo_tell_33 (by decide) ?_
    refine bn_ti (y := nI (x / 4)) (pk_div (a := x) (d := 4) (by omega) (by omega) (by omega)) ?_
    refine ml_hops F h (i := x / 4) (by omega) (v := ((o_Mo_post N x 1).2).1 23 (x / 4)) rfl d_Mo_tell_34 ?_
    refine ms_hop F h (i := ((o_Mo_post N x 1).1).toNatClampNeg) (by omega) (v := ((o_Mo_post N x 1).2).1 23 (x / 4)) d_Mo_tell_35 (fun H locs h => ?_)
    have h : bn_H (mo_y D ar ad) s.heap H locs (sI (sJ ((o_Mo_post N x 1).2) 15 (((o_Mo_post N x 1).1).toNatClampNeg) (r_Mo_wouldTell ((o_Mo_post N x 1).2) x)) 16 (((o_Mo_post N x 1).1).toNatClampNeg) (((o_Mo_post N x 1).2).1 23 (x / 4))) := h
    refine lv_aload_n E1 E2 d_Mo_tell_36 rfl (lv_at hl 1 rfl) ?_
    refine g_Mo_asks F h k_719 d_Mo_tell_37 ?_
    refine lv_iload_n E1 E2 d_Mo_tell_40 rfl (lv_at hl 0 rfl) ?_
    have hpl := mo_pst hwf hj1 hj2 h1
    have hpl2 := hpl.2
    refine bn_ti hpl.1 ?_
    refine lv_aload_n E1 E2 d_Mo_tell_41 rfl (lv_at hl 1 rfl) ?_
    refine g_Mo_proposing F h k_709 d_Mo_tell_42 ?_
    refine lv_iload_n E1 E2 d_Mo_tell_45 rfl (lv_at hl 2 rfl) ?_
    refine ml_proposing F h (i := x) (by omega) (v := ((o_Mo_post N x 1).2).2.1 7 x) rfl d_Mo_tell_46 ?_
    have hwproposing : ((o_Mo_post N x 1).2).2.1 7 x < 2 := mw_proposing h.2.2.2 x
    refine ms_asks F h (i := ((o_Mo_post N x 1).1).toNatClampNeg) (by omega) (v := ((o_Mo_post N x 1).2).2.1 7 x) (by omega) d_Mo_tell_47 (fun H locs h => ?_)
    have h : bn_H (mo_y D ar ad) s.heap H locs (sU (sI (sJ ((o_Mo_post N x 1).2) 15 (((o_Mo_post N x 1).1).toNatClampNeg) (r_Mo_wouldTell ((o_Mo_post N x 1).2) x)) 16 (((o_Mo_post N x 1).1).toNatClampNeg) (((o_Mo_post N x 1).2).1 23 (x / 4))) 17 (((o_Mo_post N x 1).1).toNatClampNeg) (((o_Mo_post N x 1).2).2.1 7 x)) := h
    have hq : o_Mo_tell N x = (sU (sI (sJ ((o_Mo_post N x 1).2) 15 (((o_Mo_post N x 1).1).toNatClampNeg) (r_Mo_wouldTell ((o_Mo_post N x 1).2) x)) 16 (((o_Mo_post N x 1).1).toNatClampNeg) (((o_Mo_post N x 1).2).1 23 (x / 4))) 17 (((o_Mo_post N x 1).1).toNatClampNeg) (((o_Mo_post N x 1).2).2.1 7 x)) := if_neg h1
    exact bn_retv F hr hk h hq.symm d_Mo_tell_48
theorem kj_tell (N : bn_S) (x : Nat) : (o_Mo_tell N x).2.1 4 = N.2.1 4 := by
  unfold o_Mo_tell
  split
  · exact kj_post N x 1
  · funext i
    have h9 := congrFun (kj_post N x 1) i
    simpa [sU, sI, sJ, bn_up] using h9
def bd_Mo_tellAll (b : Nat) (k : Nat) (q : bn_S) : bn_S := (if r_Mo_isLinked q (4 * b + k) = 0 then q else (if q.1 5 (4 * b + k) = 2 then (o_Mo_tell q (4 * b + k)) else q))
def it_Mo_tellAll (b : Nat) (q0 : bn_S) : Nat → bn_S
  | 0 => q0
  | k + 1 => bd_Mo_tellAll b k (it_Mo_tellAll b q0 k)
theorem it_Mo_tellAll_0 (b : Nat) (q0 : bn_S) : bd_Mo_tellAll b 0 q0 = it_Mo_tellAll b q0 1 := rfl
theorem it_Mo_tellAll_s (b : Nat) (q0 : bn_S) (k : Nat) : bd_Mo_tellAll b k (it_Mo_tellAll b q0 k) = it_Mo_tellAll b q0 (k + 1) := rfl
def o_Mo_tellAll (N : bn_S) (b : Nat) : bn_S := (it_Mo_tellAll b N 4)
set_option maxHeartbeats 4000000 in
set_option maxRecDepth 100000 in
theorem c_Mo_tellAll (l : Launch) (D : va_G) (ar : Nat → ClassId) (ad : Nat → Nat → Nat) (N : bn_S)  (b : Nat) (hb : b < 5) : bn_V l y_Mo_tellAll w_Mo_tellAll { frames := 3, cells := 0, slots := 0, locals := 71 } (mo_y D ar ad) N [.ref (ad 0 0), .int (nI b)] (o_Mo_tellAll N b) := by
  intro sz
  refine bn_start (cc := b_Mo_tellAll) (maxL := 3) (ret := (Option.none : Option Jvm.ClassFile.FieldType)) (by decide) rfl (Nat.le_of_ble_eq_true rfl) ?_
  intro p e s m args below meth c ls hsz F hml hr hk hl h
  subst hsz
  have E1 := F.1
  have E2 := F.2.1
  have hl : lv_has ls 3 [(0, .ref (ad 0 0)), (1, .int (nI b))] := hl
  refine lv_iconst (v := 4) E1 E2 d_Mo_tellAll_0 (by decide) ?_
  refine lv_iload_n E1 E2 d_Mo_tellAll_1 rfl (lv_at hl 1 rfl) ?_
  refine lv_imul E1 E2 d_Mo_tellAll_2 ?_
  refine bn_ti (y := nI (4 * b)) (pk_mul 4 b) ?_
  refine lv_istore_n E1 E2 d_Mo_tellAll_3 rfl hl (by decide) rfl (fun ls hl => ?_)
  have hl : lv_has ls 3 [(2, .int (nI (4 * b))), (0, .ref (ad 0 0)), (1, .int (nI b))] := hl
  have hs4 : ∀ (Q0 : State → Prop) (k : Nat), k < 4 → ∀ (q : bn_S) (H : Heap) (locs : List Loc) (ls : Array Slot), lv_has ls 3 [(0, .ref (ad 0 0)), (1, .int (nI b)), (2, .int (nI (4 * b + k)))] → bn_H (mo_y D ar ad) s.heap H locs q → (∀ (H : Heap) (locs : List Loc) (ls : Array Slot), lv_has ls 3 [(0, .ref (ad 0 0)), (1, .int (nI b)), (2, .int (nI (4 * b + k + 1)))] → bn_H (mo_y D ar ad) s.heap H locs (bd_Mo_tellAll b k q) → W p l e { frames := 3, cells := 0, slots := 0, locals := 71 } s m args below meth c H locs 0 0 Q0 (F0 m 4 ls [])) → W p l e { frames := 3, cells := 0, slots := 0, locals := 71 } s m args below meth c H locs 0 0 Q0 (F0 m 4 ls []) := by
    intro Q0 k hkk q H locs ls hl h kk
    refine lv_iload_n E1 E2 d_Mo_tellAll_4 rfl (lv_at hl 2 rfl) ?_
    refine lv_iconst (v := 4) E1 E2 d_Mo_tellAll_5 (by decide) ?_
    refine lv_iload_n E1 E2 d_Mo_tellAll_6 rfl (lv_at hl 1 rfl) ?_
    refine lv_imul E1 E2 d_Mo_tellAll_7 ?_
    refine bn_ti (y := nI (4 * b)) (pk_mul 4 b) ?_
    refine lv_iconst (v := 4) E1 E2 d_Mo_tellAll_8 (by decide) ?_
    refine lv_iadd E1 E2 d_Mo_tellAll_9 ?_
    refine bn_ti (y := nI ((4 * b) + 4)) (nI_add (4 * b) 4) ?_
    refine lv_icmp_ge E1 E2 d_Mo_tellAll_10 rfl (fun hz => absurd ((nI_leI (a := (4 * b) + 4) (b := 4 * b + k) (by omega) (by omega)).mp hz) (by omega)) (fun _ => ?_)
    refine lv_aload_n E1 E2 d_Mo_tellAll_13 rfl (lv_at hl 0 rfl) ?_
    refine lv_iload_n E1 E2 d_Mo_tellAll_14 rfl (lv_at hl 2 rfl) ?_
    refine bn_calli F h (bn_runV (n := 1) (As := [.int (nI (4 * b + k))]) (rest := []) F hml hl.1 h mi_0 rfl rfl (c_Mo_isLinked l D ar ad q (4 * b + k) (by omega) _) (bn_goodV k_864 k_866 ks_Mo_isLinked k_7 k_867) rfl rfl (by decide) ⟨by decide, by decide⟩ rfl rfl (Nat.le_of_ble_eq_true rfl) d_Mo_tellAll_15 ⟨Nat.zero_le _, Nat.zero_le _⟩) (fun H locs h => ?_)
    refine lv_if_eq E1 E2 d_Mo_tellAll_18 rfl (fun h1 => ?_) (fun h1 => ?_)
    · have h1 : r_Mo_isLinked q (4 * b + k) = 0 := h1
      refine lv_iinc (v := (nI (4 * b + k + 1))) E1 E2 d_Mo_tellAll_36 hl (k := 2) rfl (nI_1 _) (by decide) rfl (fun ls hl => ?_)
      have hl : lv_has ls 3 [(2, .int (nI (4 * b + k + 1))), (0, .ref (ad 0 0)), (1, .int (nI b))] := hl
      refine lv_goto E1 E2 d_Mo_tellAll_39 rfl ?_
      have hq : (bd_Mo_tellAll b k q) = q := if_pos h1
      rw [hq] at kk
      exact kk _ _ ls (lv_sub hl [1, 2, 0] rfl) h
    · have h1 : ¬ (r_Mo_isLinked q (4 * b + k) = 0) := h1
      refine lv_aload_n E1 E2 d_Mo_tellAll_21 rfl (lv_at hl 0 rfl) ?_
      refine g_Mo_role F h k_707 d_Mo_tellAll_22 ?_
      refine lv_iload_n E1 E2 d_Mo_tellAll_25 rfl (lv_at hl 2 rfl) ?_
      refine ml_role F h (i := 4 * b + k) (by omega) (v := q.1 5 (4 * b + k)) rfl d_Mo_tellAll_26 ?_
      refine lv_iconst (v := 2) E1 E2 d_Mo_tellAll_27 (by decide) ?_
      refine lv_icmp_ne E1 E2 d_Mo_tellAll_28 rfl (fun h2 => ?_) (fun h2 => ?_)
      · have h2 : ¬ (q.1 5 (4 * b + k) = 2) := h2
        refine lv_iinc (v := (nI (4 * b + k + 1))) E1 E2 d_Mo_tellAll_36 hl (k := 2) rfl (nI_1 _) (by decide) rfl (fun ls hl => ?_)
        have hl : lv_has ls 3 [(2, .int (nI (4 * b + k + 1))), (0, .ref (ad 0 0)), (1, .int (nI b))] := hl
        refine lv_goto E1 E2 d_Mo_tellAll_39 rfl ?_
        have hq : (bd_Mo_tellAll b k q) = q := Eq.trans (if_neg h1) (if_neg h2)
        rw [hq] at kk
        exact kk _ _ ls (lv_sub hl [1, 2, 0] rfl) h
      · have h2 : q.1 5 (4 * b + k) = 2 := h2
        refine lv_aload_n E1 E2 d_Mo_tellAll_31 rfl (lv_at hl 0 rfl) ?_
        refine lv_iload_n E1 E2 d_Mo_tellAll_32 rfl (lv_at hl 2 rfl) ?_
        refine bn_callv F h (bn_runV (n := 1) (As := [.int (nI (4 * b + k))]) (rest := []) F hml hl.1 h mi_0 rfl rfl (c_Mo_tell l D ar ad q (4 * b + k) (by omega) (mo_lk (h.2.2.2.2.1 (4 * b + k)) h1).1 (mo_lk (h.2.2.2.2.1 (4 * b + k)) h1).2 _) (bn_goodV k_872 k_874 ks_Mo_tell k_7 k_875) rfl rfl (by decide) ⟨by decide, by decide⟩ rfl rfl (Nat.le_of_ble_eq_true rfl) d_Mo_tellAll_33 ⟨Nat.zero_le _, Nat.zero_le _⟩) (fun H locs h => ?_)
        have h : bn_H (mo_y D ar ad) s.heap H locs (o_Mo_tell q (4 * b + k)) := h
        refine lv_iinc (v := (nI (4 * b + k + 1))) E1 E2 d_Mo_tellAll_36 hl (k := 2) rfl (nI_1 _) (by decide) rfl (fun ls hl => ?_)
        have hl : lv_has ls 3 [(2, .int (nI (4 * b + k + 1))), (0, .ref (ad 0 0)), (1, .int (nI b))] := hl
        refine lv_goto E1 E2 d_Mo_tellAll_39 rfl ?_
        have hq : (bd_Mo_tellAll b k q) = (o_Mo_tell q (4 * b + k)) := Eq.trans (if_neg h1) (if_pos h2)
        rw [hq] at kk
        exact kk _ _ ls (lv_sub hl [1, 2, 0] rfl) h
  refine hs4 _ 0 (by decide) N _ _ ls (lv_sub hl [1, 2, 0] rfl) h (fun H locs ls hl h => ?_)
  rw [it_Mo_tellAll_0] at h
  refine hs4 _ 1 (by decide) (it_Mo_tellAll b N 1) _ _ ls hl h (fun H locs ls hl h => ?_)
  rw [it_Mo_tellAll_s] at h
  refine hs4 _ 2 (by decide) (it_Mo_tellAll b N 2) _ _ ls hl h (fun H locs ls hl h => ?_)
  rw [it_Mo_tellAll_s] at h
  refine hs4 _ 3 (by decide) (it_Mo_tellAll b N 3) _ _ ls hl h (fun H locs ls hl h => ?_)
  rw [it_Mo_tellAll_s] at h
  have hl : lv_has ls 3 [(0, .ref (ad 0 0)), (1, .int (nI b)), (2, .int (nI (4 * b + 4)))] := hl
  have h : bn_H (mo_y D ar ad) s.heap H locs (it_Mo_tellAll b N 4) := h
  refine lv_iload_n E1 E2 d_Mo_tellAll_4 rfl (lv_at hl 2 rfl) ?_
  refine lv_iconst (v := 4) E1 E2 d_Mo_tellAll_5 (by decide) ?_
  refine lv_iload_n E1 E2 d_Mo_tellAll_6 rfl (lv_at hl 1 rfl) ?_
  refine lv_imul E1 E2 d_Mo_tellAll_7 ?_
  refine bn_ti (y := nI (4 * b)) (pk_mul 4 b) ?_
  refine lv_iconst (v := 4) E1 E2 d_Mo_tellAll_8 (by decide) ?_
  refine lv_iadd E1 E2 d_Mo_tellAll_9 ?_
  refine bn_ti (y := nI ((4 * b) + 4)) (nI_add (4 * b) 4) ?_
  refine lv_icmp_ge E1 E2 d_Mo_tellAll_10 rfl (fun _ => ?_) (fun hz => absurd ((nI_leI (a := (4 * b) + 4) (b := 4 * b + 4) (by omega) (by omega)).mpr (by omega)) hz)
  have hq : o_Mo_tellAll N b = (it_Mo_tellAll b N 4) := rfl
  exact bn_retv F hr hk h hq.symm d_Mo_tellAll_42
def bd_Mo_choose (b : Nat) (k : Nat) (q : bn_S) : bn_S := (if q.1 12 (4 * b + k) ≤ 0 then q else (if (r_Mo_teller q (q.2.2.1 10 (4 * b + k))) >>> (8 &&& 31) = r_Mo_id q b then q else (if (q.2.2.1 22 b) ≤ ((q.2.2.1 10 (4 * b + k)) + ((Int32.toInt64 (q.1 2 (4 * b + k))) <<< (Int32.toInt64 24 &&& 63))) then q else (sI (sI (sJ q 22 b ((q.2.2.1 10 (4 * b + k)) + ((Int32.toInt64 (q.1 2 (4 * b + k))) <<< (Int32.toInt64 24 &&& 63)))) 23 b ((q.1 11 (4 * b + k)) + 1)) 24 b (nI (4 * b + k))))))
def it_Mo_choose (b : Nat) (q0 : bn_S) : Nat → bn_S
  | 0 => q0
  | k + 1 => bd_Mo_choose b k (it_Mo_choose b q0 k)
theorem it_Mo_choose_0 (b : Nat) (q0 : bn_S) : bd_Mo_choose b 0 q0 = it_Mo_choose b q0 1 := rfl
theorem it_Mo_choose_s (b : Nat) (q0 : bn_S) (k : Nat) : bd_Mo_choose b k (it_Mo_choose b q0 k) = it_Mo_choose b q0 (k + 1) := rfl
def o_Mo_choose (N : bn_S) (b : Nat) : bn_S := (it_Mo_choose b (sI (sI (sJ N 22 b (r_Mo_vector N (Int32.toInt64 (r_Mo_id N b)) 0 (Int32.toInt64 (r_Mo_id N b)) 0)) 23 b 0) 24 b (-1)) 4)
set_option maxHeartbeats 4000000 in
set_option maxRecDepth 100000 in
theorem c_Mo_choose (l : Launch) (D : va_G) (ar : Nat → ClassId) (ad : Nat → Nat → Nat) (N : bn_S)  (b : Nat) (hb : b < 5) : bn_V l y_Mo_choose w_Mo_choose { frames := 1, cells := 0, slots := 0, locals := 27 } (mo_y D ar ad) N [.ref (ad 0 0), .int (nI b)] (o_Mo_choose N b) := by
  intro sz
  refine bn_start (cc := b_Mo_choose) (maxL := 5) (ret := (Option.none : Option Jvm.ClassFile.FieldType)) (by decide) rfl (Nat.le_of_ble_eq_true rfl) ?_
  intro p e s m args below meth c ls hsz F hml hr hk hl h
  subst hsz
  have E1 := F.1
  have E2 := F.2.1
  have hl : lv_has ls 5 [(0, .ref (ad 0 0)), (1, .int (nI b))] := hl
  refine lv_aload_n E1 E2 d_Mo_choose_0 rfl (lv_at hl 0 rfl) ?_
  refine g_Mo_best F h k_724 d_Mo_choose_1 ?_
  refine lv_iload_n E1 E2 d_Mo_choose_4 rfl (lv_at hl 1 rfl) ?_
  refine lv_aload_n E1 E2 d_Mo_choose_5 rfl (lv_at hl 0 rfl) ?_
  refine lv_iload_n E1 E2 d_Mo_choose_6 rfl (lv_at hl 1 rfl) ?_
  refine bn_calli F h (bn_runV (n := 1) (As := [.int (nI b)]) (rest := [.int (nI b), .ref (ad 22 0)]) F hml hl.1 h mi_0 rfl rfl (c_Mo_id l D ar ad N b (by omega) _) (bn_goodV k_844 k_846 ks_Mo_id k_7 k_847) rfl rfl (by decide) ⟨by decide, by decide⟩ rfl rfl (Nat.le_of_ble_eq_true rfl) d_Mo_choose_7 ⟨Nat.zero_le _, Nat.zero_le _⟩) (fun H locs h => ?_)
  refine lv_i2l (v := Int32.toInt64 (r_Mo_id N b)) E1 E2 d_Mo_choose_10 rfl ?_
  refine lv_lconst (v := 0) E1 E2 d_Mo_choose_11 (by decide) ?_
  refine lv_aload_n E1 E2 d_Mo_choose_12 rfl (lv_at hl 0 rfl) ?_
  refine lv_iload_n E1 E2 d_Mo_choose_13 rfl (lv_at hl 1 rfl) ?_
  refine bn_calli F h (bn_runV (n := 1) (As := [.int (nI b)]) (rest := [.long 0, .long (Int32.toInt64 (r_Mo_id N b)), .int (nI b), .ref (ad 22 0)]) F hml hl.1 h mi_0 rfl rfl (c_Mo_id l D ar ad N b (by omega) _) (bn_goodV k_844 k_846 ks_Mo_id k_7 k_847) rfl rfl (by decide) ⟨by decide, by decide⟩ rfl rfl (Nat.le_of_ble_eq_true rfl) d_Mo_choose_14 ⟨Nat.zero_le _, Nat.zero_le _⟩) (fun H locs h => ?_)
  refine lv_i2l (v := Int32.toInt64 (r_Mo_id N b)) E1 E2 d_Mo_choose_17 rfl ?_
  refine lv_lconst (v := 0) E1 E2 d_Mo_choose_18 (by decide) ?_
  refine bn_calll F h (bn_runS (n := 4) (As := [.long (Int32.toInt64 (r_Mo_id N b)), .long 0, .long (Int32.toInt64 (r_Mo_id N b)), .long 0]) (rest := [.int (nI b), .ref (ad 22 0)]) F hml hl.1 h (c_Mo_vector l D ar ad N (Int32.toInt64 (r_Mo_id N b)) 0 (Int32.toInt64 (r_Mo_id N b)) 0 _) (bn_goodS k_698 k_699 k_7 k_700) rfl rfl (by decide) ⟨by decide, by decide⟩ rfl rfl (Nat.le_of_ble_eq_true rfl) d_Mo_choose_19 ⟨Nat.zero_le _, Nat.zero_le _⟩) (fun H locs h => ?_)
  refine ms_best F h (i := b) (by omega) (v := r_Mo_vector N (Int32.toInt64 (r_Mo_id N b)) 0 (Int32.toInt64 (r_Mo_id N b)) 0) d_Mo_choose_22 (fun H locs h => ?_)
  have h : bn_H (mo_y D ar ad) s.heap H locs (sJ N 22 b (r_Mo_vector N (Int32.toInt64 (r_Mo_id N b)) 0 (Int32.toInt64 (r_Mo_id N b)) 0)) := h
  refine lv_aload_n E1 E2 d_Mo_choose_23 rfl (lv_at hl 0 rfl) ?_
  refine g_Mo_hops F h k_725 d_Mo_choose_24 ?_
  refine lv_iload_n E1 E2 d_Mo_choose_27 rfl (lv_at hl 1 rfl) ?_
  refine lv_iconst (v := 0) E1 E2 d_Mo_choose_28 (by decide) ?_
  refine ms_hops F h (i := b) (by omega) (v := 0) d_Mo_choose_29 (fun H locs h => ?_)
  have h : bn_H (mo_y D ar ad) s.heap H locs (sI (sJ N 22 b (r_Mo_vector N (Int32.toInt64 (r_Mo_id N b)) 0 (Int32.toInt64 (r_Mo_id N b)) 0)) 23 b 0) := h
  refine lv_aload_n E1 E2 d_Mo_choose_30 rfl (lv_at hl 0 rfl) ?_
  refine g_Mo_rootPort F h k_726 d_Mo_choose_31 ?_
  refine lv_iload_n E1 E2 d_Mo_choose_34 rfl (lv_at hl 1 rfl) ?_
  refine lv_iconst (v := (-1)) E1 E2 d_Mo_choose_35 (by decide) ?_
  refine ms_rootPort F h (i := b) (by omega) (v := (-1)) d_Mo_choose_36 (fun H locs h => ?_)
  have h : bn_H (mo_y D ar ad) s.heap H locs (sI (sI (sJ N 22 b (r_Mo_vector N (Int32.toInt64 (r_Mo_id N b)) 0 (Int32.toInt64 (r_Mo_id N b)) 0)) 23 b 0) 24 b (-1)) := h
  refine lv_iconst (v := 4) E1 E2 d_Mo_choose_37 (by decide) ?_
  refine lv_iload_n E1 E2 d_Mo_choose_38 rfl (lv_at hl 1 rfl) ?_
  refine lv_imul E1 E2 d_Mo_choose_39 ?_
  refine bn_ti (y := nI (4 * b)) (pk_mul 4 b) ?_
  refine lv_istore_n E1 E2 d_Mo_choose_40 rfl hl (by decide) rfl (fun ls hl => ?_)
  have hl : lv_has ls 5 [(2, .int (nI (4 * b))), (0, .ref (ad 0 0)), (1, .int (nI b))] := hl
  have hs41 : ∀ (Q0 : State → Prop) (k : Nat), k < 4 → ∀ (q : bn_S) (H : Heap) (locs : List Loc) (ls : Array Slot), lv_has ls 5 [(0, .ref (ad 0 0)), (1, .int (nI b)), (2, .int (nI (4 * b + k)))] → bn_H (mo_y D ar ad) s.heap H locs q → (∀ (H : Heap) (locs : List Loc) (ls : Array Slot), lv_has ls 5 [(0, .ref (ad 0 0)), (1, .int (nI b)), (2, .int (nI (4 * b + k + 1)))] → bn_H (mo_y D ar ad) s.heap H locs (bd_Mo_choose b k q) → W p l e { frames := 1, cells := 0, slots := 0, locals := 27 } s m args below meth c H locs 0 0 Q0 (F0 m 41 ls [])) → W p l e { frames := 1, cells := 0, slots := 0, locals := 27 } s m args below meth c H locs 0 0 Q0 (F0 m 41 ls []) := by
    intro Q0 k hkk q H locs ls hl h kk
    refine lv_iload_n E1 E2 d_Mo_choose_41 rfl (lv_at hl 2 rfl) ?_
    refine lv_iconst (v := 4) E1 E2 d_Mo_choose_42 (by decide) ?_
    refine lv_iload_n E1 E2 d_Mo_choose_43 rfl (lv_at hl 1 rfl) ?_
    refine lv_imul E1 E2 d_Mo_choose_44 ?_
    refine bn_ti (y := nI (4 * b)) (pk_mul 4 b) ?_
    refine lv_iconst (v := 4) E1 E2 d_Mo_choose_45 (by decide) ?_
    refine lv_iadd E1 E2 d_Mo_choose_46 ?_
    refine bn_ti (y := nI ((4 * b) + 4)) (nI_add (4 * b) 4) ?_
    refine lv_icmp_ge E1 E2 d_Mo_choose_47 rfl (fun hz => absurd ((nI_leI (a := (4 * b) + 4) (b := 4 * b + k) (by omega) (by omega)).mp hz) (by omega)) (fun _ => ?_)
    refine lv_aload_n E1 E2 d_Mo_choose_50 rfl (lv_at hl 0 rfl) ?_
    refine g_Mo_life F h k_714 d_Mo_choose_51 ?_
    refine lv_iload_n E1 E2 d_Mo_choose_54 rfl (lv_at hl 2 rfl) ?_
    refine ml_life F h (i := 4 * b + k) (by omega) (v := q.1 12 (4 * b + k)) rfl d_Mo_choose_55 ?_
    refine lv_if_le E1 E2 d_Mo_choose_56 rfl (fun h1 => ?_) (fun h1 => ?_)
    · have h1 : q.1 12 (4 * b + k) ≤ 0 := h1
      refine lv_iinc (v := (nI (4 * b + k + 1))) E1 E2 d_Mo_choose_136 hl (k := 2) rfl (nI_1 _) (by decide) rfl (fun ls hl => ?_)
      have hl : lv_has ls 5 [(2, .int (nI (4 * b + k + 1))), (0, .ref (ad 0 0)), (1, .int (nI b))] := hl
      refine lv_goto E1 E2 d_Mo_choose_139 rfl ?_
      have hq : (bd_Mo_choose b k q) = q := if_pos h1
      rw [hq] at kk
      exact kk _ _ ls (lv_sub hl [1, 2, 0] rfl) h
    · have h1 : ¬ (q.1 12 (4 * b + k) ≤ 0) := h1
      refine lv_aload_n E1 E2 d_Mo_choose_59 rfl (lv_at hl 0 rfl) ?_
      refine g_Mo_info F h k_712 d_Mo_choose_60 ?_
      refine lv_iload_n E1 E2 d_Mo_choose_63 rfl (lv_at hl 2 rfl) ?_
      refine ml_info F h (i := 4 * b + k) (by omega) (v := q.2.2.1 10 (4 * b + k)) rfl d_Mo_choose_64 ?_
      refine bn_calli F h (bn_runS (n := 1) (As := [.long (q.2.2.1 10 (4 * b + k))]) (rest := []) F hml hl.1 h (c_Mo_teller l D ar ad q (q.2.2.1 10 (4 * b + k)) _) (bn_goodS k_848 k_849 k_7 k_850) rfl rfl (by decide) ⟨by decide, by decide⟩ rfl rfl (Nat.le_of_ble_eq_true rfl) d_Mo_choose_65 ⟨Nat.zero_le _, Nat.zero_le _⟩) (fun H locs h => ?_)
      refine lv_bipush (v := 8) E1 E2 d_Mo_choose_68 (by decide) ?_
      refine lv_ishr E1 E2 d_Mo_choose_70 ?_
      refine lv_aload_n E1 E2 d_Mo_choose_71 rfl (lv_at hl 0 rfl) ?_
      refine lv_iload_n E1 E2 d_Mo_choose_72 rfl (lv_at hl 1 rfl) ?_
      refine bn_calli F h (bn_runV (n := 1) (As := [.int (nI b)]) (rest := [.int ((r_Mo_teller q (q.2.2.1 10 (4 * b + k))) >>> (8 &&& 31))]) F hml hl.1 h mi_0 rfl rfl (c_Mo_id l D ar ad q b (by omega) _) (bn_goodV k_844 k_846 ks_Mo_id k_7 k_847) rfl rfl (by decide) ⟨by decide, by decide⟩ rfl rfl (Nat.le_of_ble_eq_true rfl) d_Mo_choose_73 ⟨Nat.zero_le _, Nat.zero_le _⟩) (fun H locs h => ?_)
      refine lv_icmp_eq E1 E2 d_Mo_choose_76 rfl (fun h2 => ?_) (fun h2 => ?_)
      · have h2 : (r_Mo_teller q (q.2.2.1 10 (4 * b + k))) >>> (8 &&& 31) = r_Mo_id q b := h2
        refine lv_iinc (v := (nI (4 * b + k + 1))) E1 E2 d_Mo_choose_136 hl (k := 2) rfl (nI_1 _) (by decide) rfl (fun ls hl => ?_)
        have hl : lv_has ls 5 [(2, .int (nI (4 * b + k + 1))), (0, .ref (ad 0 0)), (1, .int (nI b))] := hl
        refine lv_goto E1 E2 d_Mo_choose_139 rfl ?_
        have hq : (bd_Mo_choose b k q) = q := Eq.trans (if_neg h1) (if_pos h2)
        rw [hq] at kk
        exact kk _ _ ls (lv_sub hl [1, 2, 0] rfl) h
      · have h2 : ¬ ((r_Mo_teller q (q.2.2.1 10 (4 * b + k))) >>> (8 &&& 31) = r_Mo_id q b) := h2
        refine lv_aload_n E1 E2 d_Mo_choose_79 rfl (lv_at hl 0 rfl) ?_
        refine g_Mo_info F h k_712 d_Mo_choose_80 ?_
        refine lv_iload_n E1 E2 d_Mo_choose_83 rfl (lv_at hl 2 rfl) ?_
        refine ml_info F h (i := 4 * b + k) (by omega) (v := q.2.2.1 10 (4 * b + k)) rfl d_Mo_choose_84 ?_
        refine lv_aload_n E1 E2 d_Mo_choose_85 rfl (lv_at hl 0 rfl) ?_
        refine g_Mo_cost F h k_704 d_Mo_choose_86 ?_
        refine lv_iload_n E1 E2 d_Mo_choose_89 rfl (lv_at hl 2 rfl) ?_
        refine ml_cost F h (i := 4 * b + k) (by omega) (v := q.1 2 (4 * b + k)) rfl d_Mo_choose_90 ?_
        refine lv_i2l (v := Int32.toInt64 (q.1 2 (4 * b + k))) E1 E2 d_Mo_choose_91 rfl ?_
        refine lv_bipush (v := 24) E1 E2 d_Mo_choose_92 (by decide) ?_
        refine lv_lshl (v := (Int32.toInt64 (q.1 2 (4 * b + k))) <<< (Int32.toInt64 24 &&& 63)) E1 E2 d_Mo_choose_94 rfl ?_
        refine lv_ladd E1 E2 d_Mo_choose_95 ?_
        refine lv_lstore_n E1 E2 d_Mo_choose_96 rfl hl (by decide) rfl (fun ls hl => ?_)
        have hl : lv_has ls 5 [(3, .long ((q.2.2.1 10 (4 * b + k)) + ((Int32.toInt64 (q.1 2 (4 * b + k))) <<< (Int32.toInt64 24 &&& 63)))), (0, .ref (ad 0 0)), (1, .int (nI b)), (2, .int (nI (4 * b + k)))] := hl
        refine lv_lload_n E1 E2 d_Mo_choose_97 rfl (lv_at hl 0 rfl) ?_
        refine lv_aload_n E1 E2 d_Mo_choose_98 rfl (lv_at hl 1 rfl) ?_
        refine g_Mo_best F h k_724 d_Mo_choose_99 ?_
        refine lv_iload_n E1 E2 d_Mo_choose_102 rfl (lv_at hl 2 rfl) ?_
        refine ml_best F h (i := b) (by omega) (v := q.2.2.1 22 b) rfl d_Mo_choose_103 ?_
        refine W.lcmp E1 E2 d_Mo_choose_104 ?_
        refine lv_if_ge E1 E2 d_Mo_choose_105 rfl (fun h3 => ?_) (fun h3 => ?_)
        · have h3 : (q.2.2.1 22 b) ≤ ((q.2.2.1 10 (4 * b + k)) + ((Int32.toInt64 (q.1 2 (4 * b + k))) <<< (Int32.toInt64 24 &&& 63))) := ((lg_cmp_ge _ _).mp h3)
          refine lv_iinc (v := (nI (4 * b + k + 1))) E1 E2 d_Mo_choose_136 hl (k := 3) rfl (nI_1 _) (by decide) rfl (fun ls hl => ?_)
          have hl : lv_has ls 5 [(2, .int (nI (4 * b + k + 1))), (3, .long ((q.2.2.1 10 (4 * b + k)) + ((Int32.toInt64 (q.1 2 (4 * b + k))) <<< (Int32.toInt64 24 &&& 63)))), (0, .ref (ad 0 0)), (1, .int (nI b))] := hl
          refine lv_goto E1 E2 d_Mo_choose_139 rfl ?_
          have hq : (bd_Mo_choose b k q) = q := Eq.trans (if_neg h1) (Eq.trans (if_neg h2) (if_pos h3))
          rw [hq] at kk
          exact kk _ _ ls (lv_sub hl [2, 3, 0] rfl) h
        · have h3 : ¬ ((q.2.2.1 22 b) ≤ ((q.2.2.1 10 (4 * b + k)) + ((Int32.toInt64 (q.1 2 (4 * b + k))) <<< (Int32.toInt64 24 &&& 63)))) := (fun hw => h3 ((lg_cmp_ge _ _).mpr hw))
          refine lv_aload_n E1 E2 d_Mo_choose_108 rfl (lv_at hl 1 rfl) ?_
          refine g_Mo_best F h k_724 d_Mo_choose_109 ?_
          refine lv_iload_n E1 E2 d_Mo_choose_112 rfl (lv_at hl 2 rfl) ?_
          refine lv_lload_n E1 E2 d_Mo_choose_113 rfl (lv_at hl 0 rfl) ?_
          refine ms_best F h (i := b) (by omega) (v := (q.2.2.1 10 (4 * b + k)) + ((Int32.toInt64 (q.1 2 (4 * b + k))) <<< (Int32.toInt64 24 &&& 63))) d_Mo_choose_114 (fun H locs h => ?_)
          have h : bn_H (mo_y D ar ad) s.heap H locs (sJ q 22 b ((q.2.2.1 10 (4 * b + k)) + ((Int32.toInt64 (q.1 2 (4 * b + k))) <<< (Int32.toInt64 24 &&& 63)))) := h
          refine lv_aload_n E1 E2 d_Mo_choose_115 rfl (lv_at hl 1 rfl) ?_
          refine g_Mo_hops F h k_725 d_Mo_choose_116 ?_
          refine lv_iload_n E1 E2 d_Mo_choose_119 rfl (lv_at hl 2 rfl) ?_
          refine lv_aload_n E1 E2 d_Mo_choose_120 rfl (lv_at hl 1 rfl) ?_
          refine g_Mo_infoHops F h k_713 d_Mo_choose_121 ?_
          refine lv_iload_n E1 E2 d_Mo_choose_124 rfl (lv_at hl 3 rfl) ?_
          refine ml_infoHops F h (i := 4 * b + k) (by omega) (v := q.1 11 (4 * b + k)) rfl d_Mo_choose_125 ?_
          refine lv_iconst (v := 1) E1 E2 d_Mo_choose_126 (by decide) ?_
          refine lv_iadd E1 E2 d_Mo_choose_127 ?_
          refine ms_hops F h (i := b) (by omega) (v := (q.1 11 (4 * b + k)) + 1) d_Mo_choose_128 (fun H locs h => ?_)
          have h : bn_H (mo_y D ar ad) s.heap H locs (sI (sJ q 22 b ((q.2.2.1 10 (4 * b + k)) + ((Int32.toInt64 (q.1 2 (4 * b + k))) <<< (Int32.toInt64 24 &&& 63)))) 23 b ((q.1 11 (4 * b + k)) + 1)) := h
          refine lv_aload_n E1 E2 d_Mo_choose_129 rfl (lv_at hl 1 rfl) ?_
          refine g_Mo_rootPort F h k_726 d_Mo_choose_130 ?_
          refine lv_iload_n E1 E2 d_Mo_choose_133 rfl (lv_at hl 2 rfl) ?_
          refine lv_iload_n E1 E2 d_Mo_choose_134 rfl (lv_at hl 3 rfl) ?_
          refine ms_rootPort F h (i := b) (by omega) (v := nI (4 * b + k)) d_Mo_choose_135 (fun H locs h => ?_)
          have h : bn_H (mo_y D ar ad) s.heap H locs (sI (sI (sJ q 22 b ((q.2.2.1 10 (4 * b + k)) + ((Int32.toInt64 (q.1 2 (4 * b + k))) <<< (Int32.toInt64 24 &&& 63)))) 23 b ((q.1 11 (4 * b + k)) + 1)) 24 b (nI (4 * b + k))) := h
          refine lv_iinc (v := (nI (4 * b + k + 1))) E1 E2 d_Mo_choose_136 hl (k := 3) rfl (nI_1 _) (by decide) rfl (fun ls hl => ?_)
          have hl : lv_has ls 5 [(2, .int (nI (4 * b + k + 1))), (3, .long ((q.2.2.1 10 (4 * b + k)) + ((Int32.toInt64 (q.1 2 (4 * b + k))) <<< (Int32.toInt64 24 &&& 63)))), (0, .ref (ad 0 0)), (1, .int (nI b))] := hl
          refine lv_goto E1 E2 d_Mo_choose_139 rfl ?_
          have hq : (bd_Mo_choose b k q) = (sI (sI (sJ q 22 b ((q.2.2.1 10 (4 * b + k)) + ((Int32.toInt64 (q.1 2 (4 * b + k))) <<< (Int32.toInt64 24 &&& 63)))) 23 b ((q.1 11 (4 * b + k)) + 1)) 24 b (nI (4 * b + k))) := Eq.trans (if_neg h1) (Eq.trans (if_neg h2) (if_neg h3))
          rw [hq] at kk
          exact kk _ _ ls (lv_sub hl [2, 3, 0] rfl) h
  refine hs41 _ 0 (by decide) (sI (sI (sJ N 22 b (r_Mo_vector N (Int32.toInt64 (r_Mo_id N b)) 0 (Int32.toInt64 (r_Mo_id N b)) 0)) 23 b 0) 24 b (-1)) _ _ ls (lv_sub hl [1, 2, 0] rfl) h (fun H locs ls hl h => ?_)
  rw [it_Mo_choose_0] at h
  refine hs41 _ 1 (by decide) (it_Mo_choose b (sI (sI (sJ N 22 b (r_Mo_vector N (Int32.toInt64 (r_Mo_id N b)) 0 (Int32.toInt64 (r_Mo_id N b)) 0)) 23 b 0) 24 b (-1)) 1) _ _ ls hl h (fun H locs ls hl h => ?_)
  rw [it_Mo_choose_s] at h
  refine hs41 _ 2 (by decide) (it_Mo_choose b (sI (sI (sJ N 22 b (r_Mo_vector N (Int32.toInt64 (r_Mo_id N b)) 0 (Int32.toInt64 (r_Mo_id N b)) 0)) 23 b 0) 24 b (-1)) 2) _ _ ls hl h (fun H locs ls hl h => ?_)
  rw [it_Mo_choose_s] at h
  refine hs41 _ 3 (by decide) (it_Mo_choose b (sI (sI (sJ N 22 b (r_Mo_vector N (Int32.toInt64 (r_Mo_id N b)) 0 (Int32.toInt64 (r_Mo_id N b)) 0)) 23 b 0) 24 b (-1)) 3) _ _ ls hl h (fun H locs ls hl h => ?_)
  rw [it_Mo_choose_s] at h
  have hl : lv_has ls 5 [(0, .ref (ad 0 0)), (1, .int (nI b)), (2, .int (nI (4 * b + 4)))] := hl
  have h : bn_H (mo_y D ar ad) s.heap H locs (it_Mo_choose b (sI (sI (sJ N 22 b (r_Mo_vector N (Int32.toInt64 (r_Mo_id N b)) 0 (Int32.toInt64 (r_Mo_id N b)) 0)) 23 b 0) 24 b (-1)) 4) := h
  refine lv_iload_n E1 E2 d_Mo_choose_41 rfl (lv_at hl 2 rfl) ?_
  refine lv_iconst (v := 4) E1 E2 d_Mo_choose_42 (by decide) ?_
  refine lv_iload_n E1 E2 d_Mo_choose_43 rfl (lv_at hl 1 rfl) ?_
  refine lv_imul E1 E2 d_Mo_choose_44 ?_
  refine bn_ti (y := nI (4 * b)) (pk_mul 4 b) ?_
  refine lv_iconst (v := 4) E1 E2 d_Mo_choose_45 (by decide) ?_
  refine lv_iadd E1 E2 d_Mo_choose_46 ?_
  refine bn_ti (y := nI ((4 * b) + 4)) (nI_add (4 * b) 4) ?_
  refine lv_icmp_ge E1 E2 d_Mo_choose_47 rfl (fun _ => ?_) (fun hz => absurd ((nI_leI (a := (4 * b) + 4) (b := 4 * b + 4) (by omega) (by omega)).mpr (by omega)) hz)
  have hq : o_Mo_choose N b = (it_Mo_choose b (sI (sI (sJ N 22 b (r_Mo_vector N (Int32.toInt64 (r_Mo_id N b)) 0 (Int32.toInt64 (r_Mo_id N b)) 0)) 23 b 0) 24 b (-1)) 4) := rfl
  exact bn_retv F hr hk h hq.symm d_Mo_choose_142
