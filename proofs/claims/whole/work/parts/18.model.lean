/-! contracts of the reference, written by wip/whole/gen_model.py -/
def o_Mo_attach (N : bn_S) (sa : Int32) (ba : Int32) (pa : Int32) (va : Int32) : bn_S := (if sa < 0 then (sI N 41 0 1) else (if 7 < sa then (sI N 41 0 1) else (if r_Mo_isPort N ba pa = 0 then (sI N 41 0 1) else (if va < 1 then (sI N 41 0 2) else (if va ≤ 2 then (if (N.2.1 4 (4 * (ba.toNatClampNeg) + (pa.toNatClampNeg))) = 0 then (if N.1 27 (sa.toNatClampNeg) < 0 then (o_Mo_compute (o_Mo_clear (sU (sU (sI (sI N 41 0 0) 27 (sa.toNatClampNeg) (nI (4 * (ba.toNatClampNeg) + (pa.toNatClampNeg)))) 28 (sa.toNatClampNeg) (va.toNatClampNeg)) 4 (4 * (ba.toNatClampNeg) + (pa.toNatClampNeg)) (100 + (sa.toNatClampNeg))) (4 * (ba.toNatClampNeg) + (pa.toNatClampNeg))) (ba.toNatClampNeg)) else (o_Mo_compute (o_Mo_clear (sU (sU (sI (o_Mo_compute (o_Mo_clear (sU (sI N 41 0 0) 4 ((N.1 27 (sa.toNatClampNeg)).toNatClampNeg) 0) ((N.1 27 (sa.toNatClampNeg)).toNatClampNeg)) (((N.1 27 (sa.toNatClampNeg)).toNatClampNeg) / 4)) 27 (sa.toNatClampNeg) (nI (4 * (ba.toNatClampNeg) + (pa.toNatClampNeg)))) 28 (sa.toNatClampNeg) (va.toNatClampNeg)) 4 (4 * (ba.toNatClampNeg) + (pa.toNatClampNeg)) (100 + (sa.toNatClampNeg))) (4 * (ba.toNatClampNeg) + (pa.toNatClampNeg))) (ba.toNatClampNeg))) else (sI N 41 0 3)) else (sI N 41 0 2))))))
set_option maxHeartbeats 4000000 in
set_option maxRecDepth 100000 in
theorem c_Mo_attach (l : Launch) (D : va_G) (ar : Nat → ClassId) (ad : Nat → Nat → Nat) (N : bn_S)  (sa : Int32) (ba : Int32) (pa : Int32) (va : Int32) : bn_V l y_Mo_attach w_Mo_attach { frames := 5, cells := 0, slots := 0, locals := 120 } (mo_y D ar ad) N [.ref (ad 0 0), .int sa, .int ba, .int pa, .int va] (o_Mo_attach N sa ba pa va) := by
  intro sz
  refine bn_start (cc := b_Mo_attach) (maxL := 7) (ret := (Option.none : Option Jvm.ClassFile.FieldType)) (by decide) rfl (Nat.le_of_ble_eq_true rfl) ?_
  intro p e s m args below meth c ls hsz F hml hr hk hl h
  subst hsz
  have E1 := F.1
  have E2 := F.2.1
  have hl : lv_has ls 7 [(0, .ref (ad 0 0)), (1, .int sa), (2, .int ba), (3, .int pa), (4, .int va)] := hl
  refine lv_iconst (v := 4) E1 E2 d_Mo_attach_0 (by decide) ?_
  refine lv_iload_n E1 E2 d_Mo_attach_1 rfl (lv_at hl 2 rfl) ?_
  refine lv_imul E1 E2 d_Mo_attach_2 ?_
  refine lv_iload_n E1 E2 d_Mo_attach_3 rfl (lv_at hl 3 rfl) ?_
  refine lv_iadd E1 E2 d_Mo_attach_4 ?_
  refine lv_istore E1 E2 d_Mo_attach_5 hl (by decide) rfl (fun ls hl => ?_)
  have hl : lv_has ls 7 [(5, .int ((4 * ba) + pa)), (0, .ref (ad 0 0)), (1, .int sa), (2, .int ba), (3, .int pa), (4, .int va)] := hl
  refine lv_aload_n E1 E2 d_Mo_attach_7 rfl (lv_at hl 1 rfl) ?_
  refine lv_iload_n E1 E2 d_Mo_attach_8 rfl (lv_at hl 2 rfl) ?_
  refine lv_if_lt E1 E2 d_Mo_attach_9 rfl (fun h1 => ?_) (fun h1 => ?_)
  · have h1 : sa < 0 := h1
    refine lv_iconst (v := 1) E1 E2 d_Mo_attach_26 (by decide) ?_
    refine lv_goto E1 E2 d_Mo_attach_27 rfl ?_
    refine p_Mo_thrown F h k_701 d_Mo_attach_61 (fun H locs h => ?_)
    have h : bn_H (mo_y D ar ad) s.heap H locs (sI N 41 0 1) := h
    refine lv_aload_n E1 E2 d_Mo_attach_64 rfl (lv_at hl 1 rfl) ?_
    refine g_Mo_thrown F h k_701 (v := 1) (bn_up_s N.1 41 0 1) d_Mo_attach_65 ?_
    refine lv_if_eq E1 E2 d_Mo_attach_68 rfl (fun hz => absurd hz (by decide)) (fun _ => ?_)
    have hq : o_Mo_attach N sa ba pa va = (sI N 41 0 1) := if_pos h1
    exact bn_retv F hr hk h hq.symm d_Mo_attach_71
  · have h1 : ¬ (sa < 0) := h1
    refine lv_iload_n E1 E2 d_Mo_attach_12 rfl (lv_at hl 2 rfl) ?_
    refine lv_bipush (v := 7) E1 E2 d_Mo_attach_13 (by decide) ?_
    refine lv_icmp_gt E1 E2 d_Mo_attach_15 rfl (fun h2 => ?_) (fun h2 => ?_)
    · have h2 : 7 < sa := h2
      refine lv_iconst (v := 1) E1 E2 d_Mo_attach_26 (by decide) ?_
      refine lv_goto E1 E2 d_Mo_attach_27 rfl ?_
      refine p_Mo_thrown F h k_701 d_Mo_attach_61 (fun H locs h => ?_)
      have h : bn_H (mo_y D ar ad) s.heap H locs (sI N 41 0 1) := h
      refine lv_aload_n E1 E2 d_Mo_attach_64 rfl (lv_at hl 1 rfl) ?_
      refine g_Mo_thrown F h k_701 (v := 1) (bn_up_s N.1 41 0 1) d_Mo_attach_65 ?_
      refine lv_if_eq E1 E2 d_Mo_attach_68 rfl (fun hz => absurd hz (by decide)) (fun _ => ?_)
      have hq : o_Mo_attach N sa ba pa va = (sI N 41 0 1) := Eq.trans (if_neg h1) (if_pos h2)
      exact bn_retv F hr hk h hq.symm d_Mo_attach_71
    · have h2 : ¬ (7 < sa) := h2
      refine lv_iload_n E1 E2 d_Mo_attach_18 rfl (lv_at hl 3 rfl) ?_
      refine lv_iload_n E1 E2 d_Mo_attach_19 rfl (lv_at hl 4 rfl) ?_
      refine bn_calli F h (bn_runS (n := 2) (As := [.int ba, .int pa]) (rest := [.ref (ad 0 0)]) F hml hl.1 h (c_Mo_isPort l D ar ad N ba pa _) (bn_goodS k_807 k_808 k_7 k_809) rfl rfl (by decide) ⟨by decide, by decide⟩ rfl rfl (Nat.le_of_ble_eq_true rfl) d_Mo_attach_20 ⟨Nat.zero_le _, Nat.zero_le _⟩) (fun H locs h => ?_)
      refine lv_if_ne E1 E2 d_Mo_attach_23 rfl (fun h3 => ?_) (fun h3 => ?_)
      · have h3 : ¬ (r_Mo_isPort N ba pa = 0) := h3
        refine lv_iload E1 E2 d_Mo_attach_30 (lv_at hl 5 rfl) ?_
        refine lv_iconst (v := 1) E1 E2 d_Mo_attach_32 (by decide) ?_
        refine lv_icmp_lt E1 E2 d_Mo_attach_33 rfl (fun h4 => ?_) (fun h4 => ?_)
        · have h4 : va < 1 := h4
          refine lv_iconst (v := 2) E1 E2 d_Mo_attach_42 (by decide) ?_
          refine lv_goto E1 E2 d_Mo_attach_43 rfl ?_
          refine p_Mo_thrown F h k_701 d_Mo_attach_61 (fun H locs h => ?_)
          have h : bn_H (mo_y D ar ad) s.heap H locs (sI N 41 0 2) := h
          refine lv_aload_n E1 E2 d_Mo_attach_64 rfl (lv_at hl 1 rfl) ?_
          refine g_Mo_thrown F h k_701 (v := 2) (bn_up_s N.1 41 0 2) d_Mo_attach_65 ?_
          refine lv_if_eq E1 E2 d_Mo_attach_68 rfl (fun hz => absurd hz (by decide)) (fun _ => ?_)
          have hq : o_Mo_attach N sa ba pa va = (sI N 41 0 2) := Eq.trans (if_neg h1) (Eq.trans (if_neg h2) (Eq.trans (if_neg h3) (if_pos h4)))
          exact bn_retv F hr hk h hq.symm d_Mo_attach_71
        · have h4 : ¬ (va < 1) := h4
          refine lv_iload E1 E2 d_Mo_attach_36 (lv_at hl 5 rfl) ?_
          refine lv_iconst (v := 2) E1 E2 d_Mo_attach_38 (by decide) ?_
          refine lv_icmp_le E1 E2 d_Mo_attach_39 rfl (fun h5 => ?_) (fun h5 => ?_)
          · have h5 : va ≤ 2 := h5
            refine lv_aload_n E1 E2 d_Mo_attach_46 rfl (lv_at hl 1 rfl) ?_
            refine g_Mo_joined F h k_706 d_Mo_attach_47 ?_
            refine lv_iload E1 E2 d_Mo_attach_50 (lv_at hl 0 rfl) ?_
            have hn_ba := bn_isPb h3
            have hn_ba2 := hn_ba.2
            have hn_pa := bn_isPp h3
            have hn_pa2 := hn_pa.2
            refine bn_ti (mo_4bp hn_ba.1 hn_pa.1) ?_
            refine ml_joined F h (i := 4 * (ba.toNatClampNeg) + (pa.toNatClampNeg)) (by omega) (v := N.2.1 4 (4 * (ba.toNatClampNeg) + (pa.toNatClampNeg))) rfl d_Mo_attach_52 ?_
            have hwjoined : N.2.1 4 (4 * (ba.toNatClampNeg) + (pa.toNatClampNeg)) < 108 := mw_joined h.2.2.2 (4 * (ba.toNatClampNeg) + (pa.toNatClampNeg))
            refine lv_if_eq E1 E2 d_Mo_attach_53 rfl (fun h6 => ?_) (fun h6 => ?_)
            · have h6 : (N.2.1 4 (4 * (ba.toNatClampNeg) + (pa.toNatClampNeg))) = 0 := ((nI_eq (a := N.2.1 4 (4 * (ba.toNatClampNeg) + (pa.toNatClampNeg))) (b := 0) (by omega) (by omega)).mp h6)
              refine lv_iconst (v := 0) E1 E2 d_Mo_attach_60 (by decide) ?_
              refine p_Mo_thrown F h k_701 d_Mo_attach_61 (fun H locs h => ?_)
              have h : bn_H (mo_y D ar ad) s.heap H locs (sI N 41 0 0) := h
              refine lv_aload_n E1 E2 d_Mo_attach_64 rfl (lv_at hl 1 rfl) ?_
              refine g_Mo_thrown F h k_701 (v := 0) (bn_up_s N.1 41 0 0) d_Mo_attach_65 ?_
              refine lv_if_eq E1 E2 d_Mo_attach_68 rfl (fun _ => ?_) (fun hz => absurd hz (by decide))
              refine lv_aload_n E1 E2 d_Mo_attach_72 rfl (lv_at hl 1 rfl) ?_
              refine g_Mo_at F h k_729 d_Mo_attach_73 ?_
              refine lv_iload_n E1 E2 d_Mo_attach_76 rfl (lv_at hl 2 rfl) ?_
              have hn_sa := bn_natlt (n := 7) h1 h2 (by decide)
              have hn_sa2 := hn_sa.2
              refine bn_ti hn_sa.1 ?_
              refine ml_at F h (i := sa.toNatClampNeg) (by omega) (v := N.1 27 (sa.toNatClampNeg)) rfl d_Mo_attach_77 ?_
              refine lv_if_lt E1 E2 d_Mo_attach_78 rfl (fun h7 => ?_) (fun h7 => ?_)
              · have h7 : N.1 27 (sa.toNatClampNeg) < 0 := h7
                refine lv_aload_n E1 E2 d_Mo_attach_111 rfl (lv_at hl 1 rfl) ?_
                refine g_Mo_at F h k_729 d_Mo_attach_112 ?_
                refine lv_iload_n E1 E2 d_Mo_attach_115 rfl (lv_at hl 2 rfl) ?_
                refine bn_ti hn_sa.1 ?_
                refine lv_iload E1 E2 d_Mo_attach_116 (lv_at hl 0 rfl) ?_
                refine bn_ti (mo_4bp hn_ba.1 hn_pa.1) ?_
                refine ms_at F h (i := sa.toNatClampNeg) (by omega) (v := 4 * (ba.toNatClampNeg) + (pa.toNatClampNeg)) (by omega) d_Mo_attach_118 (fun H locs h => ?_)
                have h : bn_H (mo_y D ar ad) s.heap H locs (sI (sI N 41 0 0) 27 (sa.toNatClampNeg) (nI (4 * (ba.toNatClampNeg) + (pa.toNatClampNeg)))) := h
                refine lv_aload_n E1 E2 d_Mo_attach_119 rfl (lv_at hl 1 rfl) ?_
                refine g_Mo_in F h k_730 d_Mo_attach_120 ?_
                refine lv_iload_n E1 E2 d_Mo_attach_123 rfl (lv_at hl 2 rfl) ?_
                refine bn_ti hn_sa.1 ?_
                refine lv_iload E1 E2 d_Mo_attach_124 (lv_at hl 5 rfl) ?_
                have hn_va := bn_natlt1 (n := 2) h4 (Int32.not_lt.mpr h5) (by decide)
                have hn_va2 := hn_va.2
                refine bn_ti hn_va.1 ?_
                refine ms_in F h (i := sa.toNatClampNeg) (by omega) (v := va.toNatClampNeg) (by omega) d_Mo_attach_126 (fun H locs h => ?_)
                have h : bn_H (mo_y D ar ad) s.heap H locs (sU (sI (sI N 41 0 0) 27 (sa.toNatClampNeg) (nI (4 * (ba.toNatClampNeg) + (pa.toNatClampNeg)))) 28 (sa.toNatClampNeg) (va.toNatClampNeg)) := h
                refine lv_aload_n E1 E2 d_Mo_attach_127 rfl (lv_at hl 1 rfl) ?_
                refine g_Mo_joined F h k_706 d_Mo_attach_128 ?_
                refine lv_iload E1 E2 d_Mo_attach_131 (lv_at hl 0 rfl) ?_
                refine bn_ti (mo_4bp hn_ba.1 hn_pa.1) ?_
                refine lv_bipush (v := 100) E1 E2 d_Mo_attach_133 (by decide) ?_
                refine lv_iload_n E1 E2 d_Mo_attach_135 rfl (lv_at hl 2 rfl) ?_
                refine bn_ti hn_sa.1 ?_
                refine lv_iadd E1 E2 d_Mo_attach_136 ?_
                refine bn_ti (y := nI (100 + (sa.toNatClampNeg))) (nI_add 100 (sa.toNatClampNeg)) ?_
                refine ms_joined F h (i := 4 * (ba.toNatClampNeg) + (pa.toNatClampNeg)) (by omega) (v := 100 + (sa.toNatClampNeg)) (by omega) (by omega) d_Mo_attach_137 (fun H locs h => ?_)
                have h : bn_H (mo_y D ar ad) s.heap H locs (sU (sU (sI (sI N 41 0 0) 27 (sa.toNatClampNeg) (nI (4 * (ba.toNatClampNeg) + (pa.toNatClampNeg)))) 28 (sa.toNatClampNeg) (va.toNatClampNeg)) 4 (4 * (ba.toNatClampNeg) + (pa.toNatClampNeg)) (100 + (sa.toNatClampNeg))) := h
                refine lv_aload_n E1 E2 d_Mo_attach_138 rfl (lv_at hl 1 rfl) ?_
                refine lv_iload E1 E2 d_Mo_attach_139 (lv_at hl 0 rfl) ?_
                refine bn_ti (mo_4bp hn_ba.1 hn_pa.1) ?_
                refine bn_callv F h (bn_runV (n := 1) (As := [.int (nI (4 * (ba.toNatClampNeg) + (pa.toNatClampNeg)))]) (rest := []) F hml hl.1 h mi_0 rfl rfl (c_Mo_clear l D ar ad (sU (sU (sI (sI N 41 0 0) 27 (sa.toNatClampNeg) (nI (4 * (ba.toNatClampNeg) + (pa.toNatClampNeg)))) 28 (sa.toNatClampNeg) (va.toNatClampNeg)) 4 (4 * (ba.toNatClampNeg) + (pa.toNatClampNeg)) (100 + (sa.toNatClampNeg))) (4 * (ba.toNatClampNeg) + (pa.toNatClampNeg)) (by omega) _) (bn_goodV k_925 k_927 ks_Mo_clear k_7 k_928) rfl rfl (by decide) ⟨by decide, by decide⟩ rfl rfl (Nat.le_of_ble_eq_true rfl) d_Mo_attach_141 ⟨Nat.zero_le _, Nat.zero_le _⟩) (fun H locs h => ?_)
                have h : bn_H (mo_y D ar ad) s.heap H locs (o_Mo_clear (sU (sU (sI (sI N 41 0 0) 27 (sa.toNatClampNeg) (nI (4 * (ba.toNatClampNeg) + (pa.toNatClampNeg)))) 28 (sa.toNatClampNeg) (va.toNatClampNeg)) 4 (4 * (ba.toNatClampNeg) + (pa.toNatClampNeg)) (100 + (sa.toNatClampNeg))) (4 * (ba.toNatClampNeg) + (pa.toNatClampNeg))) := h
                refine lv_aload_n E1 E2 d_Mo_attach_144 rfl (lv_at hl 1 rfl) ?_
                refine lv_iload_n E1 E2 d_Mo_attach_145 rfl (lv_at hl 3 rfl) ?_
                refine bn_ti hn_ba.1 ?_
                refine bn_callv F h (bn_runV (n := 1) (As := [.int (nI (ba.toNatClampNeg))]) (rest := []) F hml hl.1 h mi_0 rfl rfl (c_Mo_compute l D ar ad (o_Mo_clear (sU (sU (sI (sI N 41 0 0) 27 (sa.toNatClampNeg) (nI (4 * (ba.toNatClampNeg) + (pa.toNatClampNeg)))) 28 (sa.toNatClampNeg) (va.toNatClampNeg)) 4 (4 * (ba.toNatClampNeg) + (pa.toNatClampNeg)) (100 + (sa.toNatClampNeg))) (4 * (ba.toNatClampNeg) + (pa.toNatClampNeg))) (ba.toNatClampNeg) (by omega) _) (bn_goodV k_829 k_831 ks_Mo_compute k_7 k_832) rfl rfl (by decide) ⟨by decide, by decide⟩ rfl rfl (Nat.le_of_ble_eq_true rfl) d_Mo_attach_146 ⟨Nat.zero_le _, Nat.zero_le _⟩) (fun H locs h => ?_)
                have h : bn_H (mo_y D ar ad) s.heap H locs (o_Mo_compute (o_Mo_clear (sU (sU (sI (sI N 41 0 0) 27 (sa.toNatClampNeg) (nI (4 * (ba.toNatClampNeg) + (pa.toNatClampNeg)))) 28 (sa.toNatClampNeg) (va.toNatClampNeg)) 4 (4 * (ba.toNatClampNeg) + (pa.toNatClampNeg)) (100 + (sa.toNatClampNeg))) (4 * (ba.toNatClampNeg) + (pa.toNatClampNeg))) (ba.toNatClampNeg)) := h
                have hq : o_Mo_attach N sa ba pa va = (o_Mo_compute (o_Mo_clear (sU (sU (sI (sI N 41 0 0) 27 (sa.toNatClampNeg) (nI (4 * (ba.toNatClampNeg) + (pa.toNatClampNeg)))) 28 (sa.toNatClampNeg) (va.toNatClampNeg)) 4 (4 * (ba.toNatClampNeg) + (pa.toNatClampNeg)) (100 + (sa.toNatClampNeg))) (4 * (ba.toNatClampNeg) + (pa.toNatClampNeg))) (ba.toNatClampNeg)) := Eq.trans (if_neg h1) (Eq.trans (if_neg h2) (Eq.trans (if_neg h3) (Eq.trans (if_neg h4) (Eq.trans (if_pos h5) (Eq.trans (if_pos h6) (if_pos h7))))))
                exact bn_retv F hr hk h hq.symm d_Mo_attach_149
              · have h7 : ¬ (N.1 27 (sa.toNatClampNeg) < 0) := h7
                refine lv_aload_n E1 E2 d_Mo_attach_81 rfl (lv_at hl 1 rfl) ?_
                refine g_Mo_at F h k_729 d_Mo_attach_82 ?_
                refine lv_iload_n E1 E2 d_Mo_attach_85 rfl (lv_at hl 2 rfl) ?_
                refine bn_ti hn_sa.1 ?_
                refine ml_at F h (i := sa.toNatClampNeg) (by omega) (v := N.1 27 (sa.toNatClampNeg)) rfl d_Mo_attach_86 ?_
                have hat : N.1 27 (sa.toNatClampNeg) = nI (N.1 27 (sa.toNatClampNeg)).toNatClampNeg ∧ (N.1 27 (sa.toNatClampNeg)).toNatClampNeg < 20 := h.2.2.2.2.2 (sa.toNatClampNeg) h7
                have hat2 := hat.2
                refine bn_ti hat.1 ?_
                refine lv_istore E1 E2 d_Mo_attach_87 hl (by decide) rfl (fun ls hl => ?_)
                have hl : lv_has ls 7 [(6, .int (nI ((N.1 27 (sa.toNatClampNeg)).toNatClampNeg))), (5, .int ((4 * ba) + pa)), (0, .ref (ad 0 0)), (1, .int sa), (2, .int ba), (3, .int pa), (4, .int va)] := hl
                refine lv_aload_n E1 E2 d_Mo_attach_89 rfl (lv_at hl 2 rfl) ?_
                refine g_Mo_joined F h k_706 d_Mo_attach_90 ?_
                refine lv_iload E1 E2 d_Mo_attach_93 (lv_at hl 0 rfl) ?_
                refine lv_iconst (v := 0) E1 E2 d_Mo_attach_95 (by decide) ?_
                refine ms_joined F h (i := (N.1 27 (sa.toNatClampNeg)).toNatClampNeg) (by omega) (v := 0) (by omega) (by omega) d_Mo_attach_96 (fun H locs h => ?_)
                have h : bn_H (mo_y D ar ad) s.heap H locs (sU (sI N 41 0 0) 4 ((N.1 27 (sa.toNatClampNeg)).toNatClampNeg) 0) := h
                refine lv_aload_n E1 E2 d_Mo_attach_97 rfl (lv_at hl 2 rfl) ?_
                refine lv_iload E1 E2 d_Mo_attach_98 (lv_at hl 0 rfl) ?_
                refine bn_callv F h (bn_runV (n := 1) (As := [.int (nI ((N.1 27 (sa.toNatClampNeg)).toNatClampNeg))]) (rest := []) F hml hl.1 h mi_0 rfl rfl (c_Mo_clear l D ar ad (sU (sI N 41 0 0) 4 ((N.1 27 (sa.toNatClampNeg)).toNatClampNeg) 0) ((N.1 27 (sa.toNatClampNeg)).toNatClampNeg) (by omega) _) (bn_goodV k_925 k_927 ks_Mo_clear k_7 k_928) rfl rfl (by decide) ⟨by decide, by decide⟩ rfl rfl (Nat.le_of_ble_eq_true rfl) d_Mo_attach_100 ⟨Nat.zero_le _, Nat.zero_le _⟩) (fun H locs h => ?_)
                have h : bn_H (mo_y D ar ad) s.heap H locs (o_Mo_clear (sU (sI N 41 0 0) 4 ((N.1 27 (sa.toNatClampNeg)).toNatClampNeg) 0) ((N.1 27 (sa.toNatClampNeg)).toNatClampNeg)) := h
                refine lv_aload_n E1 E2 d_Mo_attach_103 rfl (lv_at hl 2 rfl) ?_
                refine lv_iload E1 E2 d_Mo_attach_104 (lv_at hl 0 rfl) ?_
                refine lv_iconst (v := 4) E1 E2 d_Mo_attach_106 (by decide) ?_
                refine lv_idiv E1 E2 d_Mo_attach_107 (by decide) ?_
                refine bn_ti (y := nI (((N.1 27 (sa.toNatClampNeg)).toNatClampNeg) / 4)) (pk_div (a := ((N.1 27 (sa.toNatClampNeg)).toNatClampNeg)) (d := 4) (by omega) (by omega) (by omega)) ?_
                refine bn_callv F h (bn_runV (n := 1) (As := [.int (nI (((N.1 27 (sa.toNatClampNeg)).toNatClampNeg) / 4))]) (rest := []) F hml hl.1 h mi_0 rfl rfl (c_Mo_compute l D ar ad (o_Mo_clear (sU (sI N 41 0 0) 4 ((N.1 27 (sa.toNatClampNeg)).toNatClampNeg) 0) ((N.1 27 (sa.toNatClampNeg)).toNatClampNeg)) (((N.1 27 (sa.toNatClampNeg)).toNatClampNeg) / 4) (by omega) _) (bn_goodV k_829 k_831 ks_Mo_compute k_7 k_832) rfl rfl (by decide) ⟨by decide, by decide⟩ rfl rfl (Nat.le_of_ble_eq_true rfl) d_Mo_attach_108 ⟨Nat.zero_le _, Nat.zero_le _⟩) (fun H locs h => ?_)
                have h : bn_H (mo_y D ar ad) s.heap H locs (o_Mo_compute (o_Mo_clear (sU (sI N 41 0 0) 4 ((N.1 27 (sa.toNatClampNeg)).toNatClampNeg) 0) ((N.1 27 (sa.toNatClampNeg)).toNatClampNeg)) (((N.1 27 (sa.toNatClampNeg)).toNatClampNeg) / 4)) := h
                refine lv_aload_n E1 E2 d_Mo_attach_111 rfl (lv_at hl 2 rfl) ?_
                refine g_Mo_at F h k_729 d_Mo_attach_112 ?_
                refine lv_iload_n E1 E2 d_Mo_attach_115 rfl (lv_at hl 3 rfl) ?_
                refine bn_ti hn_sa.1 ?_
                refine lv_iload E1 E2 d_Mo_attach_116 (lv_at hl 1 rfl) ?_
                refine bn_ti (mo_4bp hn_ba.1 hn_pa.1) ?_
                refine ms_at F h (i := sa.toNatClampNeg) (by omega) (v := 4 * (ba.toNatClampNeg) + (pa.toNatClampNeg)) (by omega) d_Mo_attach_118 (fun H locs h => ?_)
                have h : bn_H (mo_y D ar ad) s.heap H locs (sI (o_Mo_compute (o_Mo_clear (sU (sI N 41 0 0) 4 ((N.1 27 (sa.toNatClampNeg)).toNatClampNeg) 0) ((N.1 27 (sa.toNatClampNeg)).toNatClampNeg)) (((N.1 27 (sa.toNatClampNeg)).toNatClampNeg) / 4)) 27 (sa.toNatClampNeg) (nI (4 * (ba.toNatClampNeg) + (pa.toNatClampNeg)))) := h
                refine lv_aload_n E1 E2 d_Mo_attach_119 rfl (lv_at hl 2 rfl) ?_
                refine g_Mo_in F h k_730 d_Mo_attach_120 ?_
                refine lv_iload_n E1 E2 d_Mo_attach_123 rfl (lv_at hl 3 rfl) ?_
                refine bn_ti hn_sa.1 ?_
                refine lv_iload E1 E2 d_Mo_attach_124 (lv_at hl 6 rfl) ?_
                have hn_va := bn_natlt1 (n := 2) h4 (Int32.not_lt.mpr h5) (by decide)
                have hn_va2 := hn_va.2
                refine bn_ti hn_va.1 ?_
                refine ms_in F h (i := sa.toNatClampNeg) (by omega) (v := va.toNatClampNeg) (by omega) d_Mo_attach_126 (fun H locs h => ?_)
                have h : bn_H (mo_y D ar ad) s.heap H locs (sU (sI (o_Mo_compute (o_Mo_clear (sU (sI N 41 0 0) 4 ((N.1 27 (sa.toNatClampNeg)).toNatClampNeg) 0) ((N.1 27 (sa.toNatClampNeg)).toNatClampNeg)) (((N.1 27 (sa.toNatClampNeg)).toNatClampNeg) / 4)) 27 (sa.toNatClampNeg) (nI (4 * (ba.toNatClampNeg) + (pa.toNatClampNeg)))) 28 (sa.toNatClampNeg) (va.toNatClampNeg)) := h
                refine lv_aload_n E1 E2 d_Mo_attach_127 rfl (lv_at hl 2 rfl) ?_
                refine g_Mo_joined F h k_706 d_Mo_attach_128 ?_
                refine lv_iload E1 E2 d_Mo_attach_131 (lv_at hl 1 rfl) ?_
                refine bn_ti (mo_4bp hn_ba.1 hn_pa.1) ?_
                refine lv_bipush (v := 100) E1 E2 d_Mo_attach_133 (by decide) ?_
                refine lv_iload_n E1 E2 d_Mo_attach_135 rfl (lv_at hl 3 rfl) ?_
                refine bn_ti hn_sa.1 ?_
                refine lv_iadd E1 E2 d_Mo_attach_136 ?_
                refine bn_ti (y := nI (100 + (sa.toNatClampNeg))) (nI_add 100 (sa.toNatClampNeg)) ?_
                refine ms_joined F h (i := 4 * (ba.toNatClampNeg) + (pa.toNatClampNeg)) (by omega) (v := 100 + (sa.toNatClampNeg)) (by omega) (by omega) d_Mo_attach_137 (fun H locs h => ?_)
                have h : bn_H (mo_y D ar ad) s.heap H locs (sU (sU (sI (o_Mo_compute (o_Mo_clear (sU (sI N 41 0 0) 4 ((N.1 27 (sa.toNatClampNeg)).toNatClampNeg) 0) ((N.1 27 (sa.toNatClampNeg)).toNatClampNeg)) (((N.1 27 (sa.toNatClampNeg)).toNatClampNeg) / 4)) 27 (sa.toNatClampNeg) (nI (4 * (ba.toNatClampNeg) + (pa.toNatClampNeg)))) 28 (sa.toNatClampNeg) (va.toNatClampNeg)) 4 (4 * (ba.toNatClampNeg) + (pa.toNatClampNeg)) (100 + (sa.toNatClampNeg))) := h
                refine lv_aload_n E1 E2 d_Mo_attach_138 rfl (lv_at hl 2 rfl) ?_
                refine lv_iload E1 E2 d_Mo_attach_139 (lv_at hl 1 rfl) ?_
                refine bn_ti (mo_4bp hn_ba.1 hn_pa.1) ?_
                refine bn_callv F h (bn_runV (n := 1) (As := [.int (nI (4 * (ba.toNatClampNeg) + (pa.toNatClampNeg)))]) (rest := []) F hml hl.1 h mi_0 rfl rfl (c_Mo_clear l D ar ad (sU (sU (sI (o_Mo_compute (o_Mo_clear (sU (sI N 41 0 0) 4 ((N.1 27 (sa.toNatClampNeg)).toNatClampNeg) 0) ((N.1 27 (sa.toNatClampNeg)).toNatClampNeg)) (((N.1 27 (sa.toNatClampNeg)).toNatClampNeg) / 4)) 27 (sa.toNatClampNeg) (nI (4 * (ba.toNatClampNeg) + (pa.toNatClampNeg)))) 28 (sa.toNatClampNeg) (va.toNatClampNeg)) 4 (4 * (ba.toNatClampNeg) + (pa.toNatClampNeg)) (100 + (sa.toNatClampNeg))) (4 * (ba.toNatClampNeg) + (pa.toNatClampNeg)) (by omega) _) (bn_goodV k_925 k_927 ks_Mo_clear k_7 k_928) rfl rfl (by decide) ⟨by decide, by decide⟩ rfl rfl (Nat.le_of_ble_eq_true rfl) d_Mo_attach_141 ⟨Nat.zero_le _, Nat.zero_le _⟩) (fun H locs h => ?_)
                have h : bn_H (mo_y D ar ad) s.heap H locs (o_Mo_clear (sU (sU (sI (o_Mo_compute (o_Mo_clear (sU (sI N 41 0 0) 4 ((N.1 27 (sa.toNatClampNeg)).toNatClampNeg) 0) ((N.1 27 (sa.toNatClampNeg)).toNatClampNeg)) (((N.1 27 (sa.toNatClampNeg)).toNatClampNeg) / 4)) 27 (sa.toNatClampNeg) (nI (4 * (ba.toNatClampNeg) + (pa.toNatClampNeg)))) 28 (sa.toNatClampNeg) (va.toNatClampNeg)) 4 (4 * (ba.toNatClampNeg) + (pa.toNatClampNeg)) (100 + (sa.toNatClampNeg))) (4 * (ba.toNatClampNeg) + (pa.toNatClampNeg))) := h
                refine lv_aload_n E1 E2 d_Mo_attach_144 rfl (lv_at hl 2 rfl) ?_
                refine lv_iload_n E1 E2 d_Mo_attach_145 rfl (lv_at hl 4 rfl) ?_
                refine bn_ti hn_ba.1 ?_
                refine bn_callv F h (bn_runV (n := 1) (As := [.int (nI (ba.toNatClampNeg))]) (rest := []) F hml hl.1 h mi_0 rfl rfl (c_Mo_compute l D ar ad (o_Mo_clear (sU (sU (sI (o_Mo_compute (o_Mo_clear (sU (sI N 41 0 0) 4 ((N.1 27 (sa.toNatClampNeg)).toNatClampNeg) 0) ((N.1 27 (sa.toNatClampNeg)).toNatClampNeg)) (((N.1 27 (sa.toNatClampNeg)).toNatClampNeg) / 4)) 27 (sa.toNatClampNeg) (nI (4 * (ba.toNatClampNeg) + (pa.toNatClampNeg)))) 28 (sa.toNatClampNeg) (va.toNatClampNeg)) 4 (4 * (ba.toNatClampNeg) + (pa.toNatClampNeg)) (100 + (sa.toNatClampNeg))) (4 * (ba.toNatClampNeg) + (pa.toNatClampNeg))) (ba.toNatClampNeg) (by omega) _) (bn_goodV k_829 k_831 ks_Mo_compute k_7 k_832) rfl rfl (by decide) ⟨by decide, by decide⟩ rfl rfl (Nat.le_of_ble_eq_true rfl) d_Mo_attach_146 ⟨Nat.zero_le _, Nat.zero_le _⟩) (fun H locs h => ?_)
                have h : bn_H (mo_y D ar ad) s.heap H locs (o_Mo_compute (o_Mo_clear (sU (sU (sI (o_Mo_compute (o_Mo_clear (sU (sI N 41 0 0) 4 ((N.1 27 (sa.toNatClampNeg)).toNatClampNeg) 0) ((N.1 27 (sa.toNatClampNeg)).toNatClampNeg)) (((N.1 27 (sa.toNatClampNeg)).toNatClampNeg) / 4)) 27 (sa.toNatClampNeg) (nI (4 * (ba.toNatClampNeg) + (pa.toNatClampNeg)))) 28 (sa.toNatClampNeg) (va.toNatClampNeg)) 4 (4 * (ba.toNatClampNeg) + (pa.toNatClampNeg)) (100 + (sa.toNatClampNeg))) (4 * (ba.toNatClampNeg) + (pa.toNatClampNeg))) (ba.toNatClampNeg)) := h
                have hq : o_Mo_attach N sa ba pa va = (o_Mo_compute (o_Mo_clear (sU (sU (sI (o_Mo_compute (o_Mo_clear (sU (sI N 41 0 0) 4 ((N.1 27 (sa.toNatClampNeg)).toNatClampNeg) 0) ((N.1 27 (sa.toNatClampNeg)).toNatClampNeg)) (((N.1 27 (sa.toNatClampNeg)).toNatClampNeg) / 4)) 27 (sa.toNatClampNeg) (nI (4 * (ba.toNatClampNeg) + (pa.toNatClampNeg)))) 28 (sa.toNatClampNeg) (va.toNatClampNeg)) 4 (4 * (ba.toNatClampNeg) + (pa.toNatClampNeg)) (100 + (sa.toNatClampNeg))) (4 * (ba.toNatClampNeg) + (pa.toNatClampNeg))) (ba.toNatClampNeg)) := Eq.trans (if_neg h1) (Eq.trans (if_neg h2) (Eq.trans (if_neg h3) (Eq.trans (if_neg h4) (Eq.trans (if_pos h5) (Eq.trans (if_pos h6) (if_neg h7))))))
                exact bn_retv F hr hk h hq.symm d_Mo_attach_149
            · have h6 : ¬ ((N.2.1 4 (4 * (ba.toNatClampNeg) + (pa.toNatClampNeg))) = 0) := (fun hw => h6 ((nI_eq (a := N.2.1 4 (4 * (ba.toNatClampNeg) + (pa.toNatClampNeg))) (b := 0) (by omega) (by omega)).mpr hw))
              refine lv_iconst (v := 3) E1 E2 d_Mo_attach_56 (by decide) ?_
              refine lv_goto E1 E2 d_Mo_attach_57 rfl ?_
              refine p_Mo_thrown F h k_701 d_Mo_attach_61 (fun H locs h => ?_)
              have h : bn_H (mo_y D ar ad) s.heap H locs (sI N 41 0 3) := h
              refine lv_aload_n E1 E2 d_Mo_attach_64 rfl (lv_at hl 1 rfl) ?_
              refine g_Mo_thrown F h k_701 (v := 3) (bn_up_s N.1 41 0 3) d_Mo_attach_65 ?_
              refine lv_if_eq E1 E2 d_Mo_attach_68 rfl (fun hz => absurd hz (by decide)) (fun _ => ?_)
              have hq : o_Mo_attach N sa ba pa va = (sI N 41 0 3) := Eq.trans (if_neg h1) (Eq.trans (if_neg h2) (Eq.trans (if_neg h3) (Eq.trans (if_neg h4) (Eq.trans (if_pos h5) (if_neg h6)))))
              exact bn_retv F hr hk h hq.symm d_Mo_attach_71
          · have h5 : ¬ (va ≤ 2) := h5
            refine lv_iconst (v := 2) E1 E2 d_Mo_attach_42 (by decide) ?_
            refine lv_goto E1 E2 d_Mo_attach_43 rfl ?_
            refine p_Mo_thrown F h k_701 d_Mo_attach_61 (fun H locs h => ?_)
            have h : bn_H (mo_y D ar ad) s.heap H locs (sI N 41 0 2) := h
            refine lv_aload_n E1 E2 d_Mo_attach_64 rfl (lv_at hl 1 rfl) ?_
            refine g_Mo_thrown F h k_701 (v := 2) (bn_up_s N.1 41 0 2) d_Mo_attach_65 ?_
            refine lv_if_eq E1 E2 d_Mo_attach_68 rfl (fun hz => absurd hz (by decide)) (fun _ => ?_)
            have hq : o_Mo_attach N sa ba pa va = (sI N 41 0 2) := Eq.trans (if_neg h1) (Eq.trans (if_neg h2) (Eq.trans (if_neg h3) (Eq.trans (if_neg h4) (if_neg h5))))
            exact bn_retv F hr hk h hq.symm d_Mo_attach_71
      · have h3 : r_Mo_isPort N ba pa = 0 := h3
        refine lv_iconst (v := 1) E1 E2 d_Mo_attach_26 (by decide) ?_
        refine lv_goto E1 E2 d_Mo_attach_27 rfl ?_
        refine p_Mo_thrown F h k_701 d_Mo_attach_61 (fun H locs h => ?_)
        have h : bn_H (mo_y D ar ad) s.heap H locs (sI N 41 0 1) := h
        refine lv_aload_n E1 E2 d_Mo_attach_64 rfl (lv_at hl 1 rfl) ?_
        refine g_Mo_thrown F h k_701 (v := 1) (bn_up_s N.1 41 0 1) d_Mo_attach_65 ?_
        refine lv_if_eq E1 E2 d_Mo_attach_68 rfl (fun hz => absurd hz (by decide)) (fun _ => ?_)
        have hq : o_Mo_attach N sa ba pa va = (sI N 41 0 1) := Eq.trans (if_neg h1) (Eq.trans (if_neg h2) (if_pos h3))
        exact bn_retv F hr hk h hq.symm d_Mo_attach_71
def o_Mo_send (N : bn_S) (sa : Int32) (to : Int32) (wh : Int32) : Int32 × bn_S := (if sa < 0 then ((o_Mo_raise N 1).1, (o_Mo_raise N 1).2) else (if sa ≤ 7 then (if 0 ≤ N.1 27 (sa.toNatClampNeg) then (if to < 0 then ((o_Mo_raise N 3).1, (o_Mo_raise N 3).2) else (if to ≤ 9 then ((o_Mo_frame (sI (sU (sU (sU (sI (sI N 41 0 0) 14 240 3) 18 240 (sa.toNatClampNeg)) 19 240 (to.toNatClampNeg)) 20 240 (N.2.1 28 (sa.toNatClampNeg))) 21 240 wh) ((N.1 27 (sa.toNatClampNeg)).toNatClampNeg)).1, (o_Mo_frame (sI (sU (sU (sU (sI (sI N 41 0 0) 14 240 3) 18 240 (sa.toNatClampNeg)) 19 240 (to.toNatClampNeg)) 20 240 (N.2.1 28 (sa.toNatClampNeg))) 21 240 wh) ((N.1 27 (sa.toNatClampNeg)).toNatClampNeg)).2) else ((o_Mo_raise N 3).1, (o_Mo_raise N 3).2))) else ((o_Mo_raise N 2).1, (o_Mo_raise N 2).2)) else ((o_Mo_raise N 1).1, (o_Mo_raise N 1).2)))
set_option maxHeartbeats 4000000 in
set_option maxRecDepth 100000 in
theorem c_Mo_send (l : Launch) (D : va_G) (ar : Nat → ClassId) (ad : Nat → Nat → Nat) (N : bn_S)  (sa : Int32) (to : Int32) (wh : Int32) (hP0 : mo_P N) (hin : ¬ (sa < 0) → sa ≤ 7 → 0 ≤ N.1 27 (sa.toNatClampNeg) → 1 ≤ N.2.1 28 (sa.toNatClampNeg)) : bn_I l y_Mo_send w_Mo_send { frames := 3, cells := 0, slots := 0, locals := 77 } (mo_y D ar ad) N [.ref (ad 0 0), .int sa, .int to, .int wh] (o_Mo_send N sa to wh).1 (o_Mo_send N sa to wh).2 := by
  intro sz
  refine bn_start (cc := b_Mo_send) (maxL := 4) (ret := (Option.some Jvm.ClassFile.FieldType.int)) (by decide) rfl (Nat.le_of_ble_eq_true rfl) ?_
  intro p e s m args below meth c ls hsz F hml hr hk hl h
  subst hsz
  have E1 := F.1
  have E2 := F.2.1
  have hl : lv_has ls 4 [(0, .ref (ad 0 0)), (1, .int sa), (2, .int to), (3, .int wh)] := hl
  refine lv_iload_n E1 E2 d_Mo_send_0 rfl (lv_at hl 1 rfl) ?_
  refine lv_if_lt E1 E2 d_Mo_send_1 rfl (fun h1 => ?_) (fun h1 => ?_)
  · have h1 : sa < 0 := h1
    refine lv_aload_n E1 E2 d_Mo_send_10 rfl (lv_at hl 0 rfl) ?_
    refine lv_iconst (v := 1) E1 E2 d_Mo_send_11 (by decide) ?_
    refine bn_calli F h (bn_runV (n := 1) (As := [.int 1]) (rest := []) F hml hl.1 h mi_0 rfl rfl (c_Mo_raise l D ar ad N 1 _) (bn_goodV k_813 k_815 ks_Mo_raise k_7 k_816) rfl rfl (by decide) ⟨by decide, by decide⟩ rfl rfl (Nat.le_of_ble_eq_true rfl) d_Mo_send_12 ⟨Nat.zero_le _, Nat.zero_le _⟩) (fun H locs h => ?_)
    have h : bn_H (mo_y D ar ad) s.heap H locs (o_Mo_raise N 1).2 := h
    have hq : o_Mo_send N sa to wh = ((o_Mo_raise N 1).1, (o_Mo_raise N 1).2) := if_pos h1
    exact bn_reti2 F hr hk h hq d_Mo_send_15
  · have h1 : ¬ (sa < 0) := h1
    refine lv_iload_n E1 E2 d_Mo_send_4 rfl (lv_at hl 1 rfl) ?_
    refine lv_bipush (v := 7) E1 E2 d_Mo_send_5 (by decide) ?_
    refine lv_icmp_le E1 E2 d_Mo_send_7 rfl (fun h2 => ?_) (fun h2 => ?_)
    · have h2 : sa ≤ 7 := h2
      refine lv_aload_n E1 E2 d_Mo_send_16 rfl (lv_at hl 0 rfl) ?_
      refine g_Mo_at F h k_729 d_Mo_send_17 ?_
      refine lv_iload_n E1 E2 d_Mo_send_20 rfl (lv_at hl 1 rfl) ?_
      have hn_sa := bn_natlt (n := 7) h1 (Int32.not_lt.mpr h2) (by decide)
      have hn_sa2 := hn_sa.2
      refine bn_ti hn_sa.1 ?_
      refine ml_at F h (i := sa.toNatClampNeg) (by omega) (v := N.1 27 (sa.toNatClampNeg)) rfl d_Mo_send_21 ?_
      refine lv_if_ge E1 E2 d_Mo_send_22 rfl (fun h3 => ?_) (fun h3 => ?_)
      · have h3 : 0 ≤ N.1 27 (sa.toNatClampNeg) := h3
        refine lv_iload_n E1 E2 d_Mo_send_31 rfl (lv_at hl 2 rfl) ?_
        refine lv_if_lt E1 E2 d_Mo_send_32 rfl (fun h4 => ?_) (fun h4 => ?_)
        · have h4 : to < 0 := h4
          refine lv_aload_n E1 E2 d_Mo_send_41 rfl (lv_at hl 0 rfl) ?_
          refine lv_iconst (v := 3) E1 E2 d_Mo_send_42 (by decide) ?_
          refine bn_calli F h (bn_runV (n := 1) (As := [.int 3]) (rest := []) F hml hl.1 h mi_0 rfl rfl (c_Mo_raise l D ar ad N 3 _) (bn_goodV k_813 k_815 ks_Mo_raise k_7 k_816) rfl rfl (by decide) ⟨by decide, by decide⟩ rfl rfl (Nat.le_of_ble_eq_true rfl) d_Mo_send_43 ⟨Nat.zero_le _, Nat.zero_le _⟩) (fun H locs h => ?_)
          have h : bn_H (mo_y D ar ad) s.heap H locs (o_Mo_raise N 3).2 := h
          have hq : o_Mo_send N sa to wh = ((o_Mo_raise N 3).1, (o_Mo_raise N 3).2) := Eq.trans (if_neg h1) (Eq.trans (if_pos h2) (Eq.trans (if_pos h3) (if_pos h4)))
          exact bn_reti2 F hr hk h hq d_Mo_send_46
        · have h4 : ¬ (to < 0) := h4
          refine lv_iload_n E1 E2 d_Mo_send_35 rfl (lv_at hl 2 rfl) ?_
          refine lv_bipush (v := 9) E1 E2 d_Mo_send_36 (by decide) ?_
          refine lv_icmp_le E1 E2 d_Mo_send_38 rfl (fun h5 => ?_) (fun h5 => ?_)
          · have h5 : to ≤ 9 := h5
            refine lv_aload_n E1 E2 d_Mo_send_47 rfl (lv_at hl 0 rfl) ?_
            refine lv_iconst (v := 0) E1 E2 d_Mo_send_48 (by decide) ?_
            refine p_Mo_thrown F h k_701 d_Mo_send_49 (fun H locs h => ?_)
            have h : bn_H (mo_y D ar ad) s.heap H locs (sI N 41 0 0) := h
            refine lv_aload_n E1 E2 d_Mo_send_52 rfl (lv_at hl 0 rfl) ?_
            refine g_Mo_kind F h k_716 d_Mo_send_53 ?_
            refine lv_sipush (v := 240) E1 E2 d_Mo_send_56 (by decide) ?_
            refine lv_iconst (v := 3) E1 E2 d_Mo_send_59 (by decide) ?_
            refine ms_kind F h (i := 240) (by omega) (v := 3) d_Mo_send_60 (fun H locs h => ?_)
            have h : bn_H (mo_y D ar ad) s.heap H locs (sI (sI N 41 0 0) 14 240 3) := h
            refine lv_aload_n E1 E2 d_Mo_send_61 rfl (lv_at hl 0 rfl) ?_
            refine g_Mo_source F h k_720 d_Mo_send_62 ?_
            refine lv_sipush (v := 240) E1 E2 d_Mo_send_65 (by decide) ?_
            refine lv_iload_n E1 E2 d_Mo_send_68 rfl (lv_at hl 1 rfl) ?_
            refine bn_ti hn_sa.1 ?_
            refine ms_source F h (i := 240) (by omega) (v := sa.toNatClampNeg) (by omega) d_Mo_send_69 (fun H locs h => ?_)
            have h : bn_H (mo_y D ar ad) s.heap H locs (sU (sI (sI N 41 0 0) 14 240 3) 18 240 (sa.toNatClampNeg)) := h
            refine lv_aload_n E1 E2 d_Mo_send_70 rfl (lv_at hl 0 rfl) ?_
            refine g_Mo_destination F h k_721 d_Mo_send_71 ?_
            refine lv_sipush (v := 240) E1 E2 d_Mo_send_74 (by decide) ?_
            refine lv_iload_n E1 E2 d_Mo_send_77 rfl (lv_at hl 2 rfl) ?_
            have hn_to := bn_natlt (n := 9) h4 (Int32.not_lt.mpr h5) (by decide)
            have hn_to2 := hn_to.2
            refine bn_ti hn_to.1 ?_
            refine ms_destination F h (i := 240) (by omega) (v := to.toNatClampNeg) (by omega) d_Mo_send_78 (fun H locs h => ?_)
            have h : bn_H (mo_y D ar ad) s.heap H locs (sU (sU (sI (sI N 41 0 0) 14 240 3) 18 240 (sa.toNatClampNeg)) 19 240 (to.toNatClampNeg)) := h
            refine lv_aload_n E1 E2 d_Mo_send_79 rfl (lv_at hl 0 rfl) ?_
            refine g_Mo_vlan F h k_722 d_Mo_send_80 ?_
            refine lv_sipush (v := 240) E1 E2 d_Mo_send_83 (by decide) ?_
            refine lv_aload_n E1 E2 d_Mo_send_86 rfl (lv_at hl 0 rfl) ?_
            refine g_Mo_in F h k_730 d_Mo_send_87 ?_
            refine lv_iload_n E1 E2 d_Mo_send_90 rfl (lv_at hl 1 rfl) ?_
            refine bn_ti hn_sa.1 ?_
            refine ml_in F h (i := sa.toNatClampNeg) (by omega) (v := N.2.1 28 (sa.toNatClampNeg)) rfl d_Mo_send_91 ?_
            have hwin : N.2.1 28 (sa.toNatClampNeg) < 3 := mw_in h.2.2.2 (sa.toNatClampNeg)
            refine ms_vlan F h (i := 240) (by omega) (v := N.2.1 28 (sa.toNatClampNeg)) (by omega) d_Mo_send_92 (fun H locs h => ?_)
            have h : bn_H (mo_y D ar ad) s.heap H locs (sU (sU (sU (sI (sI N 41 0 0) 14 240 3) 18 240 (sa.toNatClampNeg)) 19 240 (to.toNatClampNeg)) 20 240 (N.2.1 28 (sa.toNatClampNeg))) := h
            refine lv_aload_n E1 E2 d_Mo_send_93 rfl (lv_at hl 0 rfl) ?_
            refine g_Mo_value F h k_723 d_Mo_send_94 ?_
            refine lv_sipush (v := 240) E1 E2 d_Mo_send_97 (by decide) ?_
            refine lv_iload_n E1 E2 d_Mo_send_100 rfl (lv_at hl 3 rfl) ?_
            refine ms_value F h (i := 240) (by omega) (v := wh) d_Mo_send_101 (fun H locs h => ?_)
            have h : bn_H (mo_y D ar ad) s.heap H locs (sI (sU (sU (sU (sI (sI N 41 0 0) 14 240 3) 18 240 (sa.toNatClampNeg)) 19 240 (to.toNatClampNeg)) 20 240 (N.2.1 28 (sa.toNatClampNeg))) 21 240 wh) := h
            refine lv_aload_n E1 E2 d_Mo_send_102 rfl (lv_at hl 0 rfl) ?_
            refine lv_aload_n E1 E2 d_Mo_send_103 rfl (lv_at hl 0 rfl) ?_
            refine g_Mo_at F h k_729 d_Mo_send_104 ?_
            refine lv_iload_n E1 E2 d_Mo_send_107 rfl (lv_at hl 1 rfl) ?_
            refine bn_ti hn_sa.1 ?_
            refine ml_at F h (i := sa.toNatClampNeg) (by omega) (v := N.1 27 (sa.toNatClampNeg)) rfl d_Mo_send_108 ?_
            have hat : N.1 27 (sa.toNatClampNeg) = nI (N.1 27 (sa.toNatClampNeg)).toNatClampNeg ∧ (N.1 27 (sa.toNatClampNeg)).toNatClampNeg < 20 := h.2.2.2.2.2 (sa.toNatClampNeg) (bn_ge0 h3)
            have hat2 := hat.2
            refine bn_ti hat.1 ?_
            refine bn_calli F h (bn_runV (n := 1) (As := [.int (nI ((N.1 27 (sa.toNatClampNeg)).toNatClampNeg))]) (rest := []) F hml hl.1 h mi_0 rfl rfl (c_Mo_frame l D ar ad (sI (sU (sU (sU (sI (sI N 41 0 0) 14 240 3) 18 240 (sa.toNatClampNeg)) 19 240 (to.toNatClampNeg)) 20 240 (N.2.1 28 (sa.toNatClampNeg))) 21 240 wh) ((N.1 27 (sa.toNatClampNeg)).toNatClampNeg) (by omega) hP0 (Nat.le_trans (hin h1 h2 h3) (Nat.le_of_eq (bn_up_s (sU (sU (sI (sI N 41 0 0) 14 240 3) 18 240 (sa.toNatClampNeg)) 19 240 (to.toNatClampNeg)).2.1 20 240 (N.2.1 28 (sa.toNatClampNeg))).symm)) _) (bn_goodV k_888 k_890 ks_Mo_frame k_7 k_891) rfl rfl (by decide) ⟨by decide, by decide⟩ rfl rfl (Nat.le_of_ble_eq_true rfl) d_Mo_send_109 ⟨Nat.zero_le _, Nat.zero_le _⟩) (fun H locs h => ?_)
            have h : bn_H (mo_y D ar ad) s.heap H locs (o_Mo_frame (sI (sU (sU (sU (sI (sI N 41 0 0) 14 240 3) 18 240 (sa.toNatClampNeg)) 19 240 (to.toNatClampNeg)) 20 240 (N.2.1 28 (sa.toNatClampNeg))) 21 240 wh) ((N.1 27 (sa.toNatClampNeg)).toNatClampNeg)).2 := h
            have hq : o_Mo_send N sa to wh = ((o_Mo_frame (sI (sU (sU (sU (sI (sI N 41 0 0) 14 240 3) 18 240 (sa.toNatClampNeg)) 19 240 (to.toNatClampNeg)) 20 240 (N.2.1 28 (sa.toNatClampNeg))) 21 240 wh) ((N.1 27 (sa.toNatClampNeg)).toNatClampNeg)).1, (o_Mo_frame (sI (sU (sU (sU (sI (sI N 41 0 0) 14 240 3) 18 240 (sa.toNatClampNeg)) 19 240 (to.toNatClampNeg)) 20 240 (N.2.1 28 (sa.toNatClampNeg))) 21 240 wh) ((N.1 27 (sa.toNatClampNeg)).toNatClampNeg)).2) := Eq.trans (if_neg h1) (Eq.trans (if_pos h2) (Eq.trans (if_pos h3) (Eq.trans (if_neg h4) (if_pos h5))))
            exact bn_reti2 F hr hk h hq d_Mo_send_112
          · have h5 : ¬ (to ≤ 9) := h5
            refine lv_aload_n E1 E2 d_Mo_send_41 rfl (lv_at hl 0 rfl) ?_
            refine lv_iconst (v := 3) E1 E2 d_Mo_send_42 (by decide) ?_
            refine bn_calli F h (bn_runV (n := 1) (As := [.int 3]) (rest := []) F hml hl.1 h mi_0 rfl rfl (c_Mo_raise l D ar ad N 3 _) (bn_goodV k_813 k_815 ks_Mo_raise k_7 k_816) rfl rfl (by decide) ⟨by decide, by decide⟩ rfl rfl (Nat.le_of_ble_eq_true rfl) d_Mo_send_43 ⟨Nat.zero_le _, Nat.zero_le _⟩) (fun H locs h => ?_)
            have h : bn_H (mo_y D ar ad) s.heap H locs (o_Mo_raise N 3).2 := h
            have hq : o_Mo_send N sa to wh = ((o_Mo_raise N 3).1, (o_Mo_raise N 3).2) := Eq.trans (if_neg h1) (Eq.trans (if_pos h2) (Eq.trans (if_pos h3) (Eq.trans (if_neg h4) (if_neg h5))))
            exact bn_reti2 F hr hk h hq d_Mo_send_46
      · have h3 : ¬ (0 ≤ N.1 27 (sa.toNatClampNeg)) := h3
        refine lv_aload_n E1 E2 d_Mo_send_25 rfl (lv_at hl 0 rfl) ?_
        refine lv_iconst (v := 2) E1 E2 d_Mo_send_26 (by decide) ?_
        refine bn_calli F h (bn_runV (n := 1) (As := [.int 2]) (rest := []) F hml hl.1 h mi_0 rfl rfl (c_Mo_raise l D ar ad N 2 _) (bn_goodV k_813 k_815 ks_Mo_raise k_7 k_816) rfl rfl (by decide) ⟨by decide, by decide⟩ rfl rfl (Nat.le_of_ble_eq_true rfl) d_Mo_send_27 ⟨Nat.zero_le _, Nat.zero_le _⟩) (fun H locs h => ?_)
        have h : bn_H (mo_y D ar ad) s.heap H locs (o_Mo_raise N 2).2 := h
        have hq : o_Mo_send N sa to wh = ((o_Mo_raise N 2).1, (o_Mo_raise N 2).2) := Eq.trans (if_neg h1) (Eq.trans (if_pos h2) (if_neg h3))
        exact bn_reti2 F hr hk h hq d_Mo_send_30
    · have h2 : ¬ (sa ≤ 7) := h2
      refine lv_aload_n E1 E2 d_Mo_send_10 rfl (lv_at hl 0 rfl) ?_
      refine lv_iconst (v := 1) E1 E2 d_Mo_send_11 (by decide) ?_
      refine bn_calli F h (bn_runV (n := 1) (As := [.int 1]) (rest := []) F hml hl.1 h mi_0 rfl rfl (c_Mo_raise l D ar ad N 1 _) (bn_goodV k_813 k_815 ks_Mo_raise k_7 k_816) rfl rfl (by decide) ⟨by decide, by decide⟩ rfl rfl (Nat.le_of_ble_eq_true rfl) d_Mo_send_12 ⟨Nat.zero_le _, Nat.zero_le _⟩) (fun H locs h => ?_)
      have h : bn_H (mo_y D ar ad) s.heap H locs (o_Mo_raise N 1).2 := h
      have hq : o_Mo_send N sa to wh = ((o_Mo_raise N 1).1, (o_Mo_raise N 1).2) := Eq.trans (if_neg h1) (if_neg h2)
      exact bn_reti2 F hr hk h hq d_Mo_send_15
def o_Mo_port (N : bn_S) (ba : Int32) (pa : Int32) : Int32 × bn_S := (if r_Mo_isPort (sI N 41 0 0) ba pa = 0 then ((-1), (sI N 41 0 0)) else (if (N.2.1 7 ((4 * (ba.toNatClampNeg)) + (pa.toNatClampNeg))) = 0 then (if (N.2.1 8 ((4 * (ba.toNatClampNeg)) + (pa.toNatClampNeg))) = 0 then (((((N.1 5 ((4 * (ba.toNatClampNeg)) + (pa.toNatClampNeg))) + (4 * (N.1 6 ((4 * (ba.toNatClampNeg)) + (pa.toNatClampNeg))))) + 0) + 0) + (64 * (N.1 9 ((4 * (ba.toNatClampNeg)) + (pa.toNatClampNeg)))), (sI N 41 0 0)) else (((((N.1 5 ((4 * (ba.toNatClampNeg)) + (pa.toNatClampNeg))) + (4 * (N.1 6 ((4 * (ba.toNatClampNeg)) + (pa.toNatClampNeg))))) + 0) + 32) + (64 * (N.1 9 ((4 * (ba.toNatClampNeg)) + (pa.toNatClampNeg)))), (sI N 41 0 0))) else (if (N.2.1 8 ((4 * (ba.toNatClampNeg)) + (pa.toNatClampNeg))) = 0 then (((((N.1 5 ((4 * (ba.toNatClampNeg)) + (pa.toNatClampNeg))) + (4 * (N.1 6 ((4 * (ba.toNatClampNeg)) + (pa.toNatClampNeg))))) + 16) + 0) + (64 * (N.1 9 ((4 * (ba.toNatClampNeg)) + (pa.toNatClampNeg)))), (sI N 41 0 0)) else (((((N.1 5 ((4 * (ba.toNatClampNeg)) + (pa.toNatClampNeg))) + (4 * (N.1 6 ((4 * (ba.toNatClampNeg)) + (pa.toNatClampNeg))))) + 16) + 32) + (64 * (N.1 9 ((4 * (ba.toNatClampNeg)) + (pa.toNatClampNeg)))), (sI N 41 0 0)))))
set_option maxHeartbeats 4000000 in
set_option maxRecDepth 100000 in
theorem c_Mo_port (l : Launch) (D : va_G) (ar : Nat → ClassId) (ad : Nat → Nat → Nat) (N : bn_S)  (ba : Int32) (pa : Int32) : bn_I l y_Mo_port w_Mo_port { frames := 2, cells := 0, slots := 0, locals := 41 } (mo_y D ar ad) N [.ref (ad 0 0), .int ba, .int pa] (o_Mo_port N ba pa).1 (o_Mo_port N ba pa).2 := by
  intro sz
  refine bn_start (cc := b_Mo_port) (maxL := 4) (ret := (Option.some Jvm.ClassFile.FieldType.int)) (by decide) rfl (Nat.le_of_ble_eq_true rfl) ?_
  intro p e s m args below meth c ls hsz F hml hr hk hl h
  subst hsz
  have E1 := F.1
  have E2 := F.2.1
  have hl : lv_has ls 4 [(0, .ref (ad 0 0)), (1, .int ba), (2, .int pa)] := hl
  refine lv_aload_n E1 E2 d_Mo_port_0 rfl (lv_at hl 0 rfl) ?_
  refine lv_iconst (v := 0) E1 E2 d_Mo_port_1 (by decide) ?_
  refine p_Mo_thrown F h k_701 d_Mo_port_2 (fun H locs h => ?_)
  have h : bn_H (mo_y D ar ad) s.heap H locs (sI N 41 0 0) := h
  refine lv_iload_n E1 E2 d_Mo_port_5 rfl (lv_at hl 1 rfl) ?_
  refine lv_iload_n E1 E2 d_Mo_port_6 rfl (lv_at hl 2 rfl) ?_
  refine bn_calli F h (bn_runS (n := 2) (As := [.int ba, .int pa]) (rest := []) F hml hl.1 h (c_Mo_isPort l D ar ad (sI N 41 0 0) ba pa _) (bn_goodS k_807 k_808 k_7 k_809) rfl rfl (by decide) ⟨by decide, by decide⟩ rfl rfl (Nat.le_of_ble_eq_true rfl) d_Mo_port_7 ⟨Nat.zero_le _, Nat.zero_le _⟩) (fun H locs h => ?_)
  refine lv_if_ne E1 E2 d_Mo_port_10 rfl (fun h1 => ?_) (fun h1 => ?_)
  · have h1 : ¬ (r_Mo_isPort (sI N 41 0 0) ba pa = 0) := h1
    refine lv_iconst (v := 4) E1 E2 d_Mo_port_15 (by decide) ?_
    refine lv_iload_n E1 E2 d_Mo_port_16 rfl (lv_at hl 1 rfl) ?_
    have hn_ba := bn_isPb h1
    have hn_ba2 := hn_ba.2
    refine bn_ti hn_ba.1 ?_
    refine lv_imul E1 E2 d_Mo_port_17 ?_
    refine bn_ti (y := nI (4 * (ba.toNatClampNeg))) (pk_mul 4 (ba.toNatClampNeg)) ?_
    refine lv_iload_n E1 E2 d_Mo_port_18 rfl (lv_at hl 2 rfl) ?_
    have hn_pa := bn_isPp h1
    have hn_pa2 := hn_pa.2
    refine bn_ti hn_pa.1 ?_
    refine lv_iadd E1 E2 d_Mo_port_19 ?_
    refine bn_ti (y := nI ((4 * (ba.toNatClampNeg)) + (pa.toNatClampNeg))) (nI_add (4 * (ba.toNatClampNeg)) (pa.toNatClampNeg)) ?_
    refine lv_istore_n E1 E2 d_Mo_port_20 rfl hl (by decide) rfl (fun ls hl => ?_)
    have hl : lv_has ls 4 [(3, .int (nI ((4 * (ba.toNatClampNeg)) + (pa.toNatClampNeg)))), (0, .ref (ad 0 0)), (1, .int ba), (2, .int pa)] := hl
    refine lv_aload_n E1 E2 d_Mo_port_21 rfl (lv_at hl 1 rfl) ?_
    refine g_Mo_role F h k_707 d_Mo_port_22 ?_
    refine lv_iload_n E1 E2 d_Mo_port_25 rfl (lv_at hl 0 rfl) ?_
    refine ml_role F h (i := (4 * (ba.toNatClampNeg)) + (pa.toNatClampNeg)) (by omega) (v := N.1 5 ((4 * (ba.toNatClampNeg)) + (pa.toNatClampNeg))) rfl d_Mo_port_26 ?_
    refine lv_iconst (v := 4) E1 E2 d_Mo_port_27 (by decide) ?_
    refine lv_aload_n E1 E2 d_Mo_port_28 rfl (lv_at hl 1 rfl) ?_
    refine g_Mo_state F h k_708 d_Mo_port_29 ?_
    refine lv_iload_n E1 E2 d_Mo_port_32 rfl (lv_at hl 0 rfl) ?_
    refine ml_state F h (i := (4 * (ba.toNatClampNeg)) + (pa.toNatClampNeg)) (by omega) (v := N.1 6 ((4 * (ba.toNatClampNeg)) + (pa.toNatClampNeg))) rfl d_Mo_port_33 ?_
    refine lv_imul E1 E2 d_Mo_port_34 ?_
    refine lv_iadd E1 E2 d_Mo_port_35 ?_
    refine lv_aload_n E1 E2 d_Mo_port_36 rfl (lv_at hl 1 rfl) ?_
    refine g_Mo_proposing F h k_709 d_Mo_port_37 ?_
    refine lv_iload_n E1 E2 d_Mo_port_40 rfl (lv_at hl 0 rfl) ?_
    refine ml_proposing F h (i := (4 * (ba.toNatClampNeg)) + (pa.toNatClampNeg)) (by omega) (v := N.2.1 7 ((4 * (ba.toNatClampNeg)) + (pa.toNatClampNeg))) rfl d_Mo_port_41 ?_
    have hwproposing : N.2.1 7 ((4 * (ba.toNatClampNeg)) + (pa.toNatClampNeg)) < 2 := mw_proposing h.2.2.2 ((4 * (ba.toNatClampNeg)) + (pa.toNatClampNeg))
    refine lv_if_eq E1 E2 d_Mo_port_42 rfl (fun h2 => ?_) (fun h2 => ?_)
    · have h2 : (N.2.1 7 ((4 * (ba.toNatClampNeg)) + (pa.toNatClampNeg))) = 0 := ((nI_eq (a := N.2.1 7 ((4 * (ba.toNatClampNeg)) + (pa.toNatClampNeg))) (b := 0) (by omega) (by omega)).mp h2)
      refine lv_iconst (v := 0) E1 E2 d_Mo_port_50 (by decide) ?_
      refine lv_iadd E1 E2 d_Mo_port_51 ?_
      refine lv_aload_n E1 E2 d_Mo_port_52 rfl (lv_at hl 1 rfl) ?_
      refine g_Mo_agreed F h k_710 d_Mo_port_53 ?_
      refine lv_iload_n E1 E2 d_Mo_port_56 rfl (lv_at hl 0 rfl) ?_
      refine ml_agreed F h (i := (4 * (ba.toNatClampNeg)) + (pa.toNatClampNeg)) (by omega) (v := N.2.1 8 ((4 * (ba.toNatClampNeg)) + (pa.toNatClampNeg))) rfl d_Mo_port_57 ?_
      have hwagreed : N.2.1 8 ((4 * (ba.toNatClampNeg)) + (pa.toNatClampNeg)) < 2 := mw_agreed h.2.2.2 ((4 * (ba.toNatClampNeg)) + (pa.toNatClampNeg))
      refine lv_if_eq E1 E2 d_Mo_port_58 rfl (fun h3 => ?_) (fun h3 => ?_)
      · have h3 : (N.2.1 8 ((4 * (ba.toNatClampNeg)) + (pa.toNatClampNeg))) = 0 := ((nI_eq (a := N.2.1 8 ((4 * (ba.toNatClampNeg)) + (pa.toNatClampNeg))) (b := 0) (by omega) (by omega)).mp h3)
        refine lv_iconst (v := 0) E1 E2 d_Mo_port_66 (by decide) ?_
        refine lv_iadd E1 E2 d_Mo_port_67 ?_
        refine lv_bipush (v := 64) E1 E2 d_Mo_port_68 (by decide) ?_
        refine lv_aload_n E1 E2 d_Mo_port_70 rfl (lv_at hl 1 rfl) ?_
        refine g_Mo_waits F h k_711 d_Mo_port_71 ?_
        refine lv_iload_n E1 E2 d_Mo_port_74 rfl (lv_at hl 0 rfl) ?_
        refine ml_waits F h (i := (4 * (ba.toNatClampNeg)) + (pa.toNatClampNeg)) (by omega) (v := N.1 9 ((4 * (ba.toNatClampNeg)) + (pa.toNatClampNeg))) rfl d_Mo_port_75 ?_
        refine lv_imul E1 E2 d_Mo_port_76 ?_
        refine lv_iadd E1 E2 d_Mo_port_77 ?_
        have hq : o_Mo_port N ba pa = (((((N.1 5 ((4 * (ba.toNatClampNeg)) + (pa.toNatClampNeg))) + (4 * (N.1 6 ((4 * (ba.toNatClampNeg)) + (pa.toNatClampNeg))))) + 0) + 0) + (64 * (N.1 9 ((4 * (ba.toNatClampNeg)) + (pa.toNatClampNeg)))), (sI N 41 0 0)) := Eq.trans (if_neg h1) (Eq.trans (if_pos h2) (if_pos h3))
        exact bn_reti2 F hr hk h hq d_Mo_port_78
      · have h3 : ¬ ((N.2.1 8 ((4 * (ba.toNatClampNeg)) + (pa.toNatClampNeg))) = 0) := (fun hw => h3 ((nI_eq (a := N.2.1 8 ((4 * (ba.toNatClampNeg)) + (pa.toNatClampNeg))) (b := 0) (by omega) (by omega)).mpr hw))
        refine lv_bipush (v := 32) E1 E2 d_Mo_port_61 (by decide) ?_
        refine lv_goto E1 E2 d_Mo_port_63 rfl ?_
        refine lv_iadd E1 E2 d_Mo_port_67 ?_
        refine lv_bipush (v := 64) E1 E2 d_Mo_port_68 (by decide) ?_
        refine lv_aload_n E1 E2 d_Mo_port_70 rfl (lv_at hl 1 rfl) ?_
        refine g_Mo_waits F h k_711 d_Mo_port_71 ?_
        refine lv_iload_n E1 E2 d_Mo_port_74 rfl (lv_at hl 0 rfl) ?_
        refine ml_waits F h (i := (4 * (ba.toNatClampNeg)) + (pa.toNatClampNeg)) (by omega) (v := N.1 9 ((4 * (ba.toNatClampNeg)) + (pa.toNatClampNeg))) rfl d_Mo_port_75 ?_
        refine lv_imul E1 E2 d_Mo_port_76 ?_
        refine lv_iadd E1 E2 d_Mo_port_77 ?_
        have hq : o_Mo_port N ba pa = (((((N.1 5 ((4 * (ba.toNatClampNeg)) + (pa.toNatClampNeg))) + (4 * (N.1 6 ((4 * (ba.toNatClampNeg)) + (pa.toNatClampNeg))))) + 0) + 32) + (64 * (N.1 9 ((4 * (ba.toNatClampNeg)) + (pa.toNatClampNeg)))), (sI N 41 0 0)) := Eq.trans (if_neg h1) (Eq.trans (if_pos h2) (if_neg h3))
        exact bn_reti2 F hr hk h hq d_Mo_port_78
    · have h2 : ¬ ((N.2.1 7 ((4 * (ba.toNatClampNeg)) + (pa.toNatClampNeg))) = 0) := (fun hw => h2 ((nI_eq (a := N.2.1 7 ((4 * (ba.toNatClampNeg)) + (pa.toNatClampNeg))) (b := 0) (by omega) (by omega)).mpr hw))
      refine lv_bipush (v := 16) E1 E2 d_Mo_port_45 (by decide) ?_
      refine lv_goto E1 E2 d_Mo_port_47 rfl ?_
      refine lv_iadd E1 E2 d_Mo_port_51 ?_
      refine lv_aload_n E1 E2 d_Mo_port_52 rfl (lv_at hl 1 rfl) ?_
      refine g_Mo_agreed F h k_710 d_Mo_port_53 ?_
      refine lv_iload_n E1 E2 d_Mo_port_56 rfl (lv_at hl 0 rfl) ?_
      refine ml_agreed F h (i := (4 * (ba.toNatClampNeg)) + (pa.toNatClampNeg)) (by omega) (v := N.2.1 8 ((4 * (ba.toNatClampNeg)) + (pa.toNatClampNeg))) rfl d_Mo_port_57 ?_
      have hwagreed : N.2.1 8 ((4 * (ba.toNatClampNeg)) + (pa.toNatClampNeg)) < 2 := mw_agreed h.2.2.2 ((4 * (ba.toNatClampNeg)) + (pa.toNatClampNeg))
      refine lv_if_eq E1 E2 d_Mo_port_58 rfl (fun h4 => ?_) (fun h4 => ?_)
      · have h4 : (N.2.1 8 ((4 * (ba.toNatClampNeg)) + (pa.toNatClampNeg))) = 0 := ((nI_eq (a := N.2.1 8 ((4 * (ba.toNatClampNeg)) + (pa.toNatClampNeg))) (b := 0) (by omega) (by omega)).mp h4)
        refine lv_iconst (v := 0) E1 E2 d_Mo_port_66 (by decide) ?_
        refine lv_iadd E1 E2 d_Mo_port_67 ?_
        refine lv_bipush (v := 64) E1 E2 d_Mo_port_68 (by decide) ?_
        refine lv_aload_n E1 E2 d_Mo_port_70 rfl (lv_at hl 1 rfl) ?_
        refine g_Mo_waits F h k_711 d_Mo_port_71 ?_
        refine lv_iload_n E1 E2 d_Mo_port_74 rfl (lv_at hl 0 rfl) ?_
        refine ml_waits F h (i := (4 * (ba.toNatClampNeg)) + (pa.toNatClampNeg)) (by omega) (v := N.1 9 ((4 * (ba.toNatClampNeg)) + (pa.toNatClampNeg))) rfl d_Mo_port_75 ?_
        refine lv_imul E1 E2 d_Mo_port_76 ?_
        refine lv_iadd E1 E2 d_Mo_port_77 ?_
        have hq : o_Mo_port N ba pa = (((((N.1 5 ((4 * (ba.toNatClampNeg)) + (pa.toNatClampNeg))) + (4 * (N.1 6 ((4 * (ba.toNatClampNeg)) + (pa.toNatClampNeg))))) + 16) + 0) + (64 * (N.1 9 ((4 * (ba.toNatClampNeg)) + (pa.toNatClampNeg)))), (sI N 41 0 0)) := Eq.trans (if_neg h1) (Eq.trans (if_neg h2) (if_pos h4))
        exact bn_reti2 F hr hk h hq d_Mo_port_78
      · have h4 : ¬ ((N.2.1 8 ((4 * (ba.toNatClampNeg)) + (pa.toNatClampNeg))) = 0) := (fun hw => h4 ((nI_eq (a := N.2.1 8 ((4 * (ba.toNatClampNeg)) + (pa.toNatClampNeg))) (b := 0) (by omega) (by omega)).mpr hw))
        refine lv_bipush (v := 32) E1 E2 d_Mo_port_61 (by decide) ?_
        refine lv_goto E1 E2 d_Mo_port_63 rfl ?_
        refine lv_iadd E1 E2 d_Mo_port_67 ?_
        refine lv_bipush (v := 64) E1 E2 d_Mo_port_68 (by decide) ?_
        refine lv_aload_n E1 E2 d_Mo_port_70 rfl (lv_at hl 1 rfl) ?_
        refine g_Mo_waits F h k_711 d_Mo_port_71 ?_
        refine lv_iload_n E1 E2 d_Mo_port_74 rfl (lv_at hl 0 rfl) ?_
        refine ml_waits F h (i := (4 * (ba.toNatClampNeg)) + (pa.toNatClampNeg)) (by omega) (v := N.1 9 ((4 * (ba.toNatClampNeg)) + (pa.toNatClampNeg))) rfl d_Mo_port_75 ?_
        refine lv_imul E1 E2 d_Mo_port_76 ?_
        refine lv_iadd E1 E2 d_Mo_port_77 ?_
        have hq : o_Mo_port N ba pa = (((((N.1 5 ((4 * (ba.toNatClampNeg)) + (pa.toNatClampNeg))) + (4 * (N.1 6 ((4 * (ba.toNatClampNeg)) + (pa.toNatClampNeg))))) + 16) + 32) + (64 * (N.1 9 ((4 * (ba.toNatClampNeg)) + (pa.toNatClampNeg)))), (sI N 41 0 0)) := Eq.trans (if_neg h1) (Eq.trans (if_neg h2) (if_neg h4))
        exact bn_reti2 F hr hk h hq d_Mo_port_78
  · have h1 : r_Mo_isPort (sI N 41 0 0) ba pa = 0 := h1
    refine lv_iconst (v := (-1)) E1 E2 d_Mo_port_13 (by decide) ?_
    have hq : o_Mo_port N ba pa = ((-1), (sI N 41 0 0)) := if_pos h1
    exact bn_reti2 F hr hk h hq d_Mo_port_14
def o_Mo_root (N : bn_S) (ba : Int32) : Int64 × bn_S := (if r_Mo_isBridge (sI N 41 0 0) ba = 0 then (-1, (sI N 41 0 0)) else (((Int32.toInt64 (r_Mo_rootOf (sI N 41 0 0) (N.2.2.1 22 (ba.toNatClampNeg)))) + (256 * (Int32.toInt64 (r_Mo_costOf (sI N 41 0 0) (N.2.2.1 22 (ba.toNatClampNeg)))))) + (16777216 * (Int32.toInt64 (N.1 23 (ba.toNatClampNeg)))), (sI N 41 0 0)))
set_option maxHeartbeats 4000000 in
set_option maxRecDepth 100000 in
theorem c_Mo_root (l : Launch) (D : va_G) (ar : Nat → ClassId) (ad : Nat → Nat → Nat) (N : bn_S)  (ba : Int32) : bn_L l y_Mo_root w_Mo_root { frames := 1, cells := 0, slots := 0, locals := 21 } (mo_y D ar ad) N [.ref (ad 0 0), .int ba] (o_Mo_root N ba).1 (o_Mo_root N ba).2 := by
  intro sz
  refine bn_start (cc := b_Mo_root) (maxL := 2) (ret := (Option.some Jvm.ClassFile.FieldType.long)) (by decide) rfl (Nat.le_of_ble_eq_true rfl) ?_
  intro p e s m args below meth c ls hsz F hml hr hk hl h
  subst hsz
  have E1 := F.1
  have E2 := F.2.1
  have hl : lv_has ls 2 [(0, .ref (ad 0 0)), (1, .int ba)] := hl
  refine lv_aload_n E1 E2 d_Mo_root_0 rfl (lv_at hl 0 rfl) ?_
  refine lv_iconst (v := 0) E1 E2 d_Mo_root_1 (by decide) ?_
  refine p_Mo_thrown F h k_701 d_Mo_root_2 (fun H locs h => ?_)
  have h : bn_H (mo_y D ar ad) s.heap H locs (sI N 41 0 0) := h
  refine lv_iload_n E1 E2 d_Mo_root_5 rfl (lv_at hl 1 rfl) ?_
  refine bn_calli F h (bn_runS (n := 1) (As := [.int ba]) (rest := []) F hml hl.1 h (c_Mo_isBridge l D ar ad (sI N 41 0 0) ba _) (bn_goodS k_810 k_811 k_7 k_812) rfl rfl (by decide) ⟨by decide, by decide⟩ rfl rfl (Nat.le_of_ble_eq_true rfl) d_Mo_root_6 ⟨Nat.zero_le _, Nat.zero_le _⟩) (fun H locs h => ?_)
  refine lv_if_eq E1 E2 d_Mo_root_9 rfl (fun h1 => ?_) (fun h1 => ?_)
  · have h1 : r_Mo_isBridge (sI N 41 0 0) ba = 0 := h1
    refine lv_ldc2 (own := "BridgeNetModel") E1 E2 F.2.2.1 (F.2.2.2.1 _ k_951) d_Mo_root_52 ?_
    have hq : o_Mo_root N ba = (-1, (sI N 41 0 0)) := if_pos h1
    exact bn_retl2 F hr hk h hq d_Mo_root_55
  · have h1 : ¬ (r_Mo_isBridge (sI N 41 0 0) ba = 0) := h1
    refine lv_aload_n E1 E2 d_Mo_root_12 rfl (lv_at hl 0 rfl) ?_
    refine g_Mo_best F h k_724 d_Mo_root_13 ?_
    refine lv_iload_n E1 E2 d_Mo_root_16 rfl (lv_at hl 1 rfl) ?_
    have hn_ba := bn_isBm h1
    have hn_ba2 := hn_ba.2
    refine bn_ti hn_ba.1 ?_
    refine ml_best F h (i := ba.toNatClampNeg) (by omega) (v := N.2.2.1 22 (ba.toNatClampNeg)) rfl d_Mo_root_17 ?_
    refine bn_calli F h (bn_runS (n := 1) (As := [.long (N.2.2.1 22 (ba.toNatClampNeg))]) (rest := []) F hml hl.1 h (c_Mo_rootOf l D ar ad (sI N 41 0 0) (N.2.2.1 22 (ba.toNatClampNeg)) _) (bn_goodS k_833 k_834 k_7 k_835) rfl rfl (by decide) ⟨by decide, by decide⟩ rfl rfl (Nat.le_of_ble_eq_true rfl) d_Mo_root_18 ⟨Nat.zero_le _, Nat.zero_le _⟩) (fun H locs h => ?_)
    refine lv_i2l (v := Int32.toInt64 (r_Mo_rootOf (sI N 41 0 0) (N.2.2.1 22 (ba.toNatClampNeg)))) E1 E2 d_Mo_root_21 rfl ?_
    refine lv_ldc2 (own := "BridgeNetModel") E1 E2 F.2.2.1 (F.2.2.2.1 _ k_949) d_Mo_root_22 ?_
    refine lv_aload_n E1 E2 d_Mo_root_25 rfl (lv_at hl 0 rfl) ?_
    refine g_Mo_best F h k_724 d_Mo_root_26 ?_
    refine lv_iload_n E1 E2 d_Mo_root_29 rfl (lv_at hl 1 rfl) ?_
    refine bn_ti hn_ba.1 ?_
    refine ml_best F h (i := ba.toNatClampNeg) (by omega) (v := N.2.2.1 22 (ba.toNatClampNeg)) rfl d_Mo_root_30 ?_
    refine bn_calli F h (bn_runS (n := 1) (As := [.long (N.2.2.1 22 (ba.toNatClampNeg))]) (rest := [.long 256, .long (Int32.toInt64 (r_Mo_rootOf (sI N 41 0 0) (N.2.2.1 22 (ba.toNatClampNeg))))]) F hml hl.1 h (c_Mo_costOf l D ar ad (sI N 41 0 0) (N.2.2.1 22 (ba.toNatClampNeg)) _) (bn_goodS k_836 k_837 k_7 k_838) rfl rfl (by decide) ⟨by decide, by decide⟩ rfl rfl (Nat.le_of_ble_eq_true rfl) d_Mo_root_31 ⟨Nat.zero_le _, Nat.zero_le _⟩) (fun H locs h => ?_)
    refine lv_i2l (v := Int32.toInt64 (r_Mo_costOf (sI N 41 0 0) (N.2.2.1 22 (ba.toNatClampNeg)))) E1 E2 d_Mo_root_34 rfl ?_
    refine lv_lmul E1 E2 d_Mo_root_35 ?_
    refine lv_ladd E1 E2 d_Mo_root_36 ?_
    refine lv_ldc2 (own := "BridgeNetModel") E1 E2 F.2.2.1 (F.2.2.2.1 _ k_950) d_Mo_root_37 ?_
    refine lv_aload_n E1 E2 d_Mo_root_40 rfl (lv_at hl 0 rfl) ?_
    refine g_Mo_hops F h k_725 d_Mo_root_41 ?_
    refine lv_iload_n E1 E2 d_Mo_root_44 rfl (lv_at hl 1 rfl) ?_
    refine bn_ti hn_ba.1 ?_
    refine ml_hops F h (i := ba.toNatClampNeg) (by omega) (v := N.1 23 (ba.toNatClampNeg)) rfl d_Mo_root_45 ?_
    refine lv_i2l (v := Int32.toInt64 (N.1 23 (ba.toNatClampNeg))) E1 E2 d_Mo_root_46 rfl ?_
    refine lv_lmul E1 E2 d_Mo_root_47 ?_
    refine lv_ladd E1 E2 d_Mo_root_48 ?_
    refine lv_goto E1 E2 d_Mo_root_49 rfl ?_
    have hq : o_Mo_root N ba = (((Int32.toInt64 (r_Mo_rootOf (sI N 41 0 0) (N.2.2.1 22 (ba.toNatClampNeg)))) + (256 * (Int32.toInt64 (r_Mo_costOf (sI N 41 0 0) (N.2.2.1 22 (ba.toNatClampNeg)))))) + (16777216 * (Int32.toInt64 (N.1 23 (ba.toNatClampNeg)))), (sI N 41 0 0)) := if_neg h1
    exact bn_retl2 F hr hk h hq d_Mo_root_55
def o_Mo_info (N : bn_S) (ba : Int32) (pa : Int32) : Int64 × bn_S := (if r_Mo_isPort (sI N 41 0 0) ba pa = 0 then ((-1 : Int64), (sI N 41 0 0)) else (if N.1 12 ((4 * (ba.toNatClampNeg)) + (pa.toNatClampNeg)) = 0 then ((-1 : Int64), (sI N 41 0 0)) else ((((((Int32.toInt64 (r_Mo_rootOf (sI N 41 0 0) (N.2.2.1 10 ((4 * (ba.toNatClampNeg)) + (pa.toNatClampNeg))))) + ((256 : Int64) * (Int32.toInt64 (r_Mo_costOf (sI N 41 0 0) (N.2.2.1 10 ((4 * (ba.toNatClampNeg)) + (pa.toNatClampNeg))))))) + ((Int32.toInt64 ((r_Mo_teller (sI N 41 0 0) (N.2.2.1 10 ((4 * (ba.toNatClampNeg)) + (pa.toNatClampNeg)))) >>> (8 &&& 31))) <<< (Int32.toInt64 24 &&& 63))) + (((N.2.2.1 10 ((4 * (ba.toNatClampNeg)) + (pa.toNatClampNeg))) &&& (255 : Int64)) <<< (Int32.toInt64 32 &&& 63))) + ((Int32.toInt64 (N.1 11 ((4 * (ba.toNatClampNeg)) + (pa.toNatClampNeg)))) <<< (Int32.toInt64 40 &&& 63))) + ((Int32.toInt64 (N.1 12 ((4 * (ba.toNatClampNeg)) + (pa.toNatClampNeg)))) <<< (Int32.toInt64 48 &&& 63)), (sI N 41 0 0))))
set_option maxHeartbeats 4000000 in
set_option maxRecDepth 100000 in
theorem c_Mo_info (l : Launch) (D : va_G) (ar : Nat → ClassId) (ad : Nat → Nat → Nat) (N : bn_S)  (ba : Int32) (pa : Int32) : bn_L l y_Mo_info w_Mo_info { frames := 2, cells := 0, slots := 0, locals := 41 } (mo_y D ar ad) N [.ref (ad 0 0), .int ba, .int pa] (o_Mo_info N ba pa).1 (o_Mo_info N ba pa).2 := by
  intro sz
  refine bn_start (cc := b_Mo_info) (maxL := 8) (ret := (Option.some Jvm.ClassFile.FieldType.long)) (by decide) rfl (Nat.le_of_ble_eq_true rfl) ?_
  intro p e s m args below meth c ls hsz F hml hr hk hl h
  subst hsz
  have E1 := F.1
  have E2 := F.2.1
  have hl : lv_has ls 8 [(0, .ref (ad 0 0)), (1, .int ba), (2, .int pa)] := hl
  refine lv_aload_n E1 E2 d_Mo_info_0 rfl (lv_at hl 0 rfl) ?_
  refine lv_iconst (v := 0) E1 E2 d_Mo_info_1 (by decide) ?_
  refine p_Mo_thrown F h k_701 d_Mo_info_2 (fun H locs h => ?_)
  have h : bn_H (mo_y D ar ad) s.heap H locs (sI N 41 0 0) := h
  refine lv_iload_n E1 E2 d_Mo_info_5 rfl (lv_at hl 1 rfl) ?_
  refine lv_iload_n E1 E2 d_Mo_info_6 rfl (lv_at hl 2 rfl) ?_
  refine bn_calli F h (bn_runS (n := 2) (As := [.int ba, .int pa]) (rest := []) F hml hl.1 h (c_Mo_isPort l D ar ad (sI N 41 0 0) ba pa _) (bn_goodS k_807 k_808 k_7 k_809) rfl rfl (by decide) ⟨by decide, by decide⟩ rfl rfl (Nat.le_of_ble_eq_true rfl) d_Mo_info_7 ⟨Nat.zero_le _, Nat.zero_le _⟩) (fun H locs h => ?_)
  refine lv_if_eq E1 E2 d_Mo_info_10 rfl (fun h1 => ?_) (fun h1 => ?_)
  · have h1 : r_Mo_isPort (sI N 41 0 0) ba pa = 0 := h1
    refine lv_ldc2 (own := "BridgeNetModel") E1 E2 F.2.2.1 (F.2.2.2.1 _ k_951) d_Mo_info_26 ?_
    have hq : o_Mo_info N ba pa = ((-1 : Int64), (sI N 41 0 0)) := if_pos h1
    exact bn_retl2 F hr hk h hq d_Mo_info_29
  · have h1 : ¬ (r_Mo_isPort (sI N 41 0 0) ba pa = 0) := h1
    refine lv_aload_n E1 E2 d_Mo_info_13 rfl (lv_at hl 0 rfl) ?_
    refine g_Mo_life F h k_714 d_Mo_info_14 ?_
    refine lv_iconst (v := 4) E1 E2 d_Mo_info_17 (by decide) ?_
    refine lv_iload_n E1 E2 d_Mo_info_18 rfl (lv_at hl 1 rfl) ?_
    have hn_ba := bn_isPb h1
    have hn_ba2 := hn_ba.2
    refine bn_ti hn_ba.1 ?_
    refine lv_imul E1 E2 d_Mo_info_19 ?_
    refine bn_ti (y := nI (4 * (ba.toNatClampNeg))) (pk_mul 4 (ba.toNatClampNeg)) ?_
    refine lv_iload_n E1 E2 d_Mo_info_20 rfl (lv_at hl 2 rfl) ?_
    have hn_pa := bn_isPp h1
    have hn_pa2 := hn_pa.2
    refine bn_ti hn_pa.1 ?_
    refine lv_iadd E1 E2 d_Mo_info_21 ?_
    refine bn_ti (y := nI ((4 * (ba.toNatClampNeg)) + (pa.toNatClampNeg))) (nI_add (4 * (ba.toNatClampNeg)) (pa.toNatClampNeg)) ?_
    refine ml_life F h (i := (4 * (ba.toNatClampNeg)) + (pa.toNatClampNeg)) (by omega) (v := N.1 12 ((4 * (ba.toNatClampNeg)) + (pa.toNatClampNeg))) rfl d_Mo_info_22 ?_
    refine lv_if_ne E1 E2 d_Mo_info_23 rfl (fun h2 => ?_) (fun h2 => ?_)
    · have h2 : ¬ (N.1 12 ((4 * (ba.toNatClampNeg)) + (pa.toNatClampNeg)) = 0) := h2
      refine lv_iconst (v := 4) E1 E2 d_Mo_info_30 (by decide) ?_
      refine lv_iload_n E1 E2 d_Mo_info_31 rfl (lv_at hl 1 rfl) ?_
      refine bn_ti hn_ba.1 ?_
      refine lv_imul E1 E2 d_Mo_info_32 ?_
      refine bn_ti (y := nI (4 * (ba.toNatClampNeg))) (pk_mul 4 (ba.toNatClampNeg)) ?_
      refine lv_iload_n E1 E2 d_Mo_info_33 rfl (lv_at hl 2 rfl) ?_
      refine bn_ti hn_pa.1 ?_
      refine lv_iadd E1 E2 d_Mo_info_34 ?_
      refine bn_ti (y := nI ((4 * (ba.toNatClampNeg)) + (pa.toNatClampNeg))) (nI_add (4 * (ba.toNatClampNeg)) (pa.toNatClampNeg)) ?_
      refine lv_istore_n E1 E2 d_Mo_info_35 rfl hl (by decide) rfl (fun ls hl => ?_)
      have hl : lv_has ls 8 [(3, .int (nI ((4 * (ba.toNatClampNeg)) + (pa.toNatClampNeg)))), (0, .ref (ad 0 0)), (1, .int ba), (2, .int pa)] := hl
      refine lv_aload_n E1 E2 d_Mo_info_36 rfl (lv_at hl 1 rfl) ?_
      refine g_Mo_info F h k_712 d_Mo_info_37 ?_
      refine lv_iload_n E1 E2 d_Mo_info_40 rfl (lv_at hl 0 rfl) ?_
      refine ml_info F h (i := (4 * (ba.toNatClampNeg)) + (pa.toNatClampNeg)) (by omega) (v := N.2.2.1 10 ((4 * (ba.toNatClampNeg)) + (pa.toNatClampNeg))) rfl d_Mo_info_41 ?_
      refine lv_lstore E1 E2 d_Mo_info_42 hl (by decide) rfl (fun ls hl => ?_)
      have hl : lv_has ls 8 [(4, .long (N.2.2.1 10 ((4 * (ba.toNatClampNeg)) + (pa.toNatClampNeg)))), (3, .int (nI ((4 * (ba.toNatClampNeg)) + (pa.toNatClampNeg)))), (0, .ref (ad 0 0)), (1, .int ba), (2, .int pa)] := hl
      refine lv_lload E1 E2 d_Mo_info_44 (lv_at hl 0 rfl) ?_
      refine bn_calli F h (bn_runS (n := 1) (As := [.long (N.2.2.1 10 ((4 * (ba.toNatClampNeg)) + (pa.toNatClampNeg)))]) (rest := []) F hml hl.1 h (c_Mo_teller l D ar ad (sI N 41 0 0) (N.2.2.1 10 ((4 * (ba.toNatClampNeg)) + (pa.toNatClampNeg))) _) (bn_goodS k_848 k_849 k_7 k_850) rfl rfl (by decide) ⟨by decide, by decide⟩ rfl rfl (Nat.le_of_ble_eq_true rfl) d_Mo_info_46 ⟨Nat.zero_le _, Nat.zero_le _⟩) (fun H locs h => ?_)
      refine lv_bipush (v := 8) E1 E2 d_Mo_info_49 (by decide) ?_
      refine lv_ishr E1 E2 d_Mo_info_51 ?_
      refine lv_i2l (v := Int32.toInt64 ((r_Mo_teller (sI N 41 0 0) (N.2.2.1 10 ((4 * (ba.toNatClampNeg)) + (pa.toNatClampNeg)))) >>> (8 &&& 31))) E1 E2 d_Mo_info_52 rfl ?_
      refine lv_lstore E1 E2 d_Mo_info_53 hl (by decide) rfl (fun ls hl => ?_)
      have hl : lv_has ls 8 [(6, .long (Int32.toInt64 ((r_Mo_teller (sI N 41 0 0) (N.2.2.1 10 ((4 * (ba.toNatClampNeg)) + (pa.toNatClampNeg)))) >>> (8 &&& 31)))), (4, .long (N.2.2.1 10 ((4 * (ba.toNatClampNeg)) + (pa.toNatClampNeg)))), (3, .int (nI ((4 * (ba.toNatClampNeg)) + (pa.toNatClampNeg)))), (0, .ref (ad 0 0)), (1, .int ba), (2, .int pa)] := hl
      refine lv_lload E1 E2 d_Mo_info_55 (lv_at hl 1 rfl) ?_
      refine bn_calli F h (bn_runS (n := 1) (As := [.long (N.2.2.1 10 ((4 * (ba.toNatClampNeg)) + (pa.toNatClampNeg)))]) (rest := []) F hml hl.1 h (c_Mo_rootOf l D ar ad (sI N 41 0 0) (N.2.2.1 10 ((4 * (ba.toNatClampNeg)) + (pa.toNatClampNeg))) _) (bn_goodS k_833 k_834 k_7 k_835) rfl rfl (by decide) ⟨by decide, by decide⟩ rfl rfl (Nat.le_of_ble_eq_true rfl) d_Mo_info_57 ⟨Nat.zero_le _, Nat.zero_le _⟩) (fun H locs h => ?_)
      refine lv_i2l (v := Int32.toInt64 (r_Mo_rootOf (sI N 41 0 0) (N.2.2.1 10 ((4 * (ba.toNatClampNeg)) + (pa.toNatClampNeg))))) E1 E2 d_Mo_info_60 rfl ?_
      refine lv_ldc2 (own := "BridgeNetModel") E1 E2 F.2.2.1 (F.2.2.2.1 _ k_949) d_Mo_info_61 ?_
      refine lv_lload E1 E2 d_Mo_info_64 (lv_at hl 1 rfl) ?_
      refine bn_calli F h (bn_runS (n := 1) (As := [.long (N.2.2.1 10 ((4 * (ba.toNatClampNeg)) + (pa.toNatClampNeg)))]) (rest := [.long (256 : Int64), .long (Int32.toInt64 (r_Mo_rootOf (sI N 41 0 0) (N.2.2.1 10 ((4 * (ba.toNatClampNeg)) + (pa.toNatClampNeg)))))]) F hml hl.1 h (c_Mo_costOf l D ar ad (sI N 41 0 0) (N.2.2.1 10 ((4 * (ba.toNatClampNeg)) + (pa.toNatClampNeg))) _) (bn_goodS k_836 k_837 k_7 k_838) rfl rfl (by decide) ⟨by decide, by decide⟩ rfl rfl (Nat.le_of_ble_eq_true rfl) d_Mo_info_66 ⟨Nat.zero_le _, Nat.zero_le _⟩) (fun H locs h => ?_)
      refine lv_i2l (v := Int32.toInt64 (r_Mo_costOf (sI N 41 0 0) (N.2.2.1 10 ((4 * (ba.toNatClampNeg)) + (pa.toNatClampNeg))))) E1 E2 d_Mo_info_69 rfl ?_
      refine lv_lmul E1 E2 d_Mo_info_70 ?_
      refine lv_ladd E1 E2 d_Mo_info_71 ?_
      refine lv_lload E1 E2 d_Mo_info_72 (lv_at hl 0 rfl) ?_
      refine lv_bipush (v := 24) E1 E2 d_Mo_info_74 (by decide) ?_
      refine lv_lshl (v := (Int32.toInt64 ((r_Mo_teller (sI N 41 0 0) (N.2.2.1 10 ((4 * (ba.toNatClampNeg)) + (pa.toNatClampNeg)))) >>> (8 &&& 31))) <<< (Int32.toInt64 24 &&& 63)) E1 E2 d_Mo_info_76 rfl ?_
      refine lv_ladd E1 E2 d_Mo_info_77 ?_
      refine lv_lload E1 E2 d_Mo_info_78 (lv_at hl 1 rfl) ?_
      refine lv_ldc2 (own := "BridgeNetModel") E1 E2 F.2.2.1 (F.2.2.2.1 _ k_956) d_Mo_info_80 ?_
      refine lv_land E1 E2 d_Mo_info_83 ?_
      refine lv_bipush (v := 32) E1 E2 d_Mo_info_84 (by decide) ?_
      refine lv_lshl (v := ((N.2.2.1 10 ((4 * (ba.toNatClampNeg)) + (pa.toNatClampNeg))) &&& (255 : Int64)) <<< (Int32.toInt64 32 &&& 63)) E1 E2 d_Mo_info_86 rfl ?_
      refine lv_ladd E1 E2 d_Mo_info_87 ?_
      refine lv_aload_n E1 E2 d_Mo_info_88 rfl (lv_at hl 3 rfl) ?_
      refine g_Mo_infoHops F h k_713 d_Mo_info_89 ?_
      refine lv_iload_n E1 E2 d_Mo_info_92 rfl (lv_at hl 2 rfl) ?_
      refine ml_infoHops F h (i := (4 * (ba.toNatClampNeg)) + (pa.toNatClampNeg)) (by omega) (v := N.1 11 ((4 * (ba.toNatClampNeg)) + (pa.toNatClampNeg))) rfl d_Mo_info_93 ?_
      refine lv_i2l (v := Int32.toInt64 (N.1 11 ((4 * (ba.toNatClampNeg)) + (pa.toNatClampNeg)))) E1 E2 d_Mo_info_94 rfl ?_
      refine lv_bipush (v := 40) E1 E2 d_Mo_info_95 (by decide) ?_
      refine lv_lshl (v := (Int32.toInt64 (N.1 11 ((4 * (ba.toNatClampNeg)) + (pa.toNatClampNeg)))) <<< (Int32.toInt64 40 &&& 63)) E1 E2 d_Mo_info_97 rfl ?_
      refine lv_ladd E1 E2 d_Mo_info_98 ?_
      refine lv_aload_n E1 E2 d_Mo_info_99 rfl (lv_at hl 3 rfl) ?_
      refine g_Mo_life F h k_714 d_Mo_info_100 ?_
      refine lv_iload_n E1 E2 d_Mo_info_103 rfl (lv_at hl 2 rfl) ?_
      refine ml_life F h (i := (4 * (ba.toNatClampNeg)) + (pa.toNatClampNeg)) (by omega) (v := N.1 12 ((4 * (ba.toNatClampNeg)) + (pa.toNatClampNeg))) rfl d_Mo_info_104 ?_
      refine lv_i2l (v := Int32.toInt64 (N.1 12 ((4 * (ba.toNatClampNeg)) + (pa.toNatClampNeg)))) E1 E2 d_Mo_info_105 rfl ?_
      refine lv_bipush (v := 48) E1 E2 d_Mo_info_106 (by decide) ?_
      refine lv_lshl (v := (Int32.toInt64 (N.1 12 ((4 * (ba.toNatClampNeg)) + (pa.toNatClampNeg)))) <<< (Int32.toInt64 48 &&& 63)) E1 E2 d_Mo_info_108 rfl ?_
      refine lv_ladd E1 E2 d_Mo_info_109 ?_
      have hq : o_Mo_info N ba pa = ((((((Int32.toInt64 (r_Mo_rootOf (sI N 41 0 0) (N.2.2.1 10 ((4 * (ba.toNatClampNeg)) + (pa.toNatClampNeg))))) + ((256 : Int64) * (Int32.toInt64 (r_Mo_costOf (sI N 41 0 0) (N.2.2.1 10 ((4 * (ba.toNatClampNeg)) + (pa.toNatClampNeg))))))) + ((Int32.toInt64 ((r_Mo_teller (sI N 41 0 0) (N.2.2.1 10 ((4 * (ba.toNatClampNeg)) + (pa.toNatClampNeg)))) >>> (8 &&& 31))) <<< (Int32.toInt64 24 &&& 63))) + (((N.2.2.1 10 ((4 * (ba.toNatClampNeg)) + (pa.toNatClampNeg))) &&& (255 : Int64)) <<< (Int32.toInt64 32 &&& 63))) + ((Int32.toInt64 (N.1 11 ((4 * (ba.toNatClampNeg)) + (pa.toNatClampNeg)))) <<< (Int32.toInt64 40 &&& 63))) + ((Int32.toInt64 (N.1 12 ((4 * (ba.toNatClampNeg)) + (pa.toNatClampNeg)))) <<< (Int32.toInt64 48 &&& 63)), (sI N 41 0 0)) := Eq.trans (if_neg h1) (if_neg h2)
      exact bn_retl2 F hr hk h hq d_Mo_info_110
    · have h2 : N.1 12 ((4 * (ba.toNatClampNeg)) + (pa.toNatClampNeg)) = 0 := h2
      refine lv_ldc2 (own := "BridgeNetModel") E1 E2 F.2.2.1 (F.2.2.2.1 _ k_951) d_Mo_info_26 ?_
      have hq : o_Mo_info N ba pa = ((-1 : Int64), (sI N 41 0 0)) := Eq.trans (if_neg h1) (if_pos h2)
      exact bn_retl2 F hr hk h hq d_Mo_info_29
def o_Mo_learned (N : bn_S) (ba : Int32) (sa : Int32) (va : Int32) : Int32 × bn_S := (if r_Mo_isBridge (sI N 41 0 0) ba = 0 then ((-1), (sI N 41 0 0)) else (if sa < 0 then ((-1), (sI N 41 0 0)) else (if 7 < sa then ((-1), (sI N 41 0 0)) else (if va < 1 then ((-1), (sI N 41 0 0)) else (if va ≤ 2 then (if N.1 25 ((((16 * (ba.toNatClampNeg)) + (2 * (sa.toNatClampNeg))) + (va.toNatClampNeg)) - 1) ≤ 0 then ((-1), (sI N 41 0 0)) else (nI (N.2.1 26 ((((16 * (ba.toNatClampNeg)) + (2 * (sa.toNatClampNeg))) + (va.toNatClampNeg)) - 1)), (sI N 41 0 0))) else ((-1), (sI N 41 0 0)))))))
set_option maxHeartbeats 4000000 in
set_option maxRecDepth 100000 in
theorem c_Mo_learned (l : Launch) (D : va_G) (ar : Nat → ClassId) (ad : Nat → Nat → Nat) (N : bn_S)  (ba : Int32) (sa : Int32) (va : Int32) : bn_I l y_Mo_learned w_Mo_learned { frames := 1, cells := 0, slots := 0, locals := 20 } (mo_y D ar ad) N [.ref (ad 0 0), .int ba, .int sa, .int va] (o_Mo_learned N ba sa va).1 (o_Mo_learned N ba sa va).2 := by
  intro sz
  refine bn_start (cc := b_Mo_learned) (maxL := 5) (ret := (Option.some Jvm.ClassFile.FieldType.int)) (by decide) rfl (Nat.le_of_ble_eq_true rfl) ?_
  intro p e s m args below meth c ls hsz F hml hr hk hl h
  subst hsz
  have E1 := F.1
  have E2 := F.2.1
  have hl : lv_has ls 5 [(0, .ref (ad 0 0)), (1, .int ba), (2, .int sa), (3, .int va)] := hl
  refine lv_aload_n E1 E2 d_Mo_learned_0 rfl (lv_at hl 0 rfl) ?_
  refine lv_iconst (v := 0) E1 E2 d_Mo_learned_1 (by decide) ?_
  refine p_Mo_thrown F h k_701 d_Mo_learned_2 (fun H locs h => ?_)
  have h : bn_H (mo_y D ar ad) s.heap H locs (sI N 41 0 0) := h
  refine lv_iload_n E1 E2 d_Mo_learned_5 rfl (lv_at hl 1 rfl) ?_
  refine bn_calli F h (bn_runS (n := 1) (As := [.int ba]) (rest := []) F hml hl.1 h (c_Mo_isBridge l D ar ad (sI N 41 0 0) ba _) (bn_goodS k_810 k_811 k_7 k_812) rfl rfl (by decide) ⟨by decide, by decide⟩ rfl rfl (Nat.le_of_ble_eq_true rfl) d_Mo_learned_6 ⟨Nat.zero_le _, Nat.zero_le _⟩) (fun H locs h => ?_)
  refine lv_if_eq E1 E2 d_Mo_learned_9 rfl (fun h1 => ?_) (fun h1 => ?_)
  · have h1 : r_Mo_isBridge (sI N 41 0 0) ba = 0 := h1
    refine lv_iconst (v := (-1)) E1 E2 d_Mo_learned_32 (by decide) ?_
    have hq : o_Mo_learned N ba sa va = ((-1), (sI N 41 0 0)) := if_pos h1
    exact bn_reti2 F hr hk h hq d_Mo_learned_33
  · have h1 : ¬ (r_Mo_isBridge (sI N 41 0 0) ba = 0) := h1
    refine lv_iload_n E1 E2 d_Mo_learned_12 rfl (lv_at hl 2 rfl) ?_
    refine lv_if_lt E1 E2 d_Mo_learned_13 rfl (fun h2 => ?_) (fun h2 => ?_)
    · have h2 : sa < 0 := h2
      refine lv_iconst (v := (-1)) E1 E2 d_Mo_learned_32 (by decide) ?_
      have hq : o_Mo_learned N ba sa va = ((-1), (sI N 41 0 0)) := Eq.trans (if_neg h1) (if_pos h2)
      exact bn_reti2 F hr hk h hq d_Mo_learned_33
    · have h2 : ¬ (sa < 0) := h2
      refine lv_iload_n E1 E2 d_Mo_learned_16 rfl (lv_at hl 2 rfl) ?_
      refine lv_bipush (v := 7) E1 E2 d_Mo_learned_17 (by decide) ?_
      refine lv_icmp_gt E1 E2 d_Mo_learned_19 rfl (fun h3 => ?_) (fun h3 => ?_)
      · have h3 : 7 < sa := h3
        refine lv_iconst (v := (-1)) E1 E2 d_Mo_learned_32 (by decide) ?_
        have hq : o_Mo_learned N ba sa va = ((-1), (sI N 41 0 0)) := Eq.trans (if_neg h1) (Eq.trans (if_neg h2) (if_pos h3))
        exact bn_reti2 F hr hk h hq d_Mo_learned_33
      · have h3 : ¬ (7 < sa) := h3
        refine lv_iload_n E1 E2 d_Mo_learned_22 rfl (lv_at hl 3 rfl) ?_
        refine lv_iconst (v := 1) E1 E2 d_Mo_learned_23 (by decide) ?_
        refine lv_icmp_lt E1 E2 d_Mo_learned_24 rfl (fun h4 => ?_) (fun h4 => ?_)
        · have h4 : va < 1 := h4
          refine lv_iconst (v := (-1)) E1 E2 d_Mo_learned_32 (by decide) ?_
          have hq : o_Mo_learned N ba sa va = ((-1), (sI N 41 0 0)) := Eq.trans (if_neg h1) (Eq.trans (if_neg h2) (Eq.trans (if_neg h3) (if_pos h4)))
          exact bn_reti2 F hr hk h hq d_Mo_learned_33
        · have h4 : ¬ (va < 1) := h4
          refine lv_iload_n E1 E2 d_Mo_learned_27 rfl (lv_at hl 3 rfl) ?_
          refine lv_iconst (v := 2) E1 E2 d_Mo_learned_28 (by decide) ?_
          refine lv_icmp_le E1 E2 d_Mo_learned_29 rfl (fun h5 => ?_) (fun h5 => ?_)
          · have h5 : va ≤ 2 := h5
            refine lv_bipush (v := 16) E1 E2 d_Mo_learned_34 (by decide) ?_
            refine lv_iload_n E1 E2 d_Mo_learned_36 rfl (lv_at hl 1 rfl) ?_
            have hn_ba := bn_isBm h1
            have hn_ba2 := hn_ba.2
            refine bn_ti hn_ba.1 ?_
            refine lv_imul E1 E2 d_Mo_learned_37 ?_
            refine bn_ti (y := nI (16 * (ba.toNatClampNeg))) (pk_mul 16 (ba.toNatClampNeg)) ?_
            refine lv_iconst (v := 2) E1 E2 d_Mo_learned_38 (by decide) ?_
            refine lv_iload_n E1 E2 d_Mo_learned_39 rfl (lv_at hl 2 rfl) ?_
            have hn_sa := bn_natlt (n := 7) h2 h3 (by decide)
            have hn_sa2 := hn_sa.2
            refine bn_ti hn_sa.1 ?_
            refine lv_imul E1 E2 d_Mo_learned_40 ?_
            refine bn_ti (y := nI (2 * (sa.toNatClampNeg))) (pk_mul 2 (sa.toNatClampNeg)) ?_
            refine lv_iadd E1 E2 d_Mo_learned_41 ?_
            refine bn_ti (y := nI ((16 * (ba.toNatClampNeg)) + (2 * (sa.toNatClampNeg)))) (nI_add (16 * (ba.toNatClampNeg)) (2 * (sa.toNatClampNeg))) ?_
            refine lv_iload_n E1 E2 d_Mo_learned_42 rfl (lv_at hl 3 rfl) ?_
            have hn_va := bn_natlt1 (n := 2) h4 (Int32.not_lt.mpr h5) (by decide)
            have hn_va2 := hn_va.2
            refine bn_ti hn_va.1 ?_
            refine lv_iadd E1 E2 d_Mo_learned_43 ?_
            refine bn_ti (y := nI (((16 * (ba.toNatClampNeg)) + (2 * (sa.toNatClampNeg))) + (va.toNatClampNeg))) (nI_add ((16 * (ba.toNatClampNeg)) + (2 * (sa.toNatClampNeg))) (va.toNatClampNeg)) ?_
            refine lv_iconst (v := 1) E1 E2 d_Mo_learned_44 (by decide) ?_
            refine lv_isub E1 E2 d_Mo_learned_45 ?_
            refine bn_ti (y := nI ((((16 * (ba.toNatClampNeg)) + (2 * (sa.toNatClampNeg))) + (va.toNatClampNeg)) - 1)) (pk_sub (a := (((16 * (ba.toNatClampNeg)) + (2 * (sa.toNatClampNeg))) + (va.toNatClampNeg))) (b := 1) (by omega)) ?_
            refine lv_istore E1 E2 d_Mo_learned_46 hl (by decide) rfl (fun ls hl => ?_)
            have hl : lv_has ls 5 [(4, .int (nI ((((16 * (ba.toNatClampNeg)) + (2 * (sa.toNatClampNeg))) + (va.toNatClampNeg)) - 1))), (0, .ref (ad 0 0)), (1, .int ba), (2, .int sa), (3, .int va)] := hl
            refine lv_aload_n E1 E2 d_Mo_learned_48 rfl (lv_at hl 1 rfl) ?_
            refine g_Mo_known F h k_727 d_Mo_learned_49 ?_
            refine lv_iload E1 E2 d_Mo_learned_52 (lv_at hl 0 rfl) ?_
            refine ml_known F h (i := (((16 * (ba.toNatClampNeg)) + (2 * (sa.toNatClampNeg))) + (va.toNatClampNeg)) - 1) (by omega) (v := N.1 25 ((((16 * (ba.toNatClampNeg)) + (2 * (sa.toNatClampNeg))) + (va.toNatClampNeg)) - 1)) rfl d_Mo_learned_54 ?_
            refine lv_if_le E1 E2 d_Mo_learned_55 rfl (fun h6 => ?_) (fun h6 => ?_)
            · have h6 : N.1 25 ((((16 * (ba.toNatClampNeg)) + (2 * (sa.toNatClampNeg))) + (va.toNatClampNeg)) - 1) ≤ 0 := h6
              refine lv_iconst (v := (-1)) E1 E2 d_Mo_learned_68 (by decide) ?_
              have hq : o_Mo_learned N ba sa va = ((-1), (sI N 41 0 0)) := Eq.trans (if_neg h1) (Eq.trans (if_neg h2) (Eq.trans (if_neg h3) (Eq.trans (if_neg h4) (Eq.trans (if_pos h5) (if_pos h6)))))
              exact bn_reti2 F hr hk h hq d_Mo_learned_69
            · have h6 : ¬ (N.1 25 ((((16 * (ba.toNatClampNeg)) + (2 * (sa.toNatClampNeg))) + (va.toNatClampNeg)) - 1) ≤ 0) := h6
              refine lv_aload_n E1 E2 d_Mo_learned_58 rfl (lv_at hl 1 rfl) ?_
              refine g_Mo_behind F h k_728 d_Mo_learned_59 ?_
              refine lv_iload E1 E2 d_Mo_learned_62 (lv_at hl 0 rfl) ?_
              refine ml_behind F h (i := (((16 * (ba.toNatClampNeg)) + (2 * (sa.toNatClampNeg))) + (va.toNatClampNeg)) - 1) (by omega) (v := N.2.1 26 ((((16 * (ba.toNatClampNeg)) + (2 * (sa.toNatClampNeg))) + (va.toNatClampNeg)) - 1)) rfl d_Mo_learned_64 ?_
              refine lv_goto E1 E2 d_Mo_learned_65 rfl ?_
              have hq : o_Mo_learned N ba sa va = (nI (N.2.1 26 ((((16 * (ba.toNatClampNeg)) + (2 * (sa.toNatClampNeg))) + (va.toNatClampNeg)) - 1)), (sI N 41 0 0)) := Eq.trans (if_neg h1) (Eq.trans (if_neg h2) (Eq.trans (if_neg h3) (Eq.trans (if_neg h4) (Eq.trans (if_pos h5) (if_neg h6)))))
              exact bn_reti2 F hr hk h hq d_Mo_learned_69
          · have h5 : ¬ (va ≤ 2) := h5
            refine lv_iconst (v := (-1)) E1 E2 d_Mo_learned_32 (by decide) ?_
            have hq : o_Mo_learned N ba sa va = ((-1), (sI N 41 0 0)) := Eq.trans (if_neg h1) (Eq.trans (if_neg h2) (Eq.trans (if_neg h3) (Eq.trans (if_neg h4) (if_neg h5))))
            exact bn_reti2 F hr hk h hq d_Mo_learned_33
def o_Mo_inbox (N : bn_S) (sa : Int32) (ka : Int32) : Int64 × bn_S := (if sa < 0 then (-1, (sI N 41 0 0)) else (if 7 < sa then (-1, (sI N 41 0 0)) else (if ka < (-1) then (-1, (sI N 41 0 0)) else (if ka < nI (N.2.1 29 (sa.toNatClampNeg)) then (if ka = (-1) then (Int32.toInt64 (nI (N.2.1 29 (sa.toNatClampNeg))), (sI N 41 0 0)) else (N.2.2.1 30 ((40 * (sa.toNatClampNeg)) + (ka.toNatClampNeg)), (sI N 41 0 0))) else (-1, (sI N 41 0 0))))))
set_option maxHeartbeats 4000000 in
set_option maxRecDepth 100000 in
theorem c_Mo_inbox (l : Launch) (D : va_G) (ar : Nat → ClassId) (ad : Nat → Nat → Nat) (N : bn_S)  (sa : Int32) (ka : Int32) : bn_L l y_Mo_inbox w_Mo_inbox { frames := 0, cells := 0, slots := 0, locals := 0 } (mo_y D ar ad) N [.ref (ad 0 0), .int sa, .int ka] (o_Mo_inbox N sa ka).1 (o_Mo_inbox N sa ka).2 := by
  intro sz
  refine bn_start (cc := b_Mo_inbox) (maxL := 3) (ret := (Option.some Jvm.ClassFile.FieldType.long)) (by decide) rfl (Nat.le_of_ble_eq_true rfl) ?_
  intro p e s m args below meth c ls hsz F hml hr hk hl h
  subst hsz
  have E1 := F.1
  have E2 := F.2.1
  have hl : lv_has ls 3 [(0, .ref (ad 0 0)), (1, .int sa), (2, .int ka)] := hl
  refine lv_aload_n E1 E2 d_Mo_inbox_0 rfl (lv_at hl 0 rfl) ?_
  refine lv_iconst (v := 0) E1 E2 d_Mo_inbox_1 (by decide) ?_
  refine p_Mo_thrown F h k_701 d_Mo_inbox_2 (fun H locs h => ?_)
  have h : bn_H (mo_y D ar ad) s.heap H locs (sI N 41 0 0) := h
  refine lv_iload_n E1 E2 d_Mo_inbox_5 rfl (lv_at hl 1 rfl) ?_
  refine lv_if_lt E1 E2 d_Mo_inbox_6 rfl (fun h1 => ?_) (fun h1 => ?_)
  · have h1 : sa < 0 := h1
    refine lv_ldc2 (own := "BridgeNetModel") E1 E2 F.2.2.1 (F.2.2.2.1 _ k_951) d_Mo_inbox_30 ?_
    have hq : o_Mo_inbox N sa ka = (-1, (sI N 41 0 0)) := if_pos h1
    exact bn_retl2 F hr hk h hq d_Mo_inbox_33
  · have h1 : ¬ (sa < 0) := h1
    refine lv_iload_n E1 E2 d_Mo_inbox_9 rfl (lv_at hl 1 rfl) ?_
    refine lv_bipush (v := 7) E1 E2 d_Mo_inbox_10 (by decide) ?_
    refine lv_icmp_gt E1 E2 d_Mo_inbox_12 rfl (fun h2 => ?_) (fun h2 => ?_)
    · have h2 : 7 < sa := h2
      refine lv_ldc2 (own := "BridgeNetModel") E1 E2 F.2.2.1 (F.2.2.2.1 _ k_951) d_Mo_inbox_30 ?_
      have hq : o_Mo_inbox N sa ka = (-1, (sI N 41 0 0)) := Eq.trans (if_neg h1) (if_pos h2)
      exact bn_retl2 F hr hk h hq d_Mo_inbox_33
    · have h2 : ¬ (7 < sa) := h2
      refine lv_iload_n E1 E2 d_Mo_inbox_15 rfl (lv_at hl 2 rfl) ?_
      refine lv_iconst (v := (-1)) E1 E2 d_Mo_inbox_16 (by decide) ?_
      refine lv_icmp_lt E1 E2 d_Mo_inbox_17 rfl (fun h3 => ?_) (fun h3 => ?_)
      · have h3 : ka < (-1) := h3
        refine lv_ldc2 (own := "BridgeNetModel") E1 E2 F.2.2.1 (F.2.2.2.1 _ k_951) d_Mo_inbox_30 ?_
        have hq : o_Mo_inbox N sa ka = (-1, (sI N 41 0 0)) := Eq.trans (if_neg h1) (Eq.trans (if_neg h2) (if_pos h3))
        exact bn_retl2 F hr hk h hq d_Mo_inbox_33
      · have h3 : ¬ (ka < (-1)) := h3
        refine lv_iload_n E1 E2 d_Mo_inbox_20 rfl (lv_at hl 2 rfl) ?_
        refine lv_aload_n E1 E2 d_Mo_inbox_21 rfl (lv_at hl 0 rfl) ?_
        refine g_Mo_got F h k_731 d_Mo_inbox_22 ?_
        refine lv_iload_n E1 E2 d_Mo_inbox_25 rfl (lv_at hl 1 rfl) ?_
        have hn_sa := bn_natlt (n := 7) h1 h2 (by decide)
        have hn_sa2 := hn_sa.2
        refine bn_ti hn_sa.1 ?_
        refine ml_got F h (i := sa.toNatClampNeg) (by omega) (v := N.2.1 29 (sa.toNatClampNeg)) rfl d_Mo_inbox_26 ?_
        refine lv_icmp_lt E1 E2 d_Mo_inbox_27 rfl (fun h4 => ?_) (fun h4 => ?_)
        · have h4 : ka < nI (N.2.1 29 (sa.toNatClampNeg)) := h4
          refine lv_iload_n E1 E2 d_Mo_inbox_34 rfl (lv_at hl 2 rfl) ?_
          refine lv_iconst (v := (-1)) E1 E2 d_Mo_inbox_35 (by decide) ?_
          refine lv_icmp_ne E1 E2 d_Mo_inbox_36 rfl (fun h5 => ?_) (fun h5 => ?_)
          · have h5 : ¬ (ka = (-1)) := h5
            refine lv_aload_n E1 E2 d_Mo_inbox_49 rfl (lv_at hl 0 rfl) ?_
            refine g_Mo_inbox F h k_732 d_Mo_inbox_50 ?_
            refine lv_bipush (v := 40) E1 E2 d_Mo_inbox_53 (by decide) ?_
            refine lv_iload_n E1 E2 d_Mo_inbox_55 rfl (lv_at hl 1 rfl) ?_
            refine bn_ti hn_sa.1 ?_
            refine lv_imul E1 E2 d_Mo_inbox_56 ?_
            refine bn_ti (y := nI (40 * (sa.toNatClampNeg))) (pk_mul 40 (sa.toNatClampNeg)) ?_
            refine lv_iload_n E1 E2 d_Mo_inbox_57 rfl (lv_at hl 2 rfl) ?_
            have hwgot : N.2.1 29 (sa.toNatClampNeg) < 41 := mw_got h.2.2.2 (sa.toNatClampNeg)
            have hn_ka := bn_natle (n := (N.2.1 29 (sa.toNatClampNeg))) (mo_m1 h3 h5) (Int32.not_le.mpr h4) (by omega)
            have hn_ka2 := hn_ka.2
            refine bn_ti hn_ka.1 ?_
            refine lv_iadd E1 E2 d_Mo_inbox_58 ?_
            refine bn_ti (y := nI ((40 * (sa.toNatClampNeg)) + (ka.toNatClampNeg))) (nI_add (40 * (sa.toNatClampNeg)) (ka.toNatClampNeg)) ?_
            refine ml_inbox F h (i := (40 * (sa.toNatClampNeg)) + (ka.toNatClampNeg)) (by omega) (v := N.2.2.1 30 ((40 * (sa.toNatClampNeg)) + (ka.toNatClampNeg))) rfl d_Mo_inbox_59 ?_
            have hq : o_Mo_inbox N sa ka = (N.2.2.1 30 ((40 * (sa.toNatClampNeg)) + (ka.toNatClampNeg)), (sI N 41 0 0)) := Eq.trans (if_neg h1) (Eq.trans (if_neg h2) (Eq.trans (if_neg h3) (Eq.trans (if_pos h4) (if_neg h5))))
            exact bn_retl2 F hr hk h hq d_Mo_inbox_60
          · have h5 : ka = (-1) := h5
            refine lv_aload_n E1 E2 d_Mo_inbox_39 rfl (lv_at hl 0 rfl) ?_
            refine g_Mo_got F h k_731 d_Mo_inbox_40 ?_
            refine lv_iload_n E1 E2 d_Mo_inbox_43 rfl (lv_at hl 1 rfl) ?_
            refine bn_ti hn_sa.1 ?_
            refine ml_got F h (i := sa.toNatClampNeg) (by omega) (v := N.2.1 29 (sa.toNatClampNeg)) rfl d_Mo_inbox_44 ?_
            refine lv_i2l (v := Int32.toInt64 (nI (N.2.1 29 (sa.toNatClampNeg)))) E1 E2 d_Mo_inbox_45 rfl ?_
            refine lv_goto E1 E2 d_Mo_inbox_46 rfl ?_
            have hq : o_Mo_inbox N sa ka = (Int32.toInt64 (nI (N.2.1 29 (sa.toNatClampNeg))), (sI N 41 0 0)) := Eq.trans (if_neg h1) (Eq.trans (if_neg h2) (Eq.trans (if_neg h3) (Eq.trans (if_pos h4) (if_pos h5))))
            exact bn_retl2 F hr hk h hq d_Mo_inbox_60
        · have h4 : ¬ (ka < nI (N.2.1 29 (sa.toNatClampNeg))) := h4
          refine lv_ldc2 (own := "BridgeNetModel") E1 E2 F.2.2.1 (F.2.2.2.1 _ k_951) d_Mo_inbox_30 ?_
          have hq : o_Mo_inbox N sa ka = (-1, (sI N 41 0 0)) := Eq.trans (if_neg h1) (Eq.trans (if_neg h2) (Eq.trans (if_neg h3) (if_neg h4)))
          exact bn_retl2 F hr hk h hq d_Mo_inbox_33
def o_Mo_line (N : bn_S) (ba : Int32) (pa : Int32) : Int32 × bn_S := (if r_Mo_isPort (sI N 41 0 0) ba pa = 0 then ((-1), (sI N 41 0 0)) else (nI (N.2.1 13 ((4 * (ba.toNatClampNeg)) + (pa.toNatClampNeg))), (sI N 41 0 0)))
set_option maxHeartbeats 4000000 in
set_option maxRecDepth 100000 in
theorem c_Mo_line (l : Launch) (D : va_G) (ar : Nat → ClassId) (ad : Nat → Nat → Nat) (N : bn_S)  (ba : Int32) (pa : Int32) : bn_I l y_Mo_line w_Mo_line { frames := 2, cells := 0, slots := 0, locals := 41 } (mo_y D ar ad) N [.ref (ad 0 0), .int ba, .int pa] (o_Mo_line N ba pa).1 (o_Mo_line N ba pa).2 := by
  intro sz
  refine bn_start (cc := b_Mo_line) (maxL := 3) (ret := (Option.some Jvm.ClassFile.FieldType.int)) (by decide) rfl (Nat.le_of_ble_eq_true rfl) ?_
  intro p e s m args below meth c ls hsz F hml hr hk hl h
  subst hsz
  have E1 := F.1
  have E2 := F.2.1
  have hl : lv_has ls 3 [(0, .ref (ad 0 0)), (1, .int ba), (2, .int pa)] := hl
  refine lv_aload_n E1 E2 d_Mo_line_0 rfl (lv_at hl 0 rfl) ?_
  refine lv_iconst (v := 0) E1 E2 d_Mo_line_1 (by decide) ?_
  refine p_Mo_thrown F h k_701 d_Mo_line_2 (fun H locs h => ?_)
  have h : bn_H (mo_y D ar ad) s.heap H locs (sI N 41 0 0) := h
  refine lv_iload_n E1 E2 d_Mo_line_5 rfl (lv_at hl 1 rfl) ?_
  refine lv_iload_n E1 E2 d_Mo_line_6 rfl (lv_at hl 2 rfl) ?_
  refine bn_calli F h (bn_runS (n := 2) (As := [.int ba, .int pa]) (rest := []) F hml hl.1 h (c_Mo_isPort l D ar ad (sI N 41 0 0) ba pa _) (bn_goodS k_807 k_808 k_7 k_809) rfl rfl (by decide) ⟨by decide, by decide⟩ rfl rfl (Nat.le_of_ble_eq_true rfl) d_Mo_line_7 ⟨Nat.zero_le _, Nat.zero_le _⟩) (fun H locs h => ?_)
  refine lv_if_eq E1 E2 d_Mo_line_10 rfl (fun h1 => ?_) (fun h1 => ?_)
  · have h1 : r_Mo_isPort (sI N 41 0 0) ba pa = 0 := h1
    refine lv_iconst (v := (-1)) E1 E2 d_Mo_line_26 (by decide) ?_
    have hq : o_Mo_line N ba pa = ((-1), (sI N 41 0 0)) := if_pos h1
    exact bn_reti2 F hr hk h hq d_Mo_line_27
  · have h1 : ¬ (r_Mo_isPort (sI N 41 0 0) ba pa = 0) := h1
    refine lv_aload_n E1 E2 d_Mo_line_13 rfl (lv_at hl 0 rfl) ?_
    refine g_Mo_lines F h k_715 d_Mo_line_14 ?_
    refine lv_iconst (v := 4) E1 E2 d_Mo_line_17 (by decide) ?_
    refine lv_iload_n E1 E2 d_Mo_line_18 rfl (lv_at hl 1 rfl) ?_
    have hn_ba := bn_isPb h1
    have hn_ba2 := hn_ba.2
    refine bn_ti hn_ba.1 ?_
    refine lv_imul E1 E2 d_Mo_line_19 ?_
    refine bn_ti (y := nI (4 * (ba.toNatClampNeg))) (pk_mul 4 (ba.toNatClampNeg)) ?_
    refine lv_iload_n E1 E2 d_Mo_line_20 rfl (lv_at hl 2 rfl) ?_
    have hn_pa := bn_isPp h1
    have hn_pa2 := hn_pa.2
    refine bn_ti hn_pa.1 ?_
    refine lv_iadd E1 E2 d_Mo_line_21 ?_
    refine bn_ti (y := nI ((4 * (ba.toNatClampNeg)) + (pa.toNatClampNeg))) (nI_add (4 * (ba.toNatClampNeg)) (pa.toNatClampNeg)) ?_
    refine ml_lines F h (i := (4 * (ba.toNatClampNeg)) + (pa.toNatClampNeg)) (by omega) (v := N.2.1 13 ((4 * (ba.toNatClampNeg)) + (pa.toNatClampNeg))) rfl d_Mo_line_22 ?_
    refine lv_goto E1 E2 d_Mo_line_23 rfl ?_
    have hq : o_Mo_line N ba pa = (nI (N.2.1 13 ((4 * (ba.toNatClampNeg)) + (pa.toNatClampNeg))), (sI N 41 0 0)) := if_neg h1
    exact bn_reti2 F hr hk h hq d_Mo_line_27
def o_Mo_message (N : bn_S) (ba : Int32) (pa : Int32) (ka : Int32) : Int64 × bn_S := (if r_Mo_isPort (sI N 41 0 0) ba pa = 0 then (0, (sI N 41 0 0)) else (if ka < 0 then (0, (sI N 41 0 0)) else (if ka < nI (N.2.1 13 ((4 * (ba.toNatClampNeg)) + (pa.toNatClampNeg))) then (if N.1 14 ((12 * ((4 * (ba.toNatClampNeg)) + (pa.toNatClampNeg))) + (ka.toNatClampNeg)) = 3 then ((3 + (16 * (Int32.toInt64 (nI (N.2.1 19 ((12 * ((4 * (ba.toNatClampNeg)) + (pa.toNatClampNeg))) + (ka.toNatClampNeg))))))) + (256 * (Int32.toInt64 (nI (N.2.1 20 ((12 * ((4 * (ba.toNatClampNeg)) + (pa.toNatClampNeg))) + (ka.toNatClampNeg)))))), (sI N 41 0 0)) else (if N.1 14 ((12 * ((4 * (ba.toNatClampNeg)) + (pa.toNatClampNeg))) + (ka.toNatClampNeg)) = 1 then ((Int32.toInt64 (N.1 14 ((12 * ((4 * (ba.toNatClampNeg)) + (pa.toNatClampNeg))) + (ka.toNatClampNeg)))) + (16 * (Int32.toInt64 (r_Mo_rootOf (sI N 41 0 0) (N.2.2.1 15 ((12 * ((4 * (ba.toNatClampNeg)) + (pa.toNatClampNeg))) + (ka.toNatClampNeg)))))), (sI N 41 0 0)) else ((Int32.toInt64 (N.1 14 ((12 * ((4 * (ba.toNatClampNeg)) + (pa.toNatClampNeg))) + (ka.toNatClampNeg)))) + (16 * (N.2.2.1 15 ((12 * ((4 * (ba.toNatClampNeg)) + (pa.toNatClampNeg))) + (ka.toNatClampNeg)))), (sI N 41 0 0)))) else (0, (sI N 41 0 0)))))
set_option maxHeartbeats 4000000 in
set_option maxRecDepth 100000 in
theorem c_Mo_message (l : Launch) (D : va_G) (ar : Nat → ClassId) (ad : Nat → Nat → Nat) (N : bn_S)  (ba : Int32) (pa : Int32) (ka : Int32) : bn_L l y_Mo_message w_Mo_message { frames := 2, cells := 0, slots := 0, locals := 41 } (mo_y D ar ad) N [.ref (ad 0 0), .int ba, .int pa, .int ka] (o_Mo_message N ba pa ka).1 (o_Mo_message N ba pa ka).2 := by
  intro sz
  refine bn_start (cc := b_Mo_message) (maxL := 5) (ret := (Option.some Jvm.ClassFile.FieldType.long)) (by decide) rfl (Nat.le_of_ble_eq_true rfl) ?_
  intro p e s m args below meth c ls hsz F hml hr hk hl h
  subst hsz
  have E1 := F.1
  have E2 := F.2.1
  have hl : lv_has ls 5 [(0, .ref (ad 0 0)), (1, .int ba), (2, .int pa), (3, .int ka)] := hl
  refine lv_aload_n E1 E2 d_Mo_message_0 rfl (lv_at hl 0 rfl) ?_
  refine lv_iconst (v := 0) E1 E2 d_Mo_message_1 (by decide) ?_
  refine p_Mo_thrown F h k_701 d_Mo_message_2 (fun H locs h => ?_)
  have h : bn_H (mo_y D ar ad) s.heap H locs (sI N 41 0 0) := h
  refine lv_iload_n E1 E2 d_Mo_message_5 rfl (lv_at hl 1 rfl) ?_
  refine lv_iload_n E1 E2 d_Mo_message_6 rfl (lv_at hl 2 rfl) ?_
  refine bn_calli F h (bn_runS (n := 2) (As := [.int ba, .int pa]) (rest := []) F hml hl.1 h (c_Mo_isPort l D ar ad (sI N 41 0 0) ba pa _) (bn_goodS k_807 k_808 k_7 k_809) rfl rfl (by decide) ⟨by decide, by decide⟩ rfl rfl (Nat.le_of_ble_eq_true rfl) d_Mo_message_7 ⟨Nat.zero_le _, Nat.zero_le _⟩) (fun H locs h => ?_)
  refine lv_if_eq E1 E2 d_Mo_message_10 rfl (fun h1 => ?_) (fun h1 => ?_)
  · have h1 : r_Mo_isPort (sI N 41 0 0) ba pa = 0 := h1
    refine lv_lconst (v := 0) E1 E2 d_Mo_message_31 (by decide) ?_
    have hq : o_Mo_message N ba pa ka = (0, (sI N 41 0 0)) := if_pos h1
    exact bn_retl2 F hr hk h hq d_Mo_message_32
  · have h1 : ¬ (r_Mo_isPort (sI N 41 0 0) ba pa = 0) := h1
    refine lv_iload_n E1 E2 d_Mo_message_13 rfl (lv_at hl 3 rfl) ?_
    refine lv_if_lt E1 E2 d_Mo_message_14 rfl (fun h2 => ?_) (fun h2 => ?_)
    · have h2 : ka < 0 := h2
      refine lv_lconst (v := 0) E1 E2 d_Mo_message_31 (by decide) ?_
      have hq : o_Mo_message N ba pa ka = (0, (sI N 41 0 0)) := Eq.trans (if_neg h1) (if_pos h2)
      exact bn_retl2 F hr hk h hq d_Mo_message_32
    · have h2 : ¬ (ka < 0) := h2
      refine lv_iload_n E1 E2 d_Mo_message_17 rfl (lv_at hl 3 rfl) ?_
      refine lv_aload_n E1 E2 d_Mo_message_18 rfl (lv_at hl 0 rfl) ?_
      refine g_Mo_lines F h k_715 d_Mo_message_19 ?_
      refine lv_iconst (v := 4) E1 E2 d_Mo_message_22 (by decide) ?_
      refine lv_iload_n E1 E2 d_Mo_message_23 rfl (lv_at hl 1 rfl) ?_
      have hn_ba := bn_isPb h1
      have hn_ba2 := hn_ba.2
      refine bn_ti hn_ba.1 ?_
      refine lv_imul E1 E2 d_Mo_message_24 ?_
      refine bn_ti (y := nI (4 * (ba.toNatClampNeg))) (pk_mul 4 (ba.toNatClampNeg)) ?_
      refine lv_iload_n E1 E2 d_Mo_message_25 rfl (lv_at hl 2 rfl) ?_
      have hn_pa := bn_isPp h1
      have hn_pa2 := hn_pa.2
      refine bn_ti hn_pa.1 ?_
      refine lv_iadd E1 E2 d_Mo_message_26 ?_
      refine bn_ti (y := nI ((4 * (ba.toNatClampNeg)) + (pa.toNatClampNeg))) (nI_add (4 * (ba.toNatClampNeg)) (pa.toNatClampNeg)) ?_
      refine ml_lines F h (i := (4 * (ba.toNatClampNeg)) + (pa.toNatClampNeg)) (by omega) (v := N.2.1 13 ((4 * (ba.toNatClampNeg)) + (pa.toNatClampNeg))) rfl d_Mo_message_27 ?_
      refine lv_icmp_lt E1 E2 d_Mo_message_28 rfl (fun h3 => ?_) (fun h3 => ?_)
      · have h3 : ka < nI (N.2.1 13 ((4 * (ba.toNatClampNeg)) + (pa.toNatClampNeg))) := h3
        refine lv_bipush (v := 12) E1 E2 d_Mo_message_33 (by decide) ?_
        refine lv_iconst (v := 4) E1 E2 d_Mo_message_35 (by decide) ?_
        refine lv_iload_n E1 E2 d_Mo_message_36 rfl (lv_at hl 1 rfl) ?_
        refine bn_ti hn_ba.1 ?_
        refine lv_imul E1 E2 d_Mo_message_37 ?_
        refine bn_ti (y := nI (4 * (ba.toNatClampNeg))) (pk_mul 4 (ba.toNatClampNeg)) ?_
        refine lv_iload_n E1 E2 d_Mo_message_38 rfl (lv_at hl 2 rfl) ?_
        refine bn_ti hn_pa.1 ?_
        refine lv_iadd E1 E2 d_Mo_message_39 ?_
        refine bn_ti (y := nI ((4 * (ba.toNatClampNeg)) + (pa.toNatClampNeg))) (nI_add (4 * (ba.toNatClampNeg)) (pa.toNatClampNeg)) ?_
        refine lv_imul E1 E2 d_Mo_message_40 ?_
        refine bn_ti (y := nI (12 * ((4 * (ba.toNatClampNeg)) + (pa.toNatClampNeg)))) (pk_mul 12 ((4 * (ba.toNatClampNeg)) + (pa.toNatClampNeg))) ?_
        refine lv_iload_n E1 E2 d_Mo_message_41 rfl (lv_at hl 3 rfl) ?_
        have hwlines : N.2.1 13 ((4 * (ba.toNatClampNeg)) + (pa.toNatClampNeg)) < 13 := mw_lines h.2.2.2 ((4 * (ba.toNatClampNeg)) + (pa.toNatClampNeg))
        have hn_ka := bn_natle (n := (N.2.1 13 ((4 * (ba.toNatClampNeg)) + (pa.toNatClampNeg)))) h2 (Int32.not_le.mpr h3) (by omega)
        have hn_ka2 := hn_ka.2
        refine bn_ti hn_ka.1 ?_
        refine lv_iadd E1 E2 d_Mo_message_42 ?_
        refine bn_ti (y := nI ((12 * ((4 * (ba.toNatClampNeg)) + (pa.toNatClampNeg))) + (ka.toNatClampNeg))) (nI_add (12 * ((4 * (ba.toNatClampNeg)) + (pa.toNatClampNeg))) (ka.toNatClampNeg)) ?_
        refine lv_istore E1 E2 d_Mo_message_43 hl (by decide) rfl (fun ls hl => ?_)
        have hl : lv_has ls 5 [(4, .int (nI ((12 * ((4 * (ba.toNatClampNeg)) + (pa.toNatClampNeg))) + (ka.toNatClampNeg)))), (0, .ref (ad 0 0)), (1, .int ba), (2, .int pa), (3, .int ka)] := hl
        refine lv_aload_n E1 E2 d_Mo_message_45 rfl (lv_at hl 1 rfl) ?_
        refine g_Mo_kind F h k_716 d_Mo_message_46 ?_
        refine lv_iload E1 E2 d_Mo_message_49 (lv_at hl 0 rfl) ?_
        refine ml_kind F h (i := (12 * ((4 * (ba.toNatClampNeg)) + (pa.toNatClampNeg))) + (ka.toNatClampNeg)) (by omega) (v := N.1 14 ((12 * ((4 * (ba.toNatClampNeg)) + (pa.toNatClampNeg))) + (ka.toNatClampNeg))) rfl d_Mo_message_51 ?_
        refine lv_iconst (v := 3) E1 E2 d_Mo_message_52 (by decide) ?_
        refine lv_icmp_ne E1 E2 d_Mo_message_53 rfl (fun h4 => ?_) (fun h4 => ?_)
        · have h4 : ¬ (N.1 14 ((12 * ((4 * (ba.toNatClampNeg)) + (pa.toNatClampNeg))) + (ka.toNatClampNeg)) = 3) := h4
          refine lv_aload_n E1 E2 d_Mo_message_86 rfl (lv_at hl 1 rfl) ?_
          refine g_Mo_kind F h k_716 d_Mo_message_87 ?_
          refine lv_iload E1 E2 d_Mo_message_90 (lv_at hl 0 rfl) ?_
          refine ml_kind F h (i := (12 * ((4 * (ba.toNatClampNeg)) + (pa.toNatClampNeg))) + (ka.toNatClampNeg)) (by omega) (v := N.1 14 ((12 * ((4 * (ba.toNatClampNeg)) + (pa.toNatClampNeg))) + (ka.toNatClampNeg))) rfl d_Mo_message_92 ?_
          refine lv_i2l (v := Int32.toInt64 (N.1 14 ((12 * ((4 * (ba.toNatClampNeg)) + (pa.toNatClampNeg))) + (ka.toNatClampNeg)))) E1 E2 d_Mo_message_93 rfl ?_
          refine lv_ldc2 (own := "BridgeNetModel") E1 E2 F.2.2.1 (F.2.2.2.1 _ k_974) d_Mo_message_94 ?_
          refine lv_aload_n E1 E2 d_Mo_message_97 rfl (lv_at hl 1 rfl) ?_
          refine g_Mo_kind F h k_716 d_Mo_message_98 ?_
          refine lv_iload E1 E2 d_Mo_message_101 (lv_at hl 0 rfl) ?_
          refine ml_kind F h (i := (12 * ((4 * (ba.toNatClampNeg)) + (pa.toNatClampNeg))) + (ka.toNatClampNeg)) (by omega) (v := N.1 14 ((12 * ((4 * (ba.toNatClampNeg)) + (pa.toNatClampNeg))) + (ka.toNatClampNeg))) rfl d_Mo_message_103 ?_
          refine lv_iconst (v := 1) E1 E2 d_Mo_message_104 (by decide) ?_
          refine lv_icmp_ne E1 E2 d_Mo_message_105 rfl (fun h5 => ?_) (fun h5 => ?_)
          · have h5 : ¬ (N.1 14 ((12 * ((4 * (ba.toNatClampNeg)) + (pa.toNatClampNeg))) + (ka.toNatClampNeg)) = 1) := h5
            refine lv_aload_n E1 E2 d_Mo_message_122 rfl (lv_at hl 1 rfl) ?_
            refine g_Mo_told F h k_717 d_Mo_message_123 ?_
            refine lv_iload E1 E2 d_Mo_message_126 (lv_at hl 0 rfl) ?_
            refine ml_told F h (i := (12 * ((4 * (ba.toNatClampNeg)) + (pa.toNatClampNeg))) + (ka.toNatClampNeg)) (by omega) (v := N.2.2.1 15 ((12 * ((4 * (ba.toNatClampNeg)) + (pa.toNatClampNeg))) + (ka.toNatClampNeg))) rfl d_Mo_message_128 ?_
            refine lv_lmul E1 E2 d_Mo_message_129 ?_
            refine lv_ladd E1 E2 d_Mo_message_130 ?_
            have hq : o_Mo_message N ba pa ka = ((Int32.toInt64 (N.1 14 ((12 * ((4 * (ba.toNatClampNeg)) + (pa.toNatClampNeg))) + (ka.toNatClampNeg)))) + (16 * (N.2.2.1 15 ((12 * ((4 * (ba.toNatClampNeg)) + (pa.toNatClampNeg))) + (ka.toNatClampNeg)))), (sI N 41 0 0)) := Eq.trans (if_neg h1) (Eq.trans (if_neg h2) (Eq.trans (if_pos h3) (Eq.trans (if_neg h4) (if_neg h5))))
            exact bn_retl2 F hr hk h hq d_Mo_message_131
          · have h5 : N.1 14 ((12 * ((4 * (ba.toNatClampNeg)) + (pa.toNatClampNeg))) + (ka.toNatClampNeg)) = 1 := h5
            refine lv_aload_n E1 E2 d_Mo_message_108 rfl (lv_at hl 1 rfl) ?_
            refine g_Mo_told F h k_717 d_Mo_message_109 ?_
            refine lv_iload E1 E2 d_Mo_message_112 (lv_at hl 0 rfl) ?_
            refine ml_told F h (i := (12 * ((4 * (ba.toNatClampNeg)) + (pa.toNatClampNeg))) + (ka.toNatClampNeg)) (by omega) (v := N.2.2.1 15 ((12 * ((4 * (ba.toNatClampNeg)) + (pa.toNatClampNeg))) + (ka.toNatClampNeg))) rfl d_Mo_message_114 ?_
            refine bn_calli F h (bn_runS (n := 1) (As := [.long (N.2.2.1 15 ((12 * ((4 * (ba.toNatClampNeg)) + (pa.toNatClampNeg))) + (ka.toNatClampNeg)))]) (rest := [.long 16, .long (Int32.toInt64 (N.1 14 ((12 * ((4 * (ba.toNatClampNeg)) + (pa.toNatClampNeg))) + (ka.toNatClampNeg))))]) F hml hl.1 h (c_Mo_rootOf l D ar ad (sI N 41 0 0) (N.2.2.1 15 ((12 * ((4 * (ba.toNatClampNeg)) + (pa.toNatClampNeg))) + (ka.toNatClampNeg))) _) (bn_goodS k_833 k_834 k_7 k_835) rfl rfl (by decide) ⟨by decide, by decide⟩ rfl rfl (Nat.le_of_ble_eq_true rfl) d_Mo_message_115 ⟨Nat.zero_le _, Nat.zero_le _⟩) (fun H locs h => ?_)
            refine lv_i2l (v := Int32.toInt64 (r_Mo_rootOf (sI N 41 0 0) (N.2.2.1 15 ((12 * ((4 * (ba.toNatClampNeg)) + (pa.toNatClampNeg))) + (ka.toNatClampNeg))))) E1 E2 d_Mo_message_118 rfl ?_
            refine lv_goto E1 E2 d_Mo_message_119 rfl ?_
            refine lv_lmul E1 E2 d_Mo_message_129 ?_
            refine lv_ladd E1 E2 d_Mo_message_130 ?_
            have hq : o_Mo_message N ba pa ka = ((Int32.toInt64 (N.1 14 ((12 * ((4 * (ba.toNatClampNeg)) + (pa.toNatClampNeg))) + (ka.toNatClampNeg)))) + (16 * (Int32.toInt64 (r_Mo_rootOf (sI N 41 0 0) (N.2.2.1 15 ((12 * ((4 * (ba.toNatClampNeg)) + (pa.toNatClampNeg))) + (ka.toNatClampNeg)))))), (sI N 41 0 0)) := Eq.trans (if_neg h1) (Eq.trans (if_neg h2) (Eq.trans (if_pos h3) (Eq.trans (if_neg h4) (if_pos h5))))
            exact bn_retl2 F hr hk h hq d_Mo_message_131
        · have h4 : N.1 14 ((12 * ((4 * (ba.toNatClampNeg)) + (pa.toNatClampNeg))) + (ka.toNatClampNeg)) = 3 := h4
          refine lv_ldc2 (own := "BridgeNetModel") E1 E2 F.2.2.1 (F.2.2.2.1 _ k_973) d_Mo_message_56 ?_
          refine lv_ldc2 (own := "BridgeNetModel") E1 E2 F.2.2.1 (F.2.2.2.1 _ k_974) d_Mo_message_59 ?_
          refine lv_aload_n E1 E2 d_Mo_message_62 rfl (lv_at hl 1 rfl) ?_
          refine g_Mo_destination F h k_721 d_Mo_message_63 ?_
          refine lv_iload E1 E2 d_Mo_message_66 (lv_at hl 0 rfl) ?_
          refine ml_destination F h (i := (12 * ((4 * (ba.toNatClampNeg)) + (pa.toNatClampNeg))) + (ka.toNatClampNeg)) (by omega) (v := N.2.1 19 ((12 * ((4 * (ba.toNatClampNeg)) + (pa.toNatClampNeg))) + (ka.toNatClampNeg))) rfl d_Mo_message_68 ?_
          refine lv_i2l (v := Int32.toInt64 (nI (N.2.1 19 ((12 * ((4 * (ba.toNatClampNeg)) + (pa.toNatClampNeg))) + (ka.toNatClampNeg))))) E1 E2 d_Mo_message_69 rfl ?_
          refine lv_lmul E1 E2 d_Mo_message_70 ?_
          refine lv_ladd E1 E2 d_Mo_message_71 ?_
          refine lv_ldc2 (own := "BridgeNetModel") E1 E2 F.2.2.1 (F.2.2.2.1 _ k_949) d_Mo_message_72 ?_
          refine lv_aload_n E1 E2 d_Mo_message_75 rfl (lv_at hl 1 rfl) ?_
          refine g_Mo_vlan F h k_722 d_Mo_message_76 ?_
          refine lv_iload E1 E2 d_Mo_message_79 (lv_at hl 0 rfl) ?_
          refine ml_vlan F h (i := (12 * ((4 * (ba.toNatClampNeg)) + (pa.toNatClampNeg))) + (ka.toNatClampNeg)) (by omega) (v := N.2.1 20 ((12 * ((4 * (ba.toNatClampNeg)) + (pa.toNatClampNeg))) + (ka.toNatClampNeg))) rfl d_Mo_message_81 ?_
          refine lv_i2l (v := Int32.toInt64 (nI (N.2.1 20 ((12 * ((4 * (ba.toNatClampNeg)) + (pa.toNatClampNeg))) + (ka.toNatClampNeg))))) E1 E2 d_Mo_message_82 rfl ?_
          refine lv_lmul E1 E2 d_Mo_message_83 ?_
          refine lv_ladd E1 E2 d_Mo_message_84 ?_
          have hq : o_Mo_message N ba pa ka = ((3 + (16 * (Int32.toInt64 (nI (N.2.1 19 ((12 * ((4 * (ba.toNatClampNeg)) + (pa.toNatClampNeg))) + (ka.toNatClampNeg))))))) + (256 * (Int32.toInt64 (nI (N.2.1 20 ((12 * ((4 * (ba.toNatClampNeg)) + (pa.toNatClampNeg))) + (ka.toNatClampNeg)))))), (sI N 41 0 0)) := Eq.trans (if_neg h1) (Eq.trans (if_neg h2) (Eq.trans (if_pos h3) (if_pos h4)))
          exact bn_retl2 F hr hk h hq d_Mo_message_85
      · have h3 : ¬ (ka < nI (N.2.1 13 ((4 * (ba.toNatClampNeg)) + (pa.toNatClampNeg)))) := h3
        refine lv_lconst (v := 0) E1 E2 d_Mo_message_31 (by decide) ?_
        have hq : o_Mo_message N ba pa ka = (0, (sI N 41 0 0)) := Eq.trans (if_neg h1) (Eq.trans (if_neg h2) (if_neg h3))
        exact bn_retl2 F hr hk h hq d_Mo_message_32
