/-! contracts of the reference, written by wip/whole/gen_model.py -/
def bd_Mo_compute (b : Nat) (k : Nat) (q : Nat × bn_S) : Nat × bn_S := (if r_Mo_roleOf (q.2) (4 * b + k) = (q.2).1 5 (4 * b + k) then (q.1, q.2) else (1, (o_Mo_take (q.2) (4 * b + k) (r_Mo_roleOf (q.2) (4 * b + k)))))
def it_Mo_compute (b : Nat) (q0 : Nat × bn_S) : Nat → Nat × bn_S
  | 0 => q0
  | k + 1 => bd_Mo_compute b k (it_Mo_compute b q0 k)
theorem it_Mo_compute_0 (b : Nat) (q0 : Nat × bn_S) : bd_Mo_compute b 0 q0 = it_Mo_compute b q0 1 := rfl
theorem it_Mo_compute_s (b : Nat) (q0 : Nat × bn_S) (k : Nat) : bd_Mo_compute b k (it_Mo_compute b q0 k) = it_Mo_compute b q0 (k + 1) := rfl
def o_Mo_compute (N : bn_S) (b : Nat) : bn_S := (if r_Mo_rootOf (o_Mo_choose N b) ((o_Mo_choose N b).2.2.1 22 b) = r_Mo_rootOf N (N.2.2.1 22 b) then (if r_Mo_costOf (o_Mo_choose N b) ((o_Mo_choose N b).2.2.1 22 b) = r_Mo_costOf N (N.2.2.1 22 b) then (if (o_Mo_choose N b).1 23 b = N.1 23 b then (if ((it_Mo_compute b (0, (o_Mo_choose N b)) 4).1) = 0 then (it_Mo_compute b (0, (o_Mo_choose N b)) 4).2 else (o_Mo_tellAll ((it_Mo_compute b (0, (o_Mo_choose N b)) 4).2) b)) else (if ((it_Mo_compute b (1, (o_Mo_choose N b)) 4).1) = 0 then (it_Mo_compute b (1, (o_Mo_choose N b)) 4).2 else (o_Mo_tellAll ((it_Mo_compute b (1, (o_Mo_choose N b)) 4).2) b))) else (if ((it_Mo_compute b (1, (o_Mo_choose N b)) 4).1) = 0 then (it_Mo_compute b (1, (o_Mo_choose N b)) 4).2 else (o_Mo_tellAll ((it_Mo_compute b (1, (o_Mo_choose N b)) 4).2) b))) else (if ((it_Mo_compute b (1, (o_Mo_choose N b)) 4).1) = 0 then (it_Mo_compute b (1, (o_Mo_choose N b)) 4).2 else (o_Mo_tellAll ((it_Mo_compute b (1, (o_Mo_choose N b)) 4).2) b)))
set_option maxHeartbeats 4000000 in
set_option maxRecDepth 100000 in
theorem c_Mo_compute (l : Launch) (D : va_G) (ar : Nat → ClassId) (ad : Nat → Nat → Nat) (N : bn_S)  (b : Nat) (hb : b < 5) : bn_V l y_Mo_compute w_Mo_compute { frames := 4, cells := 0, slots := 0, locals := 93 } (mo_y D ar ad) N [.ref (ad 0 0), .int (nI b)] (o_Mo_compute N b) := by
  intro sz
  refine bn_start (cc := b_Mo_compute) (maxL := 8) (ret := (Option.none : Option Jvm.ClassFile.FieldType)) (by decide) rfl (Nat.le_of_ble_eq_true rfl) ?_
  intro p e s m args below meth c ls hsz F hml hr hk hl h
  subst hsz
  have E1 := F.1
  have E2 := F.2.1
  have hl : lv_has ls 8 [(0, .ref (ad 0 0)), (1, .int (nI b))] := hl
  refine lv_aload_n E1 E2 d_Mo_compute_0 rfl (lv_at hl 0 rfl) ?_
  refine g_Mo_best F h k_724 d_Mo_compute_1 ?_
  refine lv_iload_n E1 E2 d_Mo_compute_4 rfl (lv_at hl 1 rfl) ?_
  refine ml_best F h (i := b) (by omega) (v := N.2.2.1 22 b) rfl d_Mo_compute_5 ?_
  refine bn_calli F h (bn_runS (n := 1) (As := [.long (N.2.2.1 22 b)]) (rest := []) F hml hl.1 h (c_Mo_rootOf l D ar ad N (N.2.2.1 22 b) _) (bn_goodS k_833 k_834 k_7 k_835) rfl rfl (by decide) ⟨by decide, by decide⟩ rfl rfl (Nat.le_of_ble_eq_true rfl) d_Mo_compute_6 ⟨Nat.zero_le _, Nat.zero_le _⟩) (fun H locs h => ?_)
  refine lv_istore_n E1 E2 d_Mo_compute_9 rfl hl (by decide) rfl (fun ls hl => ?_)
  have hl : lv_has ls 8 [(2, .int (r_Mo_rootOf N (N.2.2.1 22 b))), (0, .ref (ad 0 0)), (1, .int (nI b))] := hl
  refine lv_aload_n E1 E2 d_Mo_compute_10 rfl (lv_at hl 1 rfl) ?_
  refine g_Mo_best F h k_724 d_Mo_compute_11 ?_
  refine lv_iload_n E1 E2 d_Mo_compute_14 rfl (lv_at hl 2 rfl) ?_
  refine ml_best F h (i := b) (by omega) (v := N.2.2.1 22 b) rfl d_Mo_compute_15 ?_
  refine bn_calli F h (bn_runS (n := 1) (As := [.long (N.2.2.1 22 b)]) (rest := []) F hml hl.1 h (c_Mo_costOf l D ar ad N (N.2.2.1 22 b) _) (bn_goodS k_836 k_837 k_7 k_838) rfl rfl (by decide) ⟨by decide, by decide⟩ rfl rfl (Nat.le_of_ble_eq_true rfl) d_Mo_compute_16 ⟨Nat.zero_le _, Nat.zero_le _⟩) (fun H locs h => ?_)
  refine lv_istore_n E1 E2 d_Mo_compute_19 rfl hl (by decide) rfl (fun ls hl => ?_)
  have hl : lv_has ls 8 [(3, .int (r_Mo_costOf N (N.2.2.1 22 b))), (2, .int (r_Mo_rootOf N (N.2.2.1 22 b))), (0, .ref (ad 0 0)), (1, .int (nI b))] := hl
  refine lv_aload_n E1 E2 d_Mo_compute_20 rfl (lv_at hl 2 rfl) ?_
  refine g_Mo_hops F h k_725 d_Mo_compute_21 ?_
  refine lv_iload_n E1 E2 d_Mo_compute_24 rfl (lv_at hl 3 rfl) ?_
  refine ml_hops F h (i := b) (by omega) (v := N.1 23 b) rfl d_Mo_compute_25 ?_
  refine lv_istore E1 E2 d_Mo_compute_26 hl (by decide) rfl (fun ls hl => ?_)
  have hl : lv_has ls 8 [(4, .int (N.1 23 b)), (3, .int (r_Mo_costOf N (N.2.2.1 22 b))), (2, .int (r_Mo_rootOf N (N.2.2.1 22 b))), (0, .ref (ad 0 0)), (1, .int (nI b))] := hl
  refine lv_aload_n E1 E2 d_Mo_compute_28 rfl (lv_at hl 3 rfl) ?_
  refine lv_iload_n E1 E2 d_Mo_compute_29 rfl (lv_at hl 4 rfl) ?_
  refine bn_callv F h (bn_runV (n := 1) (As := [.int (nI b)]) (rest := []) F hml hl.1 h mi_0 rfl rfl (c_Mo_choose l D ar ad N b (by omega) _) (bn_goodV k_840 k_842 ks_Mo_choose k_7 k_843) rfl rfl (by decide) ⟨by decide, by decide⟩ rfl rfl (Nat.le_of_ble_eq_true rfl) d_Mo_compute_30 ⟨Nat.zero_le _, Nat.zero_le _⟩) (fun H locs h => ?_)
  have h : bn_H (mo_y D ar ad) s.heap H locs (o_Mo_choose N b) := h
  refine lv_aload_n E1 E2 d_Mo_compute_33 rfl (lv_at hl 3 rfl) ?_
  refine g_Mo_best F h k_724 d_Mo_compute_34 ?_
  refine lv_iload_n E1 E2 d_Mo_compute_37 rfl (lv_at hl 4 rfl) ?_
  refine ml_best F h (i := b) (by omega) (v := (o_Mo_choose N b).2.2.1 22 b) rfl d_Mo_compute_38 ?_
  refine bn_calli F h (bn_runS (n := 1) (As := [.long ((o_Mo_choose N b).2.2.1 22 b)]) (rest := []) F hml hl.1 h (c_Mo_rootOf l D ar ad (o_Mo_choose N b) ((o_Mo_choose N b).2.2.1 22 b) _) (bn_goodS k_833 k_834 k_7 k_835) rfl rfl (by decide) ⟨by decide, by decide⟩ rfl rfl (Nat.le_of_ble_eq_true rfl) d_Mo_compute_39 ⟨Nat.zero_le _, Nat.zero_le _⟩) (fun H locs h => ?_)
  refine lv_iload_n E1 E2 d_Mo_compute_42 rfl (lv_at hl 2 rfl) ?_
  refine lv_icmp_ne E1 E2 d_Mo_compute_43 rfl (fun h1 => ?_) (fun h1 => ?_)
  · have h1 : ¬ (r_Mo_rootOf (o_Mo_choose N b) ((o_Mo_choose N b).2.2.1 22 b) = r_Mo_rootOf N (N.2.2.1 22 b)) := h1
    refine lv_iconst (v := 1) E1 E2 d_Mo_compute_70 (by decide) ?_
    refine lv_goto E1 E2 d_Mo_compute_71 rfl ?_
    refine lv_istore E1 E2 d_Mo_compute_75 hl (by decide) rfl (fun ls hl => ?_)
    have hl : lv_has ls 8 [(5, .int 1), (4, .int (N.1 23 b)), (3, .int (r_Mo_costOf N (N.2.2.1 22 b))), (2, .int (r_Mo_rootOf N (N.2.2.1 22 b))), (0, .ref (ad 0 0)), (1, .int (nI b))] := hl
    refine lv_iconst (v := 4) E1 E2 d_Mo_compute_77 (by decide) ?_
    refine lv_iload_n E1 E2 d_Mo_compute_78 rfl (lv_at hl 5 rfl) ?_
    refine lv_imul E1 E2 d_Mo_compute_79 ?_
    refine bn_ti (y := nI (4 * b)) (pk_mul 4 b) ?_
    refine lv_istore E1 E2 d_Mo_compute_80 hl (by decide) rfl (fun ls hl => ?_)
    have hl : lv_has ls 8 [(6, .int (nI (4 * b))), (5, .int 1), (4, .int (N.1 23 b)), (3, .int (r_Mo_costOf N (N.2.2.1 22 b))), (2, .int (r_Mo_rootOf N (N.2.2.1 22 b))), (0, .ref (ad 0 0)), (1, .int (nI b))] := hl
    have hs82 : ∀ (Q0 : State → Prop) (k : Nat), k < 4 → ∀ (q : Nat × bn_S) (H : Heap) (locs : List Loc) (ls : Array Slot), lv_has ls 8 [(0, .ref (ad 0 0)), (1, .int (nI b)), (5, .int (nI (q.1))), (6, .int (nI (4 * b + k)))] → bn_H (mo_y D ar ad) s.heap H locs q.2 → q.1 < 2 → (∀ (H : Heap) (locs : List Loc) (ls : Array Slot), lv_has ls 8 [(0, .ref (ad 0 0)), (1, .int (nI b)), (5, .int (nI ((bd_Mo_compute b k q).1))), (6, .int (nI (4 * b + k + 1)))] → bn_H (mo_y D ar ad) s.heap H locs (bd_Mo_compute b k q).2 → (bd_Mo_compute b k q).1 < 2 → W p l e { frames := 4, cells := 0, slots := 0, locals := 93 } s m args below meth c H locs 0 0 Q0 (F0 m 82 ls [])) → W p l e { frames := 4, cells := 0, slots := 0, locals := 93 } s m args below meth c H locs 0 0 Q0 (F0 m 82 ls []) := by
      intro Q0 k hkk q H locs ls hl h hqb kk
      refine lv_iload E1 E2 d_Mo_compute_82 (lv_at hl 3 rfl) ?_
      refine lv_iconst (v := 4) E1 E2 d_Mo_compute_84 (by decide) ?_
      refine lv_iload_n E1 E2 d_Mo_compute_85 rfl (lv_at hl 1 rfl) ?_
      refine lv_imul E1 E2 d_Mo_compute_86 ?_
      refine bn_ti (y := nI (4 * b)) (pk_mul 4 b) ?_
      refine lv_iconst (v := 4) E1 E2 d_Mo_compute_87 (by decide) ?_
      refine lv_iadd E1 E2 d_Mo_compute_88 ?_
      refine bn_ti (y := nI ((4 * b) + 4)) (nI_add (4 * b) 4) ?_
      refine lv_icmp_ge E1 E2 d_Mo_compute_89 rfl (fun hz => absurd ((nI_leI (a := (4 * b) + 4) (b := 4 * b + k) (by omega) (by omega)).mp hz) (by omega)) (fun _ => ?_)
      refine lv_aload_n E1 E2 d_Mo_compute_92 rfl (lv_at hl 0 rfl) ?_
      refine lv_iload E1 E2 d_Mo_compute_93 (lv_at hl 3 rfl) ?_
      refine bn_calli F h (bn_runV (n := 1) (As := [.int (nI (4 * b + k))]) (rest := []) F hml hl.1 h mi_0 rfl rfl (c_Mo_roleOf l D ar ad (q.2) (4 * b + k) (by omega) _) (bn_goodV k_852 k_854 ks_Mo_roleOf k_7 k_855) rfl rfl (by decide) ⟨by decide, by decide⟩ rfl rfl (Nat.le_of_ble_eq_true rfl) d_Mo_compute_95 ⟨Nat.zero_le _, Nat.zero_le _⟩) (fun H locs h => ?_)
      refine lv_istore E1 E2 d_Mo_compute_98 hl (by decide) rfl (fun ls hl => ?_)
      have hl : lv_has ls 8 [(7, .int (r_Mo_roleOf (q.2) (4 * b + k))), (0, .ref (ad 0 0)), (1, .int (nI b)), (5, .int (nI (q.1))), (6, .int (nI (4 * b + k)))] := hl
      refine lv_iload E1 E2 d_Mo_compute_100 (lv_at hl 0 rfl) ?_
      refine lv_aload_n E1 E2 d_Mo_compute_102 rfl (lv_at hl 1 rfl) ?_
      refine g_Mo_role F h k_707 d_Mo_compute_103 ?_
      refine lv_iload E1 E2 d_Mo_compute_106 (lv_at hl 4 rfl) ?_
      refine ml_role F h (i := 4 * b + k) (by omega) (v := (q.2).1 5 (4 * b + k)) rfl d_Mo_compute_108 ?_
      refine lv_icmp_eq E1 E2 d_Mo_compute_109 rfl (fun h2 => ?_) (fun h2 => ?_)
      · have h2 : r_Mo_roleOf (q.2) (4 * b + k) = (q.2).1 5 (4 * b + k) := h2
        refine lv_iinc (v := (nI (4 * b + k + 1))) E1 E2 d_Mo_compute_123 hl (k := 4) rfl (nI_1 _) (by decide) rfl (fun ls hl => ?_)
        have hl : lv_has ls 8 [(6, .int (nI (4 * b + k + 1))), (7, .int (r_Mo_roleOf (q.2) (4 * b + k))), (0, .ref (ad 0 0)), (1, .int (nI b)), (5, .int (nI (q.1)))] := hl
        refine lv_goto E1 E2 d_Mo_compute_126 rfl ?_
        have hq : (bd_Mo_compute b k q) = (q.1, q.2) := if_pos h2
        rw [hq] at kk
        exact kk _ _ ls (lv_sub hl [2, 3, 4, 0] rfl) h hqb
      · have h2 : ¬ (r_Mo_roleOf (q.2) (4 * b + k) = (q.2).1 5 (4 * b + k)) := h2
        refine lv_aload_n E1 E2 d_Mo_compute_112 rfl (lv_at hl 1 rfl) ?_
        refine lv_iload E1 E2 d_Mo_compute_113 (lv_at hl 4 rfl) ?_
        refine lv_iload E1 E2 d_Mo_compute_115 (lv_at hl 0 rfl) ?_
        refine bn_callv F h (bn_runV (n := 2) (As := [.int (nI (4 * b + k)), .int (r_Mo_roleOf (q.2) (4 * b + k))]) (rest := []) F hml hl.1 h mi_0 rfl rfl (c_Mo_take l D ar ad (q.2) (4 * b + k) (by omega) (r_Mo_roleOf (q.2) (4 * b + k)) _) (bn_goodV k_860 k_862 ks_Mo_take k_7 k_863) rfl rfl (by decide) ⟨by decide, by decide⟩ rfl rfl (Nat.le_of_ble_eq_true rfl) d_Mo_compute_117 ⟨Nat.zero_le _, Nat.zero_le _⟩) (fun H locs h => ?_)
        have h : bn_H (mo_y D ar ad) s.heap H locs (o_Mo_take (q.2) (4 * b + k) (r_Mo_roleOf (q.2) (4 * b + k))) := h
        refine lv_iconst (v := 1) E1 E2 d_Mo_compute_120 (by decide) ?_
        refine lv_istore E1 E2 d_Mo_compute_121 hl (by decide) rfl (fun ls hl => ?_)
        have hl : lv_has ls 8 [(5, .int 1), (7, .int (r_Mo_roleOf (q.2) (4 * b + k))), (0, .ref (ad 0 0)), (1, .int (nI b)), (6, .int (nI (4 * b + k)))] := hl
        refine lv_iinc (v := (nI (4 * b + k + 1))) E1 E2 d_Mo_compute_123 hl (k := 4) rfl (nI_1 _) (by decide) rfl (fun ls hl => ?_)
        have hl : lv_has ls 8 [(6, .int (nI (4 * b + k + 1))), (5, .int 1), (7, .int (r_Mo_roleOf (q.2) (4 * b + k))), (0, .ref (ad 0 0)), (1, .int (nI b))] := hl
        refine lv_goto E1 E2 d_Mo_compute_126 rfl ?_
        have hq : (bd_Mo_compute b k q) = (1, (o_Mo_take (q.2) (4 * b + k) (r_Mo_roleOf (q.2) (4 * b + k)))) := if_neg h2
        rw [hq] at kk
        exact kk _ _ ls (lv_sub hl [3, 4, 1, 0] rfl) h (show 1 < 2 by decide)
    refine hs82 _ 0 (by decide) (1, (o_Mo_choose N b)) _ _ ls (lv_sub hl [5, 6, 1, 0] rfl) h (show 1 < 2 by decide) (fun H locs ls hl h hqb => ?_)
    rw [it_Mo_compute_0] at hl h hqb
    refine hs82 _ 1 (by decide) (it_Mo_compute b (1, (o_Mo_choose N b)) 1) _ _ ls hl h hqb (fun H locs ls hl h hqb => ?_)
    rw [it_Mo_compute_s] at hl h hqb
    refine hs82 _ 2 (by decide) (it_Mo_compute b (1, (o_Mo_choose N b)) 2) _ _ ls hl h hqb (fun H locs ls hl h hqb => ?_)
    rw [it_Mo_compute_s] at hl h hqb
    refine hs82 _ 3 (by decide) (it_Mo_compute b (1, (o_Mo_choose N b)) 3) _ _ ls hl h hqb (fun H locs ls hl h hqb => ?_)
    rw [it_Mo_compute_s] at hl h hqb
    have hl : lv_has ls 8 [(0, .ref (ad 0 0)), (1, .int (nI b)), (5, .int (nI ((it_Mo_compute b (1, (o_Mo_choose N b)) 4).1))), (6, .int (nI (4 * b + 4)))] := hl
    have h : bn_H (mo_y D ar ad) s.heap H locs (it_Mo_compute b (1, (o_Mo_choose N b)) 4).2 := h
    have hqb : (it_Mo_compute b (1, (o_Mo_choose N b)) 4).1 < 2 := hqb
    refine lv_iload E1 E2 d_Mo_compute_82 (lv_at hl 3 rfl) ?_
    refine lv_iconst (v := 4) E1 E2 d_Mo_compute_84 (by decide) ?_
    refine lv_iload_n E1 E2 d_Mo_compute_85 rfl (lv_at hl 1 rfl) ?_
    refine lv_imul E1 E2 d_Mo_compute_86 ?_
    refine bn_ti (y := nI (4 * b)) (pk_mul 4 b) ?_
    refine lv_iconst (v := 4) E1 E2 d_Mo_compute_87 (by decide) ?_
    refine lv_iadd E1 E2 d_Mo_compute_88 ?_
    refine bn_ti (y := nI ((4 * b) + 4)) (nI_add (4 * b) 4) ?_
    refine lv_icmp_ge E1 E2 d_Mo_compute_89 rfl (fun _ => ?_) (fun hz => absurd ((nI_leI (a := (4 * b) + 4) (b := 4 * b + 4) (by omega) (by omega)).mpr (by omega)) hz)
    refine lv_iload E1 E2 d_Mo_compute_129 (lv_at hl 2 rfl) ?_
    refine lv_if_eq E1 E2 d_Mo_compute_131 rfl (fun h3 => ?_) (fun h3 => ?_)
    · have h3 : ((it_Mo_compute b (1, (o_Mo_choose N b)) 4).1) = 0 := ((nI_eq (a := (it_Mo_compute b (1, (o_Mo_choose N b)) 4).1) (b := 0) (by omega) (by omega)).mp h3)
      have hq : o_Mo_compute N b = (it_Mo_compute b (1, (o_Mo_choose N b)) 4).2 := Eq.trans (if_neg h1) (if_pos h3)
      exact bn_retv F hr hk h hq.symm d_Mo_compute_139
    · have h3 : ¬ (((it_Mo_compute b (1, (o_Mo_choose N b)) 4).1) = 0) := (fun hw => h3 ((nI_eq (a := (it_Mo_compute b (1, (o_Mo_choose N b)) 4).1) (b := 0) (by omega) (by omega)).mpr hw))
      refine lv_aload_n E1 E2 d_Mo_compute_134 rfl (lv_at hl 0 rfl) ?_
      refine lv_iload_n E1 E2 d_Mo_compute_135 rfl (lv_at hl 1 rfl) ?_
      refine bn_callv F h (bn_runV (n := 1) (As := [.int (nI b)]) (rest := []) F hml hl.1 h mi_0 rfl rfl (c_Mo_tellAll l D ar ad ((it_Mo_compute b (1, (o_Mo_choose N b)) 4).2) b (by omega) _) (bn_goodV k_868 k_870 ks_Mo_tellAll k_7 k_871) rfl rfl (by decide) ⟨by decide, by decide⟩ rfl rfl (Nat.le_of_ble_eq_true rfl) d_Mo_compute_136 ⟨Nat.zero_le _, Nat.zero_le _⟩) (fun H locs h => ?_)
      have h : bn_H (mo_y D ar ad) s.heap H locs (o_Mo_tellAll ((it_Mo_compute b (1, (o_Mo_choose N b)) 4).2) b) := h
      have hq : o_Mo_compute N b = (o_Mo_tellAll ((it_Mo_compute b (1, (o_Mo_choose N b)) 4).2) b) := Eq.trans (if_neg h1) (if_neg h3)
      exact bn_retv F hr hk h hq.symm d_Mo_compute_139
  · have h1 : r_Mo_rootOf (o_Mo_choose N b) ((o_Mo_choose N b).2.2.1 22 b) = r_Mo_rootOf N (N.2.2.1 22 b) := h1
    refine lv_aload_n E1 E2 d_Mo_compute_46 rfl (lv_at hl 3 rfl) ?_
    refine g_Mo_best F h k_724 d_Mo_compute_47 ?_
    refine lv_iload_n E1 E2 d_Mo_compute_50 rfl (lv_at hl 4 rfl) ?_
    refine ml_best F h (i := b) (by omega) (v := (o_Mo_choose N b).2.2.1 22 b) rfl d_Mo_compute_51 ?_
    refine bn_calli F h (bn_runS (n := 1) (As := [.long ((o_Mo_choose N b).2.2.1 22 b)]) (rest := []) F hml hl.1 h (c_Mo_costOf l D ar ad (o_Mo_choose N b) ((o_Mo_choose N b).2.2.1 22 b) _) (bn_goodS k_836 k_837 k_7 k_838) rfl rfl (by decide) ⟨by decide, by decide⟩ rfl rfl (Nat.le_of_ble_eq_true rfl) d_Mo_compute_52 ⟨Nat.zero_le _, Nat.zero_le _⟩) (fun H locs h => ?_)
    refine lv_iload_n E1 E2 d_Mo_compute_55 rfl (lv_at hl 1 rfl) ?_
    refine lv_icmp_ne E1 E2 d_Mo_compute_56 rfl (fun h4 => ?_) (fun h4 => ?_)
    · have h4 : ¬ (r_Mo_costOf (o_Mo_choose N b) ((o_Mo_choose N b).2.2.1 22 b) = r_Mo_costOf N (N.2.2.1 22 b)) := h4
      refine lv_iconst (v := 1) E1 E2 d_Mo_compute_70 (by decide) ?_
      refine lv_goto E1 E2 d_Mo_compute_71 rfl ?_
      refine lv_istore E1 E2 d_Mo_compute_75 hl (by decide) rfl (fun ls hl => ?_)
      have hl : lv_has ls 8 [(5, .int 1), (4, .int (N.1 23 b)), (3, .int (r_Mo_costOf N (N.2.2.1 22 b))), (2, .int (r_Mo_rootOf N (N.2.2.1 22 b))), (0, .ref (ad 0 0)), (1, .int (nI b))] := hl
      refine lv_iconst (v := 4) E1 E2 d_Mo_compute_77 (by decide) ?_
      refine lv_iload_n E1 E2 d_Mo_compute_78 rfl (lv_at hl 5 rfl) ?_
      refine lv_imul E1 E2 d_Mo_compute_79 ?_
      refine bn_ti (y := nI (4 * b)) (pk_mul 4 b) ?_
      refine lv_istore E1 E2 d_Mo_compute_80 hl (by decide) rfl (fun ls hl => ?_)
      have hl : lv_has ls 8 [(6, .int (nI (4 * b))), (5, .int 1), (4, .int (N.1 23 b)), (3, .int (r_Mo_costOf N (N.2.2.1 22 b))), (2, .int (r_Mo_rootOf N (N.2.2.1 22 b))), (0, .ref (ad 0 0)), (1, .int (nI b))] := hl
      have hs82 : ∀ (Q0 : State → Prop) (k : Nat), k < 4 → ∀ (q : Nat × bn_S) (H : Heap) (locs : List Loc) (ls : Array Slot), lv_has ls 8 [(0, .ref (ad 0 0)), (1, .int (nI b)), (5, .int (nI (q.1))), (6, .int (nI (4 * b + k)))] → bn_H (mo_y D ar ad) s.heap H locs q.2 → q.1 < 2 → (∀ (H : Heap) (locs : List Loc) (ls : Array Slot), lv_has ls 8 [(0, .ref (ad 0 0)), (1, .int (nI b)), (5, .int (nI ((bd_Mo_compute b k q).1))), (6, .int (nI (4 * b + k + 1)))] → bn_H (mo_y D ar ad) s.heap H locs (bd_Mo_compute b k q).2 → (bd_Mo_compute b k q).1 < 2 → W p l e { frames := 4, cells := 0, slots := 0, locals := 93 } s m args below meth c H locs 0 0 Q0 (F0 m 82 ls [])) → W p l e { frames := 4, cells := 0, slots := 0, locals := 93 } s m args below meth c H locs 0 0 Q0 (F0 m 82 ls []) := by
        intro Q0 k hkk q H locs ls hl h hqb kk
        refine lv_iload E1 E2 d_Mo_compute_82 (lv_at hl 3 rfl) ?_
        refine lv_iconst (v := 4) E1 E2 d_Mo_compute_84 (by decide) ?_
        refine lv_iload_n E1 E2 d_Mo_compute_85 rfl (lv_at hl 1 rfl) ?_
        refine lv_imul E1 E2 d_Mo_compute_86 ?_
        refine bn_ti (y := nI (4 * b)) (pk_mul 4 b) ?_
        refine lv_iconst (v := 4) E1 E2 d_Mo_compute_87 (by decide) ?_
        refine lv_iadd E1 E2 d_Mo_compute_88 ?_
        refine bn_ti (y := nI ((4 * b) + 4)) (nI_add (4 * b) 4) ?_
        refine lv_icmp_ge E1 E2 d_Mo_compute_89 rfl (fun hz => absurd ((nI_leI (a := (4 * b) + 4) (b := 4 * b + k) (by omega) (by omega)).mp hz) (by omega)) (fun _ => ?_)
        refine lv_aload_n E1 E2 d_Mo_compute_92 rfl (lv_at hl 0 rfl) ?_
        refine lv_iload E1 E2 d_Mo_compute_93 (lv_at hl 3 rfl) ?_
        refine bn_calli F h (bn_runV (n := 1) (As := [.int (nI (4 * b + k))]) (rest := []) F hml hl.1 h mi_0 rfl rfl (c_Mo_roleOf l D ar ad (q.2) (4 * b + k) (by omega) _) (bn_goodV k_852 k_854 ks_Mo_roleOf k_7 k_855) rfl rfl (by decide) ⟨by decide, by decide⟩ rfl rfl (Nat.le_of_ble_eq_true rfl) d_Mo_compute_95 ⟨Nat.zero_le _, Nat.zero_le _⟩) (fun H locs h => ?_)
        refine lv_istore E1 E2 d_Mo_compute_98 hl (by decide) rfl (fun ls hl => ?_)
        have hl : lv_has ls 8 [(7, .int (r_Mo_roleOf (q.2) (4 * b + k))), (0, .ref (ad 0 0)), (1, .int (nI b)), (5, .int (nI (q.1))), (6, .int (nI (4 * b + k)))] := hl
        refine lv_iload E1 E2 d_Mo_compute_100 (lv_at hl 0 rfl) ?_
        refine lv_aload_n E1 E2 d_Mo_compute_102 rfl (lv_at hl 1 rfl) ?_
        refine g_Mo_role F h k_707 d_Mo_compute_103 ?_
        refine lv_iload E1 E2 d_Mo_compute_106 (lv_at hl 4 rfl) ?_
        refine ml_role F h (i := 4 * b + k) (by omega) (v := (q.2).1 5 (4 * b + k)) rfl d_Mo_compute_108 ?_
        refine lv_icmp_eq E1 E2 d_Mo_compute_109 rfl (fun h5 => ?_) (fun h5 => ?_)
        · have h5 : r_Mo_roleOf (q.2) (4 * b + k) = (q.2).1 5 (4 * b + k) := h5
          refine lv_iinc (v := (nI (4 * b + k + 1))) E1 E2 d_Mo_compute_123 hl (k := 4) rfl (nI_1 _) (by decide) rfl (fun ls hl => ?_)
          have hl : lv_has ls 8 [(6, .int (nI (4 * b + k + 1))), (7, .int (r_Mo_roleOf (q.2) (4 * b + k))), (0, .ref (ad 0 0)), (1, .int (nI b)), (5, .int (nI (q.1)))] := hl
          refine lv_goto E1 E2 d_Mo_compute_126 rfl ?_
          have hq : (bd_Mo_compute b k q) = (q.1, q.2) := if_pos h5
          rw [hq] at kk
          exact kk _ _ ls (lv_sub hl [2, 3, 4, 0] rfl) h hqb
        · have h5 : ¬ (r_Mo_roleOf (q.2) (4 * b + k) = (q.2).1 5 (4 * b + k)) := h5
          refine lv_aload_n E1 E2 d_Mo_compute_112 rfl (lv_at hl 1 rfl) ?_
          refine lv_iload E1 E2 d_Mo_compute_113 (lv_at hl 4 rfl) ?_
          refine lv_iload E1 E2 d_Mo_compute_115 (lv_at hl 0 rfl) ?_
          refine bn_callv F h (bn_runV (n := 2) (As := [.int (nI (4 * b + k)), .int (r_Mo_roleOf (q.2) (4 * b + k))]) (rest := []) F hml hl.1 h mi_0 rfl rfl (c_Mo_take l D ar ad (q.2) (4 * b + k) (by omega) (r_Mo_roleOf (q.2) (4 * b + k)) _) (bn_goodV k_860 k_862 ks_Mo_take k_7 k_863) rfl rfl (by decide) ⟨by decide, by decide⟩ rfl rfl (Nat.le_of_ble_eq_true rfl) d_Mo_compute_117 ⟨Nat.zero_le _, Nat.zero_le _⟩) (fun H locs h => ?_)
          have h : bn_H (mo_y D ar ad) s.heap H locs (o_Mo_take (q.2) (4 * b + k) (r_Mo_roleOf (q.2) (4 * b + k))) := h
          refine lv_iconst (v := 1) E1 E2 d_Mo_compute_120 (by decide) ?_
          refine lv_istore E1 E2 d_Mo_compute_121 hl (by decide) rfl (fun ls hl => ?_)
          have hl : lv_has ls 8 [(5, .int 1), (7, .int (r_Mo_roleOf (q.2) (4 * b + k))), (0, .ref (ad 0 0)), (1, .int (nI b)), (6, .int (nI (4 * b + k)))] := hl
          refine lv_iinc (v := (nI (4 * b + k + 1))) E1 E2 d_Mo_compute_123 hl (k := 4) rfl (nI_1 _) (by decide) rfl (fun ls hl => ?_)
          have hl : lv_has ls 8 [(6, .int (nI (4 * b + k + 1))), (5, .int 1), (7, .int (r_Mo_roleOf (q.2) (4 * b + k))), (0, .ref (ad 0 0)), (1, .int (nI b))] := hl
          refine lv_goto E1 E2 d_Mo_compute_126 rfl ?_
          have hq : (bd_Mo_compute b k q) = (1, (o_Mo_take (q.2) (4 * b + k) (r_Mo_roleOf (q.2) (4 * b + k)))) := if_neg h5
          rw [hq] at kk
          exact kk _ _ ls (lv_sub hl [3, 4, 1, 0] rfl) h (show 1 < 2 by decide)
      refine hs82 _ 0 (by decide) (1, (o_Mo_choose N b)) _ _ ls (lv_sub hl [5, 6, 1, 0] rfl) h (show 1 < 2 by decide) (fun H locs ls hl h hqb => ?_)
      rw [it_Mo_compute_0] at hl h hqb
      refine hs82 _ 1 (by decide) (it_Mo_compute b (1, (o_Mo_choose N b)) 1) _ _ ls hl h hqb (fun H locs ls hl h hqb => ?_)
      rw [it_Mo_compute_s] at hl h hqb
      refine hs82 _ 2 (by decide) (it_Mo_compute b (1, (o_Mo_choose N b)) 2) _ _ ls hl h hqb (fun H locs ls hl h hqb => ?_)
      rw [it_Mo_compute_s] at hl h hqb
      refine hs82 _ 3 (by decide) (it_Mo_compute b (1, (o_Mo_choose N b)) 3) _ _ ls hl h hqb (fun H locs ls hl h hqb => ?_)
      rw [it_Mo_compute_s] at hl h hqb
      have hl : lv_has ls 8 [(0, .ref (ad 0 0)), (1, .int (nI b)), (5, .int (nI ((it_Mo_compute b (1, (o_Mo_choose N b)) 4).1))), (6, .int (nI (4 * b + 4)))] := hl
      have h : bn_H (mo_y D ar ad) s.heap H locs (it_Mo_compute b (1, (o_Mo_choose N b)) 4).2 := h
      have hqb : (it_Mo_compute b (1, (o_Mo_choose N b)) 4).1 < 2 := hqb
      refine lv_iload E1 E2 d_Mo_compute_82 (lv_at hl 3 rfl) ?_
      refine lv_iconst (v := 4) E1 E2 d_Mo_compute_84 (by decide) ?_
      refine lv_iload_n E1 E2 d_Mo_compute_85 rfl (lv_at hl 1 rfl) ?_
      refine lv_imul E1 E2 d_Mo_compute_86 ?_
      refine bn_ti (y := nI (4 * b)) (pk_mul 4 b) ?_
      refine lv_iconst (v := 4) E1 E2 d_Mo_compute_87 (by decide) ?_
      refine lv_iadd E1 E2 d_Mo_compute_88 ?_
      refine bn_ti (y := nI ((4 * b) + 4)) (nI_add (4 * b) 4) ?_
      refine lv_icmp_ge E1 E2 d_Mo_compute_89 rfl (fun _ => ?_) (fun hz => absurd ((nI_leI (a := (4 * b) + 4) (b := 4 * b + 4) (by omega) (by omega)).mpr (by omega)) hz)
      refine lv_iload E1 E2 d_Mo_compute_129 (lv_at hl 2 rfl) ?_
      refine lv_if_eq E1 E2 d_Mo_compute_131 rfl (fun h6 => ?_) (fun h6 => ?_)
      · have h6 : ((it_Mo_compute b (1, (o_Mo_choose N b)) 4).1) = 0 := ((nI_eq (a := (it_Mo_compute b (1, (o_Mo_choose N b)) 4).1) (b := 0) (by omega) (by omega)).mp h6)
        have hq : o_Mo_compute N b = (it_Mo_compute b (1, (o_Mo_choose N b)) 4).2 := Eq.trans (if_pos h1) (Eq.trans (if_neg h4) (if_pos h6))
        exact bn_retv F hr hk h hq.symm d_Mo_compute_139
      · have h6 : ¬ (((it_Mo_compute b (1, (o_Mo_choose N b)) 4).1) = 0) := (fun hw => h6 ((nI_eq (a := (it_Mo_compute b (1, (o_Mo_choose N b)) 4).1) (b := 0) (by omega) (by omega)).mpr hw))
        refine lv_aload_n E1 E2 d_Mo_compute_134 rfl (lv_at hl 0 rfl) ?_
        refine lv_iload_n E1 E2 d_Mo_compute_135 rfl (lv_at hl 1 rfl) ?_
        refine bn_callv F h (bn_runV (n := 1) (As := [.int (nI b)]) (rest := []) F hml hl.1 h mi_0 rfl rfl (c_Mo_tellAll l D ar ad ((it_Mo_compute b (1, (o_Mo_choose N b)) 4).2) b (by omega) _) (bn_goodV k_868 k_870 ks_Mo_tellAll k_7 k_871) rfl rfl (by decide) ⟨by decide, by decide⟩ rfl rfl (Nat.le_of_ble_eq_true rfl) d_Mo_compute_136 ⟨Nat.zero_le _, Nat.zero_le _⟩) (fun H locs h => ?_)
        have h : bn_H (mo_y D ar ad) s.heap H locs (o_Mo_tellAll ((it_Mo_compute b (1, (o_Mo_choose N b)) 4).2) b) := h
        have hq : o_Mo_compute N b = (o_Mo_tellAll ((it_Mo_compute b (1, (o_Mo_choose N b)) 4).2) b) := Eq.trans (if_pos h1) (Eq.trans (if_neg h4) (if_neg h6))
        exact bn_retv F hr hk h hq.symm d_Mo_compute_139
    · have h4 : r_Mo_costOf (o_Mo_choose N b) ((o_Mo_choose N b).2.2.1 22 b) = r_Mo_costOf N (N.2.2.1 22 b) := h4
      refine lv_aload_n E1 E2 d_Mo_compute_59 rfl (lv_at hl 3 rfl) ?_
      refine g_Mo_hops F h k_725 d_Mo_compute_60 ?_
      refine lv_iload_n E1 E2 d_Mo_compute_63 rfl (lv_at hl 4 rfl) ?_
      refine ml_hops F h (i := b) (by omega) (v := (o_Mo_choose N b).1 23 b) rfl d_Mo_compute_64 ?_
      refine lv_iload E1 E2 d_Mo_compute_65 (lv_at hl 0 rfl) ?_
      refine lv_icmp_eq E1 E2 d_Mo_compute_67 rfl (fun h7 => ?_) (fun h7 => ?_)
      · have h7 : (o_Mo_choose N b).1 23 b = N.1 23 b := h7
        refine lv_iconst (v := 0) E1 E2 d_Mo_compute_74 (by decide) ?_
        refine lv_istore E1 E2 d_Mo_compute_75 hl (by decide) rfl (fun ls hl => ?_)
        have hl : lv_has ls 8 [(5, .int 0), (4, .int (N.1 23 b)), (3, .int (r_Mo_costOf N (N.2.2.1 22 b))), (2, .int (r_Mo_rootOf N (N.2.2.1 22 b))), (0, .ref (ad 0 0)), (1, .int (nI b))] := hl
        refine lv_iconst (v := 4) E1 E2 d_Mo_compute_77 (by decide) ?_
        refine lv_iload_n E1 E2 d_Mo_compute_78 rfl (lv_at hl 5 rfl) ?_
        refine lv_imul E1 E2 d_Mo_compute_79 ?_
        refine bn_ti (y := nI (4 * b)) (pk_mul 4 b) ?_
        refine lv_istore E1 E2 d_Mo_compute_80 hl (by decide) rfl (fun ls hl => ?_)
        have hl : lv_has ls 8 [(6, .int (nI (4 * b))), (5, .int 0), (4, .int (N.1 23 b)), (3, .int (r_Mo_costOf N (N.2.2.1 22 b))), (2, .int (r_Mo_rootOf N (N.2.2.1 22 b))), (0, .ref (ad 0 0)), (1, .int (nI b))] := hl
        have hs82 : ∀ (Q0 : State → Prop) (k : Nat), k < 4 → ∀ (q : Nat × bn_S) (H : Heap) (locs : List Loc) (ls : Array Slot), lv_has ls 8 [(0, .ref (ad 0 0)), (1, .int (nI b)), (5, .int (nI (q.1))), (6, .int (nI (4 * b + k)))] → bn_H (mo_y D ar ad) s.heap H locs q.2 → q.1 < 2 → (∀ (H : Heap) (locs : List Loc) (ls : Array Slot), lv_has ls 8 [(0, .ref (ad 0 0)), (1, .int (nI b)), (5, .int (nI ((bd_Mo_compute b k q).1))), (6, .int (nI (4 * b + k + 1)))] → bn_H (mo_y D ar ad) s.heap H locs (bd_Mo_compute b k q).2 → (bd_Mo_compute b k q).1 < 2 → W p l e { frames := 4, cells := 0, slots := 0, locals := 93 } s m args below meth c H locs 0 0 Q0 (F0 m 82 ls [])) → W p l e { frames := 4, cells := 0, slots := 0, locals := 93 } s m args below meth c H locs 0 0 Q0 (F0 m 82 ls []) := by
          intro Q0 k hkk q H locs ls hl h hqb kk
          refine lv_iload E1 E2 d_Mo_compute_82 (lv_at hl 3 rfl) ?_
          refine lv_iconst (v := 4) E1 E2 d_Mo_compute_84 (by decide) ?_
          refine lv_iload_n E1 E2 d_Mo_compute_85 rfl (lv_at hl 1 rfl) ?_
          refine lv_imul E1 E2 d_Mo_compute_86 ?_
          refine bn_ti (y := nI (4 * b)) (pk_mul 4 b) ?_
          refine lv_iconst (v := 4) E1 E2 d_Mo_compute_87 (by decide) ?_
          refine lv_iadd E1 E2 d_Mo_compute_88 ?_
          refine bn_ti (y := nI ((4 * b) + 4)) (nI_add (4 * b) 4) ?_
          refine lv_icmp_ge E1 E2 d_Mo_compute_89 rfl (fun hz => absurd ((nI_leI (a := (4 * b) + 4) (b := 4 * b + k) (by omega) (by omega)).mp hz) (by omega)) (fun _ => ?_)
          refine lv_aload_n E1 E2 d_Mo_compute_92 rfl (lv_at hl 0 rfl) ?_
          refine lv_iload E1 E2 d_Mo_compute_93 (lv_at hl 3 rfl) ?_
          refine bn_calli F h (bn_runV (n := 1) (As := [.int (nI (4 * b + k))]) (rest := []) F hml hl.1 h mi_0 rfl rfl (c_Mo_roleOf l D ar ad (q.2) (4 * b + k) (by omega) _) (bn_goodV k_852 k_854 ks_Mo_roleOf k_7 k_855) rfl rfl (by decide) ⟨by decide, by decide⟩ rfl rfl (Nat.le_of_ble_eq_true rfl) d_Mo_compute_95 ⟨Nat.zero_le _, Nat.zero_le _⟩) (fun H locs h => ?_)
          refine lv_istore E1 E2 d_Mo_compute_98 hl (by decide) rfl (fun ls hl => ?_)
          have hl : lv_has ls 8 [(7, .int (r_Mo_roleOf (q.2) (4 * b + k))), (0, .ref (ad 0 0)), (1, .int (nI b)), (5, .int (nI (q.1))), (6, .int (nI (4 * b + k)))] := hl
          refine lv_iload E1 E2 d_Mo_compute_100 (lv_at hl 0 rfl) ?_
          refine lv_aload_n E1 E2 d_Mo_compute_102 rfl (lv_at hl 1 rfl) ?_
          refine g_Mo_role F h k_707 d_Mo_compute_103 ?_
          refine lv_iload E1 E2 d_Mo_compute_106 (lv_at hl 4 rfl) ?_
          refine ml_role F h (i := 4 * b + k) (by omega) (v := (q.2).1 5 (4 * b + k)) rfl d_Mo_compute_108 ?_
          refine lv_icmp_eq E1 E2 d_Mo_compute_109 rfl (fun h8 => ?_) (fun h8 => ?_)
          · have h8 : r_Mo_roleOf (q.2) (4 * b + k) = (q.2).1 5 (4 * b + k) := h8
            refine lv_iinc (v := (nI (4 * b + k + 1))) E1 E2 d_Mo_compute_123 hl (k := 4) rfl (nI_1 _) (by decide) rfl (fun ls hl => ?_)
            have hl : lv_has ls 8 [(6, .int (nI (4 * b + k + 1))), (7, .int (r_Mo_roleOf (q.2) (4 * b + k))), (0, .ref (ad 0 0)), (1, .int (nI b)), (5, .int (nI (q.1)))] := hl
            refine lv_goto E1 E2 d_Mo_compute_126 rfl ?_
            have hq : (bd_Mo_compute b k q) = (q.1, q.2) := if_pos h8
            rw [hq] at kk
            exact kk _ _ ls (lv_sub hl [2, 3, 4, 0] rfl) h hqb
          · have h8 : ¬ (r_Mo_roleOf (q.2) (4 * b + k) = (q.2).1 5 (4 * b + k)) := h8
            refine lv_aload_n E1 E2 d_Mo_compute_112 rfl (lv_at hl 1 rfl) ?_
            refine lv_iload E1 E2 d_Mo_compute_113 (lv_at hl 4 rfl) ?_
            refine lv_iload E1 E2 d_Mo_compute_115 (lv_at hl 0 rfl) ?_
            refine bn_callv F h (bn_runV (n := 2) (As := [.int (nI (4 * b + k)), .int (r_Mo_roleOf (q.2) (4 * b + k))]) (rest := []) F hml hl.1 h mi_0 rfl rfl (c_Mo_take l D ar ad (q.2) (4 * b + k) (by omega) (r_Mo_roleOf (q.2) (4 * b + k)) _) (bn_goodV k_860 k_862 ks_Mo_take k_7 k_863) rfl rfl (by decide) ⟨by decide, by decide⟩ rfl rfl (Nat.le_of_ble_eq_true rfl) d_Mo_compute_117 ⟨Nat.zero_le _, Nat.zero_le _⟩) (fun H locs h => ?_)
            have h : bn_H (mo_y D ar ad) s.heap H locs (o_Mo_take (q.2) (4 * b + k) (r_Mo_roleOf (q.2) (4 * b + k))) := h
            refine lv_iconst (v := 1) E1 E2 d_Mo_compute_120 (by decide) ?_
            refine lv_istore E1 E2 d_Mo_compute_121 hl (by decide) rfl (fun ls hl => ?_)
            have hl : lv_has ls 8 [(5, .int 1), (7, .int (r_Mo_roleOf (q.2) (4 * b + k))), (0, .ref (ad 0 0)), (1, .int (nI b)), (6, .int (nI (4 * b + k)))] := hl
            refine lv_iinc (v := (nI (4 * b + k + 1))) E1 E2 d_Mo_compute_123 hl (k := 4) rfl (nI_1 _) (by decide) rfl (fun ls hl => ?_)
            have hl : lv_has ls 8 [(6, .int (nI (4 * b + k + 1))), (5, .int 1), (7, .int (r_Mo_roleOf (q.2) (4 * b + k))), (0, .ref (ad 0 0)), (1, .int (nI b))] := hl
            refine lv_goto E1 E2 d_Mo_compute_126 rfl ?_
            have hq : (bd_Mo_compute b k q) = (1, (o_Mo_take (q.2) (4 * b + k) (r_Mo_roleOf (q.2) (4 * b + k)))) := if_neg h8
            rw [hq] at kk
            exact kk _ _ ls (lv_sub hl [3, 4, 1, 0] rfl) h (show 1 < 2 by decide)
        refine hs82 _ 0 (by decide) (0, (o_Mo_choose N b)) _ _ ls (lv_sub hl [5, 6, 1, 0] rfl) h (show 0 < 2 by decide) (fun H locs ls hl h hqb => ?_)
        rw [it_Mo_compute_0] at hl h hqb
        refine hs82 _ 1 (by decide) (it_Mo_compute b (0, (o_Mo_choose N b)) 1) _ _ ls hl h hqb (fun H locs ls hl h hqb => ?_)
        rw [it_Mo_compute_s] at hl h hqb
        refine hs82 _ 2 (by decide) (it_Mo_compute b (0, (o_Mo_choose N b)) 2) _ _ ls hl h hqb (fun H locs ls hl h hqb => ?_)
        rw [it_Mo_compute_s] at hl h hqb
        refine hs82 _ 3 (by decide) (it_Mo_compute b (0, (o_Mo_choose N b)) 3) _ _ ls hl h hqb (fun H locs ls hl h hqb => ?_)
        rw [it_Mo_compute_s] at hl h hqb
        have hl : lv_has ls 8 [(0, .ref (ad 0 0)), (1, .int (nI b)), (5, .int (nI ((it_Mo_compute b (0, (o_Mo_choose N b)) 4).1))), (6, .int (nI (4 * b + 4)))] := hl
        have h : bn_H (mo_y D ar ad) s.heap H locs (it_Mo_compute b (0, (o_Mo_choose N b)) 4).2 := h
        have hqb : (it_Mo_compute b (0, (o_Mo_choose N b)) 4).1 < 2 := hqb
        refine lv_iload E1 E2 d_Mo_compute_82 (lv_at hl 3 rfl) ?_
        refine lv_iconst (v := 4) E1 E2 d_Mo_compute_84 (by decide) ?_
        refine lv_iload_n E1 E2 d_Mo_compute_85 rfl (lv_at hl 1 rfl) ?_
        refine lv_imul E1 E2 d_Mo_compute_86 ?_
        refine bn_ti (y := nI (4 * b)) (pk_mul 4 b) ?_
        refine lv_iconst (v := 4) E1 E2 d_Mo_compute_87 (by decide) ?_
        refine lv_iadd E1 E2 d_Mo_compute_88 ?_
        refine bn_ti (y := nI ((4 * b) + 4)) (nI_add (4 * b) 4) ?_
        refine lv_icmp_ge E1 E2 d_Mo_compute_89 rfl (fun _ => ?_) (fun hz => absurd ((nI_leI (a := (4 * b) + 4) (b := 4 * b + 4) (by omega) (by omega)).mpr (by omega)) hz)
        refine lv_iload E1 E2 d_Mo_compute_129 (lv_at hl 2 rfl) ?_
        refine lv_if_eq E1 E2 d_Mo_compute_131 rfl (fun h9 => ?_) (fun h9 => ?_)
        · have h9 : ((it_Mo_compute b (0, (o_Mo_choose N b)) 4).1) = 0 := ((nI_eq (a := (it_Mo_compute b (0, (o_Mo_choose N b)) 4).1) (b := 0) (by omega) (by omega)).mp h9)
          have hq : o_Mo_compute N b = (it_Mo_compute b (0, (o_Mo_choose N b)) 4).2 := Eq.trans (if_pos h1) (Eq.trans (if_pos h4) (Eq.trans (if_pos h7) (if_pos h9)))
          exact bn_retv F hr hk h hq.symm d_Mo_compute_139
        · have h9 : ¬ (((it_Mo_compute b (0, (o_Mo_choose N b)) 4).1) = 0) := (fun hw => h9 ((nI_eq (a := (it_Mo_compute b (0, (o_Mo_choose N b)) 4).1) (b := 0) (by omega) (by omega)).mpr hw))
          refine lv_aload_n E1 E2 d_Mo_compute_134 rfl (lv_at hl 0 rfl) ?_
          refine lv_iload_n E1 E2 d_Mo_compute_135 rfl (lv_at hl 1 rfl) ?_
          refine bn_callv F h (bn_runV (n := 1) (As := [.int (nI b)]) (rest := []) F hml hl.1 h mi_0 rfl rfl (c_Mo_tellAll l D ar ad ((it_Mo_compute b (0, (o_Mo_choose N b)) 4).2) b (by omega) _) (bn_goodV k_868 k_870 ks_Mo_tellAll k_7 k_871) rfl rfl (by decide) ⟨by decide, by decide⟩ rfl rfl (Nat.le_of_ble_eq_true rfl) d_Mo_compute_136 ⟨Nat.zero_le _, Nat.zero_le _⟩) (fun H locs h => ?_)
          have h : bn_H (mo_y D ar ad) s.heap H locs (o_Mo_tellAll ((it_Mo_compute b (0, (o_Mo_choose N b)) 4).2) b) := h
          have hq : o_Mo_compute N b = (o_Mo_tellAll ((it_Mo_compute b (0, (o_Mo_choose N b)) 4).2) b) := Eq.trans (if_pos h1) (Eq.trans (if_pos h4) (Eq.trans (if_pos h7) (if_neg h9)))
          exact bn_retv F hr hk h hq.symm d_Mo_compute_139
      · have h7 : ¬ ((o_Mo_choose N b).1 23 b = N.1 23 b) := h7
        refine lv_iconst (v := 1) E1 E2 d_Mo_compute_70 (by decide) ?_
        refine lv_goto E1 E2 d_Mo_compute_71 rfl ?_
        refine lv_istore E1 E2 d_Mo_compute_75 hl (by decide) rfl (fun ls hl => ?_)
        have hl : lv_has ls 8 [(5, .int 1), (4, .int (N.1 23 b)), (3, .int (r_Mo_costOf N (N.2.2.1 22 b))), (2, .int (r_Mo_rootOf N (N.2.2.1 22 b))), (0, .ref (ad 0 0)), (1, .int (nI b))] := hl
        refine lv_iconst (v := 4) E1 E2 d_Mo_compute_77 (by decide) ?_
        refine lv_iload_n E1 E2 d_Mo_compute_78 rfl (lv_at hl 5 rfl) ?_
        refine lv_imul E1 E2 d_Mo_compute_79 ?_
        refine bn_ti (y := nI (4 * b)) (pk_mul 4 b) ?_
        refine lv_istore E1 E2 d_Mo_compute_80 hl (by decide) rfl (fun ls hl => ?_)
        have hl : lv_has ls 8 [(6, .int (nI (4 * b))), (5, .int 1), (4, .int (N.1 23 b)), (3, .int (r_Mo_costOf N (N.2.2.1 22 b))), (2, .int (r_Mo_rootOf N (N.2.2.1 22 b))), (0, .ref (ad 0 0)), (1, .int (nI b))] := hl
        have hs82 : ∀ (Q0 : State → Prop) (k : Nat), k < 4 → ∀ (q : Nat × bn_S) (H : Heap) (locs : List Loc) (ls : Array Slot), lv_has ls 8 [(0, .ref (ad 0 0)), (1, .int (nI b)), (5, .int (nI (q.1))), (6, .int (nI (4 * b + k)))] → bn_H (mo_y D ar ad) s.heap H locs q.2 → q.1 < 2 → (∀ (H : Heap) (locs : List Loc) (ls : Array Slot), lv_has ls 8 [(0, .ref (ad 0 0)), (1, .int (nI b)), (5, .int (nI ((bd_Mo_compute b k q).1))), (6, .int (nI (4 * b + k + 1)))] → bn_H (mo_y D ar ad) s.heap H locs (bd_Mo_compute b k q).2 → (bd_Mo_compute b k q).1 < 2 → W p l e { frames := 4, cells := 0, slots := 0, locals := 93 } s m args below meth c H locs 0 0 Q0 (F0 m 82 ls [])) → W p l e { frames := 4, cells := 0, slots := 0, locals := 93 } s m args below meth c H locs 0 0 Q0 (F0 m 82 ls []) := by
          intro Q0 k hkk q H locs ls hl h hqb kk
          refine lv_iload E1 E2 d_Mo_compute_82 (lv_at hl 3 rfl) ?_
          refine lv_iconst (v := 4) E1 E2 d_Mo_compute_84 (by decide) ?_
          refine lv_iload_n E1 E2 d_Mo_compute_85 rfl (lv_at hl 1 rfl) ?_
          refine lv_imul E1 E2 d_Mo_compute_86 ?_
          refine bn_ti (y := nI (4 * b)) (pk_mul 4 b) ?_
          refine lv_iconst (v := 4) E1 E2 d_Mo_compute_87 (by decide) ?_
          refine lv_iadd E1 E2 d_Mo_compute_88 ?_
          refine bn_ti (y := nI ((4 * b) + 4)) (nI_add (4 * b) 4) ?_
          refine lv_icmp_ge E1 E2 d_Mo_compute_89 rfl (fun hz => absurd ((nI_leI (a := (4 * b) + 4) (b := 4 * b + k) (by omega) (by omega)).mp hz) (by omega)) (fun _ => ?_)
          refine lv_aload_n E1 E2 d_Mo_compute_92 rfl (lv_at hl 0 rfl) ?_
          refine lv_iload E1 E2 d_Mo_compute_93 (lv_at hl 3 rfl) ?_
          refine bn_calli F h (bn_runV (n := 1) (As := [.int (nI (4 * b + k))]) (rest := []) F hml hl.1 h mi_0 rfl rfl (c_Mo_roleOf l D ar ad (q.2) (4 * b + k) (by omega) _) (bn_goodV k_852 k_854 ks_Mo_roleOf k_7 k_855) rfl rfl (by decide) ⟨by decide, by decide⟩ rfl rfl (Nat.le_of_ble_eq_true rfl) d_Mo_compute_95 ⟨Nat.zero_le _, Nat.zero_le _⟩) (fun H locs h => ?_)
          refine lv_istore E1 E2 d_Mo_compute_98 hl (by decide) rfl (fun ls hl => ?_)
          have hl : lv_has ls 8 [(7, .int (r_Mo_roleOf (q.2) (4 * b + k))), (0, .ref (ad 0 0)), (1, .int (nI b)), (5, .int (nI (q.1))), (6, .int (nI (4 * b + k)))] := hl
          refine lv_iload E1 E2 d_Mo_compute_100 (lv_at hl 0 rfl) ?_
          refine lv_aload_n E1 E2 d_Mo_compute_102 rfl (lv_at hl 1 rfl) ?_
          refine g_Mo_role F h k_707 d_Mo_compute_103 ?_
          refine lv_iload E1 E2 d_Mo_compute_106 (lv_at hl 4 rfl) ?_
          refine ml_role F h (i := 4 * b + k) (by omega) (v := (q.2).1 5 (4 * b + k)) rfl d_Mo_compute_108 ?_
          refine lv_icmp_eq E1 E2 d_Mo_compute_109 rfl (fun h10 => ?_) (fun h10 => ?_)
          · have h10 : r_Mo_roleOf (q.2) (4 * b + k) = (q.2).1 5 (4 * b + k) := h10
            refine lv_iinc (v := (nI (4 * b + k + 1))) E1 E2 d_Mo_compute_123 hl (k := 4) rfl (nI_1 _) (by decide) rfl (fun ls hl => ?_)
            have hl : lv_has ls 8 [(6, .int (nI (4 * b + k + 1))), (7, .int (r_Mo_roleOf (q.2) (4 * b + k))), (0, .ref (ad 0 0)), (1, .int (nI b)), (5, .int (nI (q.1)))] := hl
            refine lv_goto E1 E2 d_Mo_compute_126 rfl ?_
            have hq : (bd_Mo_compute b k q) = (q.1, q.2) := if_pos h10
            rw [hq] at kk
            exact kk _ _ ls (lv_sub hl [2, 3, 4, 0] rfl) h hqb
          · have h10 : ¬ (r_Mo_roleOf (q.2) (4 * b + k) = (q.2).1 5 (4 * b + k)) := h10
            refine lv_aload_n E1 E2 d_Mo_compute_112 rfl (lv_at hl 1 rfl) ?_
            refine lv_iload E1 E2 d_Mo_compute_113 (lv_at hl 4 rfl) ?_
            refine lv_iload E1 E2 d_Mo_compute_115 (lv_at hl 0 rfl) ?_
            refine bn_callv F h (bn_runV (n := 2) (As := [.int (nI (4 * b + k)), .int (r_Mo_roleOf (q.2) (4 * b + k))]) (rest := []) F hml hl.1 h mi_0 rfl rfl (c_Mo_take l D ar ad (q.2) (4 * b + k) (by omega) (r_Mo_roleOf (q.2) (4 * b + k)) _) (bn_goodV k_860 k_862 ks_Mo_take k_7 k_863) rfl rfl (by decide) ⟨by decide, by decide⟩ rfl rfl (Nat.le_of_ble_eq_true rfl) d_Mo_compute_117 ⟨Nat.zero_le _, Nat.zero_le _⟩) (fun H locs h => ?_)
            have h : bn_H (mo_y D ar ad) s.heap H locs (o_Mo_take (q.2) (4 * b + k) (r_Mo_roleOf (q.2) (4 * b + k))) := h
            refine lv_iconst (v := 1) E1 E2 d_Mo_compute_120 (by decide) ?_
            refine lv_istore E1 E2 d_Mo_compute_121 hl (by decide) rfl (fun ls hl => ?_)
            have hl : lv_has ls 8 [(5, .int 1), (7, .int (r_Mo_roleOf (q.2) (4 * b + k))), (0, .ref (ad 0 0)), (1, .int (nI b)), (6, .int (nI (4 * b + k)))] := hl
            refine lv_iinc (v := (nI (4 * b + k + 1))) E1 E2 d_Mo_compute_123 hl (k := 4) rfl (nI_1 _) (by decide) rfl (fun ls hl => ?_)
            have hl : lv_has ls 8 [(6, .int (nI (4 * b + k + 1))), (5, .int 1), (7, .int (r_Mo_roleOf (q.2) (4 * b + k))), (0, .ref (ad 0 0)), (1, .int (nI b))] := hl
            refine lv_goto E1 E2 d_Mo_compute_126 rfl ?_
            have hq : (bd_Mo_compute b k q) = (1, (o_Mo_take (q.2) (4 * b + k) (r_Mo_roleOf (q.2) (4 * b + k)))) := if_neg h10
            rw [hq] at kk
            exact kk _ _ ls (lv_sub hl [3, 4, 1, 0] rfl) h (show 1 < 2 by decide)
        refine hs82 _ 0 (by decide) (1, (o_Mo_choose N b)) _ _ ls (lv_sub hl [5, 6, 1, 0] rfl) h (show 1 < 2 by decide) (fun H locs ls hl h hqb => ?_)
        rw [it_Mo_compute_0] at hl h hqb
        refine hs82 _ 1 (by decide) (it_Mo_compute b (1, (o_Mo_choose N b)) 1) _ _ ls hl h hqb (fun H locs ls hl h hqb => ?_)
        rw [it_Mo_compute_s] at hl h hqb
        refine hs82 _ 2 (by decide) (it_Mo_compute b (1, (o_Mo_choose N b)) 2) _ _ ls hl h hqb (fun H locs ls hl h hqb => ?_)
        rw [it_Mo_compute_s] at hl h hqb
        refine hs82 _ 3 (by decide) (it_Mo_compute b (1, (o_Mo_choose N b)) 3) _ _ ls hl h hqb (fun H locs ls hl h hqb => ?_)
        rw [it_Mo_compute_s] at hl h hqb
        have hl : lv_has ls 8 [(0, .ref (ad 0 0)), (1, .int (nI b)), (5, .int (nI ((it_Mo_compute b (1, (o_Mo_choose N b)) 4).1))), (6, .int (nI (4 * b + 4)))] := hl
        have h : bn_H (mo_y D ar ad) s.heap H locs (it_Mo_compute b (1, (o_Mo_choose N b)) 4).2 := h
        have hqb : (it_Mo_compute b (1, (o_Mo_choose N b)) 4).1 < 2 := hqb
        refine lv_iload E1 E2 d_Mo_compute_82 (lv_at hl 3 rfl) ?_
        refine lv_iconst (v := 4) E1 E2 d_Mo_compute_84 (by decide) ?_
        refine lv_iload_n E1 E2 d_Mo_compute_85 rfl (lv_at hl 1 rfl) ?_
        refine lv_imul E1 E2 d_Mo_compute_86 ?_
        refine bn_ti (y := nI (4 * b)) (pk_mul 4 b) ?_
        refine lv_iconst (v := 4) E1 E2 d_Mo_compute_87 (by decide) ?_
        refine lv_iadd E1 E2 d_Mo_compute_88 ?_
        refine bn_ti (y := nI ((4 * b) + 4)) (nI_add (4 * b) 4) ?_
        refine lv_icmp_ge E1 E2 d_Mo_compute_89 rfl (fun _ => ?_) (fun hz => absurd ((nI_leI (a := (4 * b) + 4) (b := 4 * b + 4) (by omega) (by omega)).mpr (by omega)) hz)
        refine lv_iload E1 E2 d_Mo_compute_129 (lv_at hl 2 rfl) ?_
        refine lv_if_eq E1 E2 d_Mo_compute_131 rfl (fun h11 => ?_) (fun h11 => ?_)
        · have h11 : ((it_Mo_compute b (1, (o_Mo_choose N b)) 4).1) = 0 := ((nI_eq (a := (it_Mo_compute b (1, (o_Mo_choose N b)) 4).1) (b := 0) (by omega) (by omega)).mp h11)
          have hq : o_Mo_compute N b = (it_Mo_compute b (1, (o_Mo_choose N b)) 4).2 := Eq.trans (if_pos h1) (Eq.trans (if_pos h4) (Eq.trans (if_neg h7) (if_pos h11)))
          exact bn_retv F hr hk h hq.symm d_Mo_compute_139
        · have h11 : ¬ (((it_Mo_compute b (1, (o_Mo_choose N b)) 4).1) = 0) := (fun hw => h11 ((nI_eq (a := (it_Mo_compute b (1, (o_Mo_choose N b)) 4).1) (b := 0) (by omega) (by omega)).mpr hw))
          refine lv_aload_n E1 E2 d_Mo_compute_134 rfl (lv_at hl 0 rfl) ?_
          refine lv_iload_n E1 E2 d_Mo_compute_135 rfl (lv_at hl 1 rfl) ?_
          refine bn_callv F h (bn_runV (n := 1) (As := [.int (nI b)]) (rest := []) F hml hl.1 h mi_0 rfl rfl (c_Mo_tellAll l D ar ad ((it_Mo_compute b (1, (o_Mo_choose N b)) 4).2) b (by omega) _) (bn_goodV k_868 k_870 ks_Mo_tellAll k_7 k_871) rfl rfl (by decide) ⟨by decide, by decide⟩ rfl rfl (Nat.le_of_ble_eq_true rfl) d_Mo_compute_136 ⟨Nat.zero_le _, Nat.zero_le _⟩) (fun H locs h => ?_)
          have h : bn_H (mo_y D ar ad) s.heap H locs (o_Mo_tellAll ((it_Mo_compute b (1, (o_Mo_choose N b)) 4).2) b) := h
          have hq : o_Mo_compute N b = (o_Mo_tellAll ((it_Mo_compute b (1, (o_Mo_choose N b)) 4).2) b) := Eq.trans (if_pos h1) (Eq.trans (if_pos h4) (Eq.trans (if_neg h7) (if_neg h11)))
          exact bn_retv F hr hk h hq.symm d_Mo_compute_139
