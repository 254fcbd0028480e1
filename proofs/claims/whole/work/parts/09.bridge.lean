/-! contracts of the class, written by wip/whole/gen_class.py -/
def r_Br_isUnused (N : bn_S) (b : Nat) : Int32 := (if r_Po_isFree N (4 * b + 0) = 0 then 0 else (if r_Po_isFree N (4 * b + 1) = 0 then 0 else (if r_Po_isFree N (4 * b + 2) = 0 then 0 else (if r_Po_isFree N (4 * b + 3) = 0 then 0 else 1))))
set_option maxHeartbeats 4000000 in
set_option maxRecDepth 100000 in
theorem c_Br_isUnused (l : Launch) (D : va_G) (ar : Nat → ClassId) (ad : Nat → Nat → Nat) (nf : Nat) (N : bn_S) (b : Nat) (hb : b < 5) : bn_I l y_Br_isUnused w_Br_isUnused { frames := 1, cells := 0, slots := 0, locals := 20 } (bn_y D ar ad nf) N [.ref (ad 2 b)] (r_Br_isUnused N b) N := by
  intro sz
  refine bn_start (cc := b_Br_isUnused) (maxL := 5) (ret := (Option.some Jvm.ClassFile.FieldType.boolean)) (by decide) rfl (Nat.le_of_ble_eq_true rfl) ?_
  intro p e s m args below meth c ls hsz F hml hr hk hl h
  subst hsz
  have E1 := F.1
  have E2 := F.2.1
  have hl : lv_has ls 5 [(0, .ref (ad 2 b))] := hl
  refine lv_aload_n E1 E2 d_Br_isUnused_0 rfl (lv_at hl 0 rfl) ?_
  refine g_Br_ports F h (by omega) k_38 d_Br_isUnused_1 ?_
  refine lv_astore_n E1 E2 d_Br_isUnused_4 rfl hl (by decide) rfl (fun ls hl => ?_)
  have hl : lv_has ls 5 [(1, .ref (ad 3 b)), (0, .ref (ad 2 b))] := hl
  refine lv_aload_n E1 E2 d_Br_isUnused_5 rfl (lv_at hl 0 rfl) ?_
  refine an_ports F h (by omega) d_Br_isUnused_6 ?_
  refine lv_istore_n E1 E2 d_Br_isUnused_7 rfl hl (by decide) rfl (fun ls hl => ?_)
  have hl : lv_has ls 5 [(2, .int (nI 4)), (1, .ref (ad 3 b)), (0, .ref (ad 2 b))] := hl
  refine lv_iconst (v := 0) E1 E2 d_Br_isUnused_8 (by decide) ?_
  refine lv_istore_n E1 E2 d_Br_isUnused_9 rfl hl (by decide) rfl (fun ls hl => ?_)
  have hl : lv_has ls 5 [(3, .int 0), (2, .int (nI 4)), (1, .ref (ad 3 b)), (0, .ref (ad 2 b))] := hl
  refine lv_iload_n E1 E2 d_Br_isUnused_10 rfl (lv_at hl 0 rfl) ?_
  refine lv_iload_n E1 E2 d_Br_isUnused_11 rfl (lv_at hl 1 rfl) ?_
  refine lv_icmp_ge E1 E2 d_Br_isUnused_12 rfl (fun hz => absurd ((nI_leI (a := 4) (b := 0) (by omega) (by omega)).mp hz) (by omega)) (fun _ => ?_)
  refine lv_aload_n E1 E2 d_Br_isUnused_15 rfl (lv_at hl 2 rfl) ?_
  refine lv_iload_n E1 E2 d_Br_isUnused_16 rfl (lv_at hl 0 rfl) ?_
  refine al_ports F h (by omega) (i := 0) (by omega) d_Br_isUnused_17 ?_
  refine lv_astore E1 E2 d_Br_isUnused_18 hl (by decide) rfl (fun ls hl => ?_)
  have hl : lv_has ls 5 [(4, .ref (ad 6 (4 * b + 0))), (3, .int 0), (2, .int (nI 4)), (1, .ref (ad 3 b)), (0, .ref (ad 2 b))] := hl
  refine lv_aload E1 E2 d_Br_isUnused_20 (lv_at hl 0 rfl) ?_
  refine bn_calli F h (bn_runV (n := 0) (As := []) (rest := []) F hml hl.1 h (mm_6 (by omega)) rfl rfl (c_Po_isFree l D ar ad nf N (4 * b + 0) (by omega) _) (bn_goodV k_240 k_241 k_242 k_3 k_243) rfl rfl (by decide) ⟨by decide, by decide⟩ rfl rfl (Nat.le_of_ble_eq_true rfl) d_Br_isUnused_22 ⟨Nat.zero_le _, Nat.zero_le _⟩) (fun H locs h => ?_)
  refine lv_if_ne E1 E2 d_Br_isUnused_25 rfl (fun h1 => ?_) (fun h1 => ?_)
  · have h1 : ¬ (r_Po_isFree N (4 * b + 0) = 0) := h1
    refine lv_iinc (v := 1) E1 E2 d_Br_isUnused_30 hl (k := 1) rfl rfl (by decide) rfl (fun ls hl => ?_)
    have hl : lv_has ls 5 [(3, .int 1), (4, .ref (ad 6 (4 * b + 0))), (2, .int (nI 4)), (1, .ref (ad 3 b)), (0, .ref (ad 2 b))] := hl
    refine lv_goto E1 E2 d_Br_isUnused_33 rfl ?_
    refine lv_iload_n E1 E2 d_Br_isUnused_10 rfl (lv_at hl 0 rfl) ?_
    refine lv_iload_n E1 E2 d_Br_isUnused_11 rfl (lv_at hl 2 rfl) ?_
    refine lv_icmp_ge E1 E2 d_Br_isUnused_12 rfl (fun hz => absurd ((nI_leI (a := 4) (b := 1) (by omega) (by omega)).mp hz) (by omega)) (fun _ => ?_)
    refine lv_aload_n E1 E2 d_Br_isUnused_15 rfl (lv_at hl 3 rfl) ?_
    refine lv_iload_n E1 E2 d_Br_isUnused_16 rfl (lv_at hl 0 rfl) ?_
    refine al_ports F h (by omega) (i := 1) (by omega) d_Br_isUnused_17 ?_
    refine lv_astore E1 E2 d_Br_isUnused_18 hl (by decide) rfl (fun ls hl => ?_)
    have hl : lv_has ls 5 [(4, .ref (ad 6 (4 * b + 1))), (3, .int 1), (2, .int (nI 4)), (1, .ref (ad 3 b)), (0, .ref (ad 2 b))] := hl
    refine lv_aload E1 E2 d_Br_isUnused_20 (lv_at hl 0 rfl) ?_
    refine bn_calli F h (bn_runV (n := 0) (As := []) (rest := []) F hml hl.1 h (mm_6 (by omega)) rfl rfl (c_Po_isFree l D ar ad nf N (4 * b + 1) (by omega) _) (bn_goodV k_240 k_241 k_242 k_3 k_243) rfl rfl (by decide) ⟨by decide, by decide⟩ rfl rfl (Nat.le_of_ble_eq_true rfl) d_Br_isUnused_22 ⟨Nat.zero_le _, Nat.zero_le _⟩) (fun H locs h => ?_)
    refine lv_if_ne E1 E2 d_Br_isUnused_25 rfl (fun h2 => ?_) (fun h2 => ?_)
    · have h2 : ¬ (r_Po_isFree N (4 * b + 1) = 0) := h2
      refine lv_iinc (v := 2) E1 E2 d_Br_isUnused_30 hl (k := 1) rfl rfl (by decide) rfl (fun ls hl => ?_)
      have hl : lv_has ls 5 [(3, .int 2), (4, .ref (ad 6 (4 * b + 1))), (2, .int (nI 4)), (1, .ref (ad 3 b)), (0, .ref (ad 2 b))] := hl
      refine lv_goto E1 E2 d_Br_isUnused_33 rfl ?_
      refine lv_iload_n E1 E2 d_Br_isUnused_10 rfl (lv_at hl 0 rfl) ?_
      refine lv_iload_n E1 E2 d_Br_isUnused_11 rfl (lv_at hl 2 rfl) ?_
      refine lv_icmp_ge E1 E2 d_Br_isUnused_12 rfl (fun hz => absurd ((nI_leI (a := 4) (b := 2) (by omega) (by omega)).mp hz) (by omega)) (fun _ => ?_)
      refine lv_aload_n E1 E2 d_Br_isUnused_15 rfl (lv_at hl 3 rfl) ?_
      refine lv_iload_n E1 E2 d_Br_isUnused_16 rfl (lv_at hl 0 rfl) ?_
      refine al_ports F h (by omega) (i := 2) (by omega) d_Br_isUnused_17 ?_
      refine lv_astore E1 E2 d_Br_isUnused_18 hl (by decide) rfl (fun ls hl => ?_)
      have hl : lv_has ls 5 [(4, .ref (ad 6 (4 * b + 2))), (3, .int 2), (2, .int (nI 4)), (1, .ref (ad 3 b)), (0, .ref (ad 2 b))] := hl
      refine lv_aload E1 E2 d_Br_isUnused_20 (lv_at hl 0 rfl) ?_
      refine bn_calli F h (bn_runV (n := 0) (As := []) (rest := []) F hml hl.1 h (mm_6 (by omega)) rfl rfl (c_Po_isFree l D ar ad nf N (4 * b + 2) (by omega) _) (bn_goodV k_240 k_241 k_242 k_3 k_243) rfl rfl (by decide) ⟨by decide, by decide⟩ rfl rfl (Nat.le_of_ble_eq_true rfl) d_Br_isUnused_22 ⟨Nat.zero_le _, Nat.zero_le _⟩) (fun H locs h => ?_)
      refine lv_if_ne E1 E2 d_Br_isUnused_25 rfl (fun h3 => ?_) (fun h3 => ?_)
      · have h3 : ¬ (r_Po_isFree N (4 * b + 2) = 0) := h3
        refine lv_iinc (v := 3) E1 E2 d_Br_isUnused_30 hl (k := 1) rfl rfl (by decide) rfl (fun ls hl => ?_)
        have hl : lv_has ls 5 [(3, .int 3), (4, .ref (ad 6 (4 * b + 2))), (2, .int (nI 4)), (1, .ref (ad 3 b)), (0, .ref (ad 2 b))] := hl
        refine lv_goto E1 E2 d_Br_isUnused_33 rfl ?_
        refine lv_iload_n E1 E2 d_Br_isUnused_10 rfl (lv_at hl 0 rfl) ?_
        refine lv_iload_n E1 E2 d_Br_isUnused_11 rfl (lv_at hl 2 rfl) ?_
        refine lv_icmp_ge E1 E2 d_Br_isUnused_12 rfl (fun hz => absurd ((nI_leI (a := 4) (b := 3) (by omega) (by omega)).mp hz) (by omega)) (fun _ => ?_)
        refine lv_aload_n E1 E2 d_Br_isUnused_15 rfl (lv_at hl 3 rfl) ?_
        refine lv_iload_n E1 E2 d_Br_isUnused_16 rfl (lv_at hl 0 rfl) ?_
        refine al_ports F h (by omega) (i := 3) (by omega) d_Br_isUnused_17 ?_
        refine lv_astore E1 E2 d_Br_isUnused_18 hl (by decide) rfl (fun ls hl => ?_)
        have hl : lv_has ls 5 [(4, .ref (ad 6 (4 * b + 3))), (3, .int 3), (2, .int (nI 4)), (1, .ref (ad 3 b)), (0, .ref (ad 2 b))] := hl
        refine lv_aload E1 E2 d_Br_isUnused_20 (lv_at hl 0 rfl) ?_
        refine bn_calli F h (bn_runV (n := 0) (As := []) (rest := []) F hml hl.1 h (mm_6 (by omega)) rfl rfl (c_Po_isFree l D ar ad nf N (4 * b + 3) (by omega) _) (bn_goodV k_240 k_241 k_242 k_3 k_243) rfl rfl (by decide) ⟨by decide, by decide⟩ rfl rfl (Nat.le_of_ble_eq_true rfl) d_Br_isUnused_22 ⟨Nat.zero_le _, Nat.zero_le _⟩) (fun H locs h => ?_)
        refine lv_if_ne E1 E2 d_Br_isUnused_25 rfl (fun h4 => ?_) (fun h4 => ?_)
        · have h4 : ¬ (r_Po_isFree N (4 * b + 3) = 0) := h4
          refine lv_iinc (v := 4) E1 E2 d_Br_isUnused_30 hl (k := 1) rfl rfl (by decide) rfl (fun ls hl => ?_)
          have hl : lv_has ls 5 [(3, .int 4), (4, .ref (ad 6 (4 * b + 3))), (2, .int (nI 4)), (1, .ref (ad 3 b)), (0, .ref (ad 2 b))] := hl
          refine lv_goto E1 E2 d_Br_isUnused_33 rfl ?_
          refine lv_iload_n E1 E2 d_Br_isUnused_10 rfl (lv_at hl 0 rfl) ?_
          refine lv_iload_n E1 E2 d_Br_isUnused_11 rfl (lv_at hl 2 rfl) ?_
          refine lv_icmp_ge E1 E2 d_Br_isUnused_12 rfl (fun _ => ?_) (fun hz => absurd ((nI_leI (a := 4) (b := 4) (by omega) (by omega)).mpr (by omega)) hz)
          refine lv_iconst (v := 1) E1 E2 d_Br_isUnused_36 (by decide) ?_
          have hq : r_Br_isUnused N b = 1 := Eq.trans (if_neg h1) (Eq.trans (if_neg h2) (Eq.trans (if_neg h3) (if_neg h4)))
          exact bn_retz F hr rfl hk h hq.symm rfl d_Br_isUnused_37
        · have h4 : r_Po_isFree N (4 * b + 3) = 0 := h4
          refine lv_iconst (v := 0) E1 E2 d_Br_isUnused_28 (by decide) ?_
          have hq : r_Br_isUnused N b = 0 := Eq.trans (if_neg h1) (Eq.trans (if_neg h2) (Eq.trans (if_neg h3) (if_pos h4)))
          exact bn_retz F hr rfl hk h hq.symm rfl d_Br_isUnused_29
      · have h3 : r_Po_isFree N (4 * b + 2) = 0 := h3
        refine lv_iconst (v := 0) E1 E2 d_Br_isUnused_28 (by decide) ?_
        have hq : r_Br_isUnused N b = 0 := Eq.trans (if_neg h1) (Eq.trans (if_neg h2) (if_pos h3))
        exact bn_retz F hr rfl hk h hq.symm rfl d_Br_isUnused_29
    · have h2 : r_Po_isFree N (4 * b + 1) = 0 := h2
      refine lv_iconst (v := 0) E1 E2 d_Br_isUnused_28 (by decide) ?_
      have hq : r_Br_isUnused N b = 0 := Eq.trans (if_neg h1) (if_pos h2)
      exact bn_retz F hr rfl hk h hq.symm rfl d_Br_isUnused_29
  · have h1 : r_Po_isFree N (4 * b + 0) = 0 := h1
    refine lv_iconst (v := 0) E1 E2 d_Br_isUnused_28 (by decide) ?_
    have hq : r_Br_isUnused N b = 0 := if_pos h1
    exact bn_retz F hr rfl hk h hq.symm rfl d_Br_isUnused_29
def o_Br_rank (N : bn_S) (b : Nat) (pr : Int32) : bn_S := (sI N 1 b ((8 * pr) + (nI b)))
set_option maxHeartbeats 4000000 in
set_option maxRecDepth 100000 in
theorem c_Br_rank (l : Launch) (D : va_G) (ar : Nat → ClassId) (ad : Nat → Nat → Nat) (nf : Nat) (N : bn_S) (b : Nat) (hb : b < 5) (pr : Int32) : bn_V l y_Br_rank w_Br_rank { frames := 0, cells := 0, slots := 0, locals := 0 } (bn_y D ar ad nf) N [.ref (ad 2 b), .int pr] (o_Br_rank N b pr) := by
  intro sz
  refine bn_start (cc := b_Br_rank) (maxL := 2) (ret := (Option.none : Option Jvm.ClassFile.FieldType)) (by decide) rfl (Nat.le_of_ble_eq_true rfl) ?_
  intro p e s m args below meth c ls hsz F hml hr hk hl h
  subst hsz
  have E1 := F.1
  have E2 := F.2.1
  have hl : lv_has ls 2 [(0, .ref (ad 2 b)), (1, .int pr)] := hl
  refine lv_aload_n E1 E2 d_Br_rank_0 rfl (lv_at hl 0 rfl) ?_
  refine lv_bipush (v := 8) E1 E2 d_Br_rank_1 (by decide) ?_
  refine lv_iload_n E1 E2 d_Br_rank_3 rfl (lv_at hl 1 rfl) ?_
  refine lv_imul E1 E2 d_Br_rank_4 ?_
  refine lv_aload_n E1 E2 d_Br_rank_5 rfl (lv_at hl 0 rfl) ?_
  refine g_Br_number F h (by omega) k_36 d_Br_rank_6 ?_
  refine lv_iadd E1 E2 d_Br_rank_9 ?_
  refine p_Br_id F h (by omega) k_37 d_Br_rank_10 (fun H locs h => ?_)
  have h : bn_H (bn_y D ar ad nf) s.heap H locs (sI N 1 b ((8 * pr) + (nI b))) := h
  have hq : o_Br_rank N b pr = (sI N 1 b ((8 * pr) + (nI b))) := rfl
  exact bn_retv F hr hk h hq.symm d_Br_rank_13
def r_Br_summary (N : bn_S) (b : Nat) : Int64 := ((Int32.toInt64 (N.1 2 b)) + ((Int32.toInt64 (N.1 3 b)) <<< (Int32.toInt64 8 &&& 63))) + ((Int32.toInt64 (N.1 4 b)) <<< (Int32.toInt64 24 &&& 63))
set_option maxHeartbeats 4000000 in
set_option maxRecDepth 100000 in
theorem c_Br_summary (l : Launch) (D : va_G) (ar : Nat → ClassId) (ad : Nat → Nat → Nat) (nf : Nat) (N : bn_S) (b : Nat) (hb : b < 5) : bn_L l y_Br_summary w_Br_summary { frames := 0, cells := 0, slots := 0, locals := 0 } (bn_y D ar ad nf) N [.ref (ad 2 b)] (r_Br_summary N b) N := by
  intro sz
  refine bn_start (cc := b_Br_summary) (maxL := 1) (ret := (Option.some Jvm.ClassFile.FieldType.long)) (by decide) rfl (Nat.le_of_ble_eq_true rfl) ?_
  intro p e s m args below meth c ls hsz F hml hr hk hl h
  subst hsz
  have E1 := F.1
  have E2 := F.2.1
  have hl : lv_has ls 1 [(0, .ref (ad 2 b))] := hl
  refine lv_aload_n E1 E2 d_Br_summary_0 rfl (lv_at hl 0 rfl) ?_
  refine g_Br_root F h (by omega) k_40 (v := N.1 2 b) rfl d_Br_summary_1 ?_
  refine lv_i2l (v := Int32.toInt64 (N.1 2 b)) E1 E2 d_Br_summary_4 rfl ?_
  refine lv_aload_n E1 E2 d_Br_summary_5 rfl (lv_at hl 0 rfl) ?_
  refine g_Br_cost F h (by omega) k_41 (v := N.1 3 b) rfl d_Br_summary_6 ?_
  refine lv_i2l (v := Int32.toInt64 (N.1 3 b)) E1 E2 d_Br_summary_9 rfl ?_
  refine lv_bipush (v := 8) E1 E2 d_Br_summary_10 (by decide) ?_
  refine lv_lshl (v := (Int32.toInt64 (N.1 3 b)) <<< (Int32.toInt64 8 &&& 63)) E1 E2 d_Br_summary_12 rfl ?_
  refine lv_ladd E1 E2 d_Br_summary_13 ?_
  refine lv_aload_n E1 E2 d_Br_summary_14 rfl (lv_at hl 0 rfl) ?_
  refine g_Br_hops F h (by omega) k_42 (v := N.1 4 b) rfl d_Br_summary_15 ?_
  refine lv_i2l (v := Int32.toInt64 (N.1 4 b)) E1 E2 d_Br_summary_18 rfl ?_
  refine lv_bipush (v := 24) E1 E2 d_Br_summary_19 (by decide) ?_
  refine lv_lshl (v := (Int32.toInt64 (N.1 4 b)) <<< (Int32.toInt64 24 &&& 63)) E1 E2 d_Br_summary_21 rfl ?_
  refine lv_ladd E1 E2 d_Br_summary_22 ?_
  have hq : r_Br_summary N b = ((Int32.toInt64 (N.1 2 b)) + ((Int32.toInt64 (N.1 3 b)) <<< (Int32.toInt64 8 &&& 63))) + ((Int32.toInt64 (N.1 4 b)) <<< (Int32.toInt64 24 &&& 63)) := rfl
  exact bn_retl F hr hk h hq.symm rfl d_Br_summary_23
def r_Br_ownVector (N : bn_S) (b : Nat) (x : Nat) : Int64 := r_Ve_of N (N.1 2 b) (N.1 3 b) (N.1 1 b) (nI (x % 4))
set_option maxHeartbeats 4000000 in
set_option maxRecDepth 100000 in
theorem c_Br_ownVector (l : Launch) (D : va_G) (ar : Nat → ClassId) (ad : Nat → Nat → Nat) (nf : Nat) (N : bn_S) (b : Nat) (hb : b < 5) (x : Nat) (hx : x < 20) : bn_L l y_Br_ownVector w_Br_ownVector { frames := 1, cells := 0, slots := 0, locals := 23 } (bn_y D ar ad nf) N [.ref (ad 2 b), .ref (ad 6 x)] (r_Br_ownVector N b x) N := by
  intro sz
  refine bn_start (cc := b_Br_ownVector) (maxL := 2) (ret := (Option.some Jvm.ClassFile.FieldType.long)) (by decide) rfl (Nat.le_of_ble_eq_true rfl) ?_
  intro p e s m args below meth c ls hsz F hml hr hk hl h
  subst hsz
  have E1 := F.1
  have E2 := F.2.1
  have hl : lv_has ls 2 [(0, .ref (ad 2 b)), (1, .ref (ad 6 x))] := hl
  refine lv_aload_n E1 E2 d_Br_ownVector_0 rfl (lv_at hl 0 rfl) ?_
  refine g_Br_root F h (by omega) k_40 (v := N.1 2 b) rfl d_Br_ownVector_1 ?_
  refine lv_aload_n E1 E2 d_Br_ownVector_4 rfl (lv_at hl 0 rfl) ?_
  refine g_Br_cost F h (by omega) k_41 (v := N.1 3 b) rfl d_Br_ownVector_5 ?_
  refine lv_aload_n E1 E2 d_Br_ownVector_8 rfl (lv_at hl 0 rfl) ?_
  refine g_Br_id F h (by omega) k_37 (v := N.1 1 b) rfl d_Br_ownVector_9 ?_
  refine lv_aload_n E1 E2 d_Br_ownVector_12 rfl (lv_at hl 1 rfl) ?_
  refine g_Po_number F h (by omega) k_134 d_Br_ownVector_13 ?_
  refine bn_calll F h (bn_runS (n := 4) (As := [.int (N.1 2 b), .int (N.1 3 b), .int (N.1 1 b), .int (nI (x % 4))]) (rest := []) F hml hl.1 h (c_Ve_of l D ar ad nf N (N.1 2 b) (N.1 3 b) (N.1 1 b) (nI (x % 4)) _) (bn_goodS k_256 k_257 k_8 k_258) rfl rfl (by decide) ⟨by decide, by decide⟩ rfl rfl (Nat.le_of_ble_eq_true rfl) d_Br_ownVector_16 ⟨Nat.zero_le _, Nat.zero_le _⟩) (fun H locs h => ?_)
  have hq : r_Br_ownVector N b x = r_Ve_of N (N.1 2 b) (N.1 3 b) (N.1 1 b) (nI (x % 4)) := rfl
  exact bn_retl F hr hk h hq.symm rfl d_Br_ownVector_19
def r_Br_dueRole (N : bn_S) (b : Nat) (x : Nat) : Int32 := (if r_Po_isFree N x = 0 then (bn_oc (N.2.2.2 3 x) (bn_oc (N.2.2.2 1 b) (if (N.2.1 2 x) = 0 then 2 else (if (N.2.2.1 1 x) ≤ (r_Br_ownVector N b x) then 3 else 2)) (fun y5 => (if x = y5 then 1 else (if (N.2.1 2 x) = 0 then 2 else (if (N.2.2.1 1 x) ≤ (r_Br_ownVector N b x) then 3 else 2))))) (fun y3 => 2)) else 0)
set_option maxHeartbeats 4000000 in
set_option maxRecDepth 100000 in
theorem c_Br_dueRole (l : Launch) (D : va_G) (ar : Nat → ClassId) (ad : Nat → Nat → Nat) (nf : Nat) (N : bn_S) (b : Nat) (hb : b < 5) (x : Nat) (hx : x < 20) : bn_I l y_Br_dueRole w_Br_dueRole { frames := 2, cells := 0, slots := 0, locals := 44 } (bn_y D ar ad nf) N [.ref (ad 2 b), .ref (ad 6 x)] (r_Br_dueRole N b x) N := by
  intro sz
  refine bn_start (cc := b_Br_dueRole) (maxL := 2) (ret := (Option.some Jvm.ClassFile.FieldType.int)) (by decide) rfl (Nat.le_of_ble_eq_true rfl) ?_
  intro p e s m args below meth c ls hsz F hml hr hk hl h
  subst hsz
  have E1 := F.1
  have E2 := F.2.1
  have hl : lv_has ls 2 [(0, .ref (ad 2 b)), (1, .ref (ad 6 x))] := hl
  refine lv_aload_n E1 E2 d_Br_dueRole_0 rfl (lv_at hl 1 rfl) ?_
  refine bn_calli F h (bn_runV (n := 0) (As := []) (rest := []) F hml hl.1 h (mm_6 (by omega)) rfl rfl (c_Po_isFree l D ar ad nf N x (by omega) _) (bn_goodV k_240 k_241 k_242 k_3 k_243) rfl rfl (by decide) ⟨by decide, by decide⟩ rfl rfl (Nat.le_of_ble_eq_true rfl) d_Br_dueRole_1 ⟨Nat.zero_le _, Nat.zero_le _⟩) (fun H locs h => ?_)
  refine lv_if_eq E1 E2 d_Br_dueRole_4 rfl (fun h1 => ?_) (fun h1 => ?_)
  · have h1 : r_Po_isFree N x = 0 := h1
    refine lv_aload_n E1 E2 d_Br_dueRole_9 rfl (lv_at hl 1 rfl) ?_
    refine g_Po_station F h (by omega) k_147 d_Br_dueRole_10 (fun ho2 => ?_) (fun y3 ho2 hy3 => ?_)
    · skip
      refine lv_ifnullN E1 E2 d_Br_dueRole_13 rfl ?_
      refine lv_aload_n E1 E2 d_Br_dueRole_18 rfl (lv_at hl 1 rfl) ?_
      refine lv_aload_n E1 E2 d_Br_dueRole_19 rfl (lv_at hl 0 rfl) ?_
      refine g_Br_rootPort F h (by omega) k_43 d_Br_dueRole_20 (fun ho4 => ?_) (fun y5 ho4 hy5 => ?_)
      · skip
        refine lv_acmp_ne (rx := (some (ad 6 x))) (ry := none) E1 E2 d_Br_dueRole_23 rfl (fun _ => ?_) (fun hz => absurd hz (by simp))
        refine lv_aload_n E1 E2 d_Br_dueRole_28 rfl (lv_at hl 1 rfl) ?_
        refine g_Po_hasInfo F h (by omega) k_149 (v := N.2.1 2 x) rfl d_Br_dueRole_29 ?_
        have hwhasInfo : N.2.1 2 x < 2 := wf_hasInfo h.2.2.2 x
        refine lv_if_eq E1 E2 d_Br_dueRole_32 rfl (fun h6 => ?_) (fun h6 => ?_)
        · have h6 : (N.2.1 2 x) = 0 := ((nI_eq (a := N.2.1 2 x) (b := 0) (by omega) (by omega)).mp h6)
          refine lv_iconst (v := 2) E1 E2 d_Br_dueRole_48 (by decide) ?_
          refine lv_goto E1 E2 d_Br_dueRole_49 rfl ?_
          have hq : r_Br_dueRole N b x = 2 := Eq.trans (if_pos h1) (Eq.trans (bn_oc_n ho2) (Eq.trans (bn_oc_n ho4) (if_pos h6)))
          exact bn_reti F hr hk h hq.symm rfl d_Br_dueRole_53
        · have h6 : ¬ ((N.2.1 2 x) = 0) := (fun hw => h6 ((nI_eq (a := N.2.1 2 x) (b := 0) (by omega) (by omega)).mpr hw))
          refine lv_aload_n E1 E2 d_Br_dueRole_35 rfl (lv_at hl 0 rfl) ?_
          refine lv_aload_n E1 E2 d_Br_dueRole_36 rfl (lv_at hl 1 rfl) ?_
          refine bn_calll F h (bn_runV (n := 1) (As := [.ref (ad 6 x)]) (rest := []) F hml hl.1 h (mm_2 (by omega)) rfl rfl (c_Br_ownVector l D ar ad nf N b (by omega) x (by omega) _) (bn_goodV k_284 k_286 ks_Br_ownVector k_2 k_287) rfl rfl (by decide) ⟨by decide, by decide⟩ rfl rfl (Nat.le_of_ble_eq_true rfl) d_Br_dueRole_37 ⟨Nat.zero_le _, Nat.zero_le _⟩) (fun H locs h => ?_)
          refine lv_aload_n E1 E2 d_Br_dueRole_40 rfl (lv_at hl 1 rfl) ?_
          refine g_Po_info F h (by omega) k_152 (v := N.2.2.1 1 x) rfl d_Br_dueRole_41 ?_
          refine W.lcmp E1 E2 d_Br_dueRole_44 ?_
          refine lv_if_ge E1 E2 d_Br_dueRole_45 rfl (fun h7 => ?_) (fun h7 => ?_)
          · have h7 : (N.2.2.1 1 x) ≤ (r_Br_ownVector N b x) := ((lg_cmp_ge _ _).mp h7)
            refine lv_iconst (v := 3) E1 E2 d_Br_dueRole_52 (by decide) ?_
            have hq : r_Br_dueRole N b x = 3 := Eq.trans (if_pos h1) (Eq.trans (bn_oc_n ho2) (Eq.trans (bn_oc_n ho4) (Eq.trans (if_neg h6) (if_pos h7))))
            exact bn_reti F hr hk h hq.symm rfl d_Br_dueRole_53
          · have h7 : ¬ ((N.2.2.1 1 x) ≤ (r_Br_ownVector N b x)) := (fun hw => h7 ((lg_cmp_ge _ _).mpr hw))
            refine lv_iconst (v := 2) E1 E2 d_Br_dueRole_48 (by decide) ?_
            refine lv_goto E1 E2 d_Br_dueRole_49 rfl ?_
            have hq : r_Br_dueRole N b x = 2 := Eq.trans (if_pos h1) (Eq.trans (bn_oc_n ho2) (Eq.trans (bn_oc_n ho4) (Eq.trans (if_neg h6) (if_neg h7))))
            exact bn_reti F hr hk h hq.symm rfl d_Br_dueRole_53
      · skip
        refine lv_acmp_ne (rx := (some (ad 6 x))) (ry := (some (ad 6 y5))) E1 E2 d_Br_dueRole_23 rfl (fun h8 => ?_) (fun h8 => ?_)
        · have h8 : ¬ (x = y5) := (fun hw => h8 ((bn_inj h (mm_6 (by omega)) (mm_6 (by omega))).mpr hw))
          refine lv_aload_n E1 E2 d_Br_dueRole_28 rfl (lv_at hl 1 rfl) ?_
          refine g_Po_hasInfo F h (by omega) k_149 (v := N.2.1 2 x) rfl d_Br_dueRole_29 ?_
          have hwhasInfo : N.2.1 2 x < 2 := wf_hasInfo h.2.2.2 x
          refine lv_if_eq E1 E2 d_Br_dueRole_32 rfl (fun h9 => ?_) (fun h9 => ?_)
          · have h9 : (N.2.1 2 x) = 0 := ((nI_eq (a := N.2.1 2 x) (b := 0) (by omega) (by omega)).mp h9)
            refine lv_iconst (v := 2) E1 E2 d_Br_dueRole_48 (by decide) ?_
            refine lv_goto E1 E2 d_Br_dueRole_49 rfl ?_
            have hq : r_Br_dueRole N b x = 2 := Eq.trans (if_pos h1) (Eq.trans (bn_oc_n ho2) (Eq.trans (bn_oc_s ho4) (Eq.trans (if_neg h8) (if_pos h9))))
            exact bn_reti F hr hk h hq.symm rfl d_Br_dueRole_53
          · have h9 : ¬ ((N.2.1 2 x) = 0) := (fun hw => h9 ((nI_eq (a := N.2.1 2 x) (b := 0) (by omega) (by omega)).mpr hw))
            refine lv_aload_n E1 E2 d_Br_dueRole_35 rfl (lv_at hl 0 rfl) ?_
            refine lv_aload_n E1 E2 d_Br_dueRole_36 rfl (lv_at hl 1 rfl) ?_
            refine bn_calll F h (bn_runV (n := 1) (As := [.ref (ad 6 x)]) (rest := []) F hml hl.1 h (mm_2 (by omega)) rfl rfl (c_Br_ownVector l D ar ad nf N b (by omega) x (by omega) _) (bn_goodV k_284 k_286 ks_Br_ownVector k_2 k_287) rfl rfl (by decide) ⟨by decide, by decide⟩ rfl rfl (Nat.le_of_ble_eq_true rfl) d_Br_dueRole_37 ⟨Nat.zero_le _, Nat.zero_le _⟩) (fun H locs h => ?_)
            refine lv_aload_n E1 E2 d_Br_dueRole_40 rfl (lv_at hl 1 rfl) ?_
            refine g_Po_info F h (by omega) k_152 (v := N.2.2.1 1 x) rfl d_Br_dueRole_41 ?_
            refine W.lcmp E1 E2 d_Br_dueRole_44 ?_
            refine lv_if_ge E1 E2 d_Br_dueRole_45 rfl (fun h10 => ?_) (fun h10 => ?_)
            · have h10 : (N.2.2.1 1 x) ≤ (r_Br_ownVector N b x) := ((lg_cmp_ge _ _).mp h10)
              refine lv_iconst (v := 3) E1 E2 d_Br_dueRole_52 (by decide) ?_
              have hq : r_Br_dueRole N b x = 3 := Eq.trans (if_pos h1) (Eq.trans (bn_oc_n ho2) (Eq.trans (bn_oc_s ho4) (Eq.trans (if_neg h8) (Eq.trans (if_neg h9) (if_pos h10)))))
              exact bn_reti F hr hk h hq.symm rfl d_Br_dueRole_53
            · have h10 : ¬ ((N.2.2.1 1 x) ≤ (r_Br_ownVector N b x)) := (fun hw => h10 ((lg_cmp_ge _ _).mpr hw))
              refine lv_iconst (v := 2) E1 E2 d_Br_dueRole_48 (by decide) ?_
              refine lv_goto E1 E2 d_Br_dueRole_49 rfl ?_
              have hq : r_Br_dueRole N b x = 2 := Eq.trans (if_pos h1) (Eq.trans (bn_oc_n ho2) (Eq.trans (bn_oc_s ho4) (Eq.trans (if_neg h8) (Eq.trans (if_neg h9) (if_neg h10)))))
              exact bn_reti F hr hk h hq.symm rfl d_Br_dueRole_53
        · have h8 : x = y5 := ((bn_inj h (mm_6 (by omega)) (mm_6 (by omega))).mp h8)
          refine lv_iconst (v := 1) E1 E2 d_Br_dueRole_26 (by decide) ?_
          have hq : r_Br_dueRole N b x = 1 := Eq.trans (if_pos h1) (Eq.trans (bn_oc_n ho2) (Eq.trans (bn_oc_s ho4) (if_pos h8)))
          exact bn_reti F hr hk h hq.symm rfl d_Br_dueRole_27
    · skip
      refine lv_ifnull E1 E2 d_Br_dueRole_13 ?_
      refine lv_iconst (v := 2) E1 E2 d_Br_dueRole_16 (by decide) ?_
      have hq : r_Br_dueRole N b x = 2 := Eq.trans (if_pos h1) (bn_oc_s ho2)
      exact bn_reti F hr hk h hq.symm rfl d_Br_dueRole_17
  · have h1 : ¬ (r_Po_isFree N x = 0) := h1
    refine lv_iconst (v := 0) E1 E2 d_Br_dueRole_7 (by decide) ?_
    have hq : r_Br_dueRole N b x = 0 := if_neg h1
    exact bn_reti F hr hk h hq.symm rfl d_Br_dueRole_8
def bd_Br_chooseRoot (b : Nat) (k : Nat) (q : Int64 × bn_S) : Int64 × bn_S := (if ((q.2).2.1 2 (4 * b + k)) = 0 then (q.1, q.2) else (if r_Ve_bridgeOf (q.2) ((q.2).2.2.1 1 (4 * b + k)) = (q.2).1 1 b then (q.1, q.2) else (if (q.1) ≤ (r_Ve_farther (q.2) ((q.2).2.2.1 1 (4 * b + k)) ((q.2).1 5 (4 * b + k))) then (q.1, q.2) else (r_Ve_farther (q.2) ((q.2).2.2.1 1 (4 * b + k)) ((q.2).1 5 (4 * b + k)), (sO (sI (q.2) 4 b (r_Po_hopsThrough (q.2) (4 * b + k))) 1 b (some (4 * b + k)))))))
def it_Br_chooseRoot (b : Nat) (q0 : Int64 × bn_S) : Nat → Int64 × bn_S
  | 0 => q0
  | k + 1 => bd_Br_chooseRoot b k (it_Br_chooseRoot b q0 k)
theorem it_Br_chooseRoot_s (b : Nat) (q0 : Int64 × bn_S) (k : Nat) : bd_Br_chooseRoot b k (it_Br_chooseRoot b q0 k) = it_Br_chooseRoot b q0 (k + 1) := rfl
def o_Br_chooseRoot (N : bn_S) (b : Nat) : bn_S := (sI (sI ((it_Br_chooseRoot b (r_Ve_of N (N.1 1 b) 0 (N.1 1 b) 0, (sO (sI N 4 b 0) 1 b none)) 4).2) 2 b (r_Ve_rootOf ((it_Br_chooseRoot b (r_Ve_of N (N.1 1 b) 0 (N.1 1 b) 0, (sO (sI N 4 b 0) 1 b none)) 4).2) ((it_Br_chooseRoot b (r_Ve_of N (N.1 1 b) 0 (N.1 1 b) 0, (sO (sI N 4 b 0) 1 b none)) 4).1))) 3 b (r_Ve_costOf (sI ((it_Br_chooseRoot b (r_Ve_of N (N.1 1 b) 0 (N.1 1 b) 0, (sO (sI N 4 b 0) 1 b none)) 4).2) 2 b (r_Ve_rootOf ((it_Br_chooseRoot b (r_Ve_of N (N.1 1 b) 0 (N.1 1 b) 0, (sO (sI N 4 b 0) 1 b none)) 4).2) ((it_Br_chooseRoot b (r_Ve_of N (N.1 1 b) 0 (N.1 1 b) 0, (sO (sI N 4 b 0) 1 b none)) 4).1))) ((it_Br_chooseRoot b (r_Ve_of N (N.1 1 b) 0 (N.1 1 b) 0, (sO (sI N 4 b 0) 1 b none)) 4).1)))
set_option maxHeartbeats 4000000 in
set_option maxRecDepth 100000 in
theorem c_Br_chooseRoot (l : Launch) (D : va_G) (ar : Nat → ClassId) (ad : Nat → Nat → Nat) (nf : Nat) (N : bn_S) (b : Nat) (hb : b < 5) : bn_V l y_Br_chooseRoot w_Br_chooseRoot { frames := 1, cells := 0, slots := 0, locals := 23 } (bn_y D ar ad nf) N [.ref (ad 2 b)] (o_Br_chooseRoot N b) := by
  intro sz
  refine bn_start (cc := b_Br_chooseRoot) (maxL := 9) (ret := (Option.none : Option Jvm.ClassFile.FieldType)) (by decide) rfl (Nat.le_of_ble_eq_true rfl) ?_
  intro p e s m args below meth c ls hsz F hml hr hk hl h
  subst hsz
  have E1 := F.1
  have E2 := F.2.1
  have hl : lv_has ls 9 [(0, .ref (ad 2 b))] := hl
  refine lv_aload_n E1 E2 d_Br_chooseRoot_0 rfl (lv_at hl 0 rfl) ?_
  refine g_Br_id F h (by omega) k_37 (v := N.1 1 b) rfl d_Br_chooseRoot_1 ?_
  refine lv_iconst (v := 0) E1 E2 d_Br_chooseRoot_4 (by decide) ?_
  refine lv_aload_n E1 E2 d_Br_chooseRoot_5 rfl (lv_at hl 0 rfl) ?_
  refine g_Br_id F h (by omega) k_37 (v := N.1 1 b) rfl d_Br_chooseRoot_6 ?_
  refine lv_iconst (v := 0) E1 E2 d_Br_chooseRoot_9 (by decide) ?_
  refine bn_calll F h (bn_runS (n := 4) (As := [.int (N.1 1 b), .int 0, .int (N.1 1 b), .int 0]) (rest := []) F hml hl.1 h (c_Ve_of l D ar ad nf N (N.1 1 b) 0 (N.1 1 b) 0 _) (bn_goodS k_256 k_257 k_8 k_258) rfl rfl (by decide) ⟨by decide, by decide⟩ rfl rfl (Nat.le_of_ble_eq_true rfl) d_Br_chooseRoot_10 ⟨Nat.zero_le _, Nat.zero_le _⟩) (fun H locs h => ?_)
  refine lv_lstore_n E1 E2 d_Br_chooseRoot_13 rfl hl (by decide) rfl (fun ls hl => ?_)
  have hl : lv_has ls 9 [(1, .long (r_Ve_of N (N.1 1 b) 0 (N.1 1 b) 0)), (0, .ref (ad 2 b))] := hl
  refine lv_aload_n E1 E2 d_Br_chooseRoot_14 rfl (lv_at hl 1 rfl) ?_
  refine lv_iconst (v := 0) E1 E2 d_Br_chooseRoot_15 (by decide) ?_
  refine p_Br_hops F h (by omega) k_42 d_Br_chooseRoot_16 (fun H locs h => ?_)
  have h : bn_H (bn_y D ar ad nf) s.heap H locs (sI N 4 b 0) := h
  refine lv_aload_n E1 E2 d_Br_chooseRoot_19 rfl (lv_at hl 1 rfl) ?_
  refine lv_null E1 E2 d_Br_chooseRoot_20 ?_
  refine p_Br_rootPort F h (by omega) k_43 (none) (fun _ hz => by cases hz) d_Br_chooseRoot_21 (fun H locs h => ?_)
  have h : bn_H (bn_y D ar ad nf) s.heap H locs (sO (sI N 4 b 0) 1 b none) := h
  refine lv_aload_n E1 E2 d_Br_chooseRoot_24 rfl (lv_at hl 1 rfl) ?_
  refine g_Br_ports F h (by omega) k_38 d_Br_chooseRoot_25 ?_
  refine lv_astore_n E1 E2 d_Br_chooseRoot_28 rfl hl (by decide) rfl (fun ls hl => ?_)
  have hl : lv_has ls 9 [(3, .ref (ad 3 b)), (1, .long (r_Ve_of N (N.1 1 b) 0 (N.1 1 b) 0)), (0, .ref (ad 2 b))] := hl
  refine lv_aload_n E1 E2 d_Br_chooseRoot_29 rfl (lv_at hl 0 rfl) ?_
  refine an_ports F h (by omega) d_Br_chooseRoot_30 ?_
  refine lv_istore E1 E2 d_Br_chooseRoot_31 hl (by decide) rfl (fun ls hl => ?_)
  have hl : lv_has ls 9 [(4, .int (nI 4)), (3, .ref (ad 3 b)), (1, .long (r_Ve_of N (N.1 1 b) 0 (N.1 1 b) 0)), (0, .ref (ad 2 b))] := hl
  refine lv_iconst (v := 0) E1 E2 d_Br_chooseRoot_33 (by decide) ?_
  refine lv_istore E1 E2 d_Br_chooseRoot_34 hl (by decide) rfl (fun ls hl => ?_)
  have hl : lv_has ls 9 [(5, .int 0), (4, .int (nI 4)), (3, .ref (ad 3 b)), (1, .long (r_Ve_of N (N.1 1 b) 0 (N.1 1 b) 0)), (0, .ref (ad 2 b))] := hl
  have hs36 : ∀ (Q0 : State → Prop) (k : Nat), k < 4 → ∀ (q : Int64 × bn_S) (H : Heap) (locs : List Loc) (ls : Array Slot), lv_has ls 9 [(0, .ref (ad 2 b)), (1, .long (q.1)), (3, .ref (ad 3 b)), (4, .int (nI 4)), (5, .int (nI k))] → bn_H (bn_y D ar ad nf) s.heap H locs q.2 → (∀ (H : Heap) (locs : List Loc) (ls : Array Slot), lv_has ls 9 [(0, .ref (ad 2 b)), (1, .long ((bd_Br_chooseRoot b k q).1)), (3, .ref (ad 3 b)), (4, .int (nI 4)), (5, .int (nI (k + 1)))] → bn_H (bn_y D ar ad nf) s.heap H locs (bd_Br_chooseRoot b k q).2 → W p l e { frames := 1, cells := 0, slots := 0, locals := 23 } s m args below meth c H locs 0 0 Q0 (F0 m 36 ls [])) → W p l e { frames := 1, cells := 0, slots := 0, locals := 23 } s m args below meth c H locs 0 0 Q0 (F0 m 36 ls []) := by
    intro Q0 k hkk q H locs ls hl h kk
    refine lv_iload E1 E2 d_Br_chooseRoot_36 (lv_at hl 4 rfl) ?_
    refine lv_iload E1 E2 d_Br_chooseRoot_38 (lv_at hl 3 rfl) ?_
    refine lv_icmp_ge E1 E2 d_Br_chooseRoot_40 rfl (fun hz => absurd ((nI_leI (a := 4) (b := k) (by omega) (by omega)).mp hz) (by omega)) (fun _ => ?_)
    refine lv_aload_n E1 E2 d_Br_chooseRoot_43 rfl (lv_at hl 2 rfl) ?_
    refine lv_iload E1 E2 d_Br_chooseRoot_44 (lv_at hl 4 rfl) ?_
    refine al_ports F h (by omega) (i := k) (by omega) d_Br_chooseRoot_46 ?_
    refine lv_astore E1 E2 d_Br_chooseRoot_47 hl (by decide) rfl (fun ls hl => ?_)
    have hl : lv_has ls 9 [(6, .ref (ad 6 (4 * b + k))), (0, .ref (ad 2 b)), (1, .long (q.1)), (3, .ref (ad 3 b)), (4, .int (nI 4)), (5, .int (nI k))] := hl
    refine lv_aload E1 E2 d_Br_chooseRoot_49 (lv_at hl 0 rfl) ?_
    refine g_Po_hasInfo F h (by omega) k_149 (v := (q.2).2.1 2 (4 * b + k)) rfl d_Br_chooseRoot_51 ?_
    have hwhasInfo : (q.2).2.1 2 (4 * b + k) < 2 := wf_hasInfo h.2.2.2 (4 * b + k)
    refine lv_if_eq E1 E2 d_Br_chooseRoot_54 rfl (fun h1 => ?_) (fun h1 => ?_)
    · have h1 : ((q.2).2.1 2 (4 * b + k)) = 0 := ((nI_eq (a := (q.2).2.1 2 (4 * b + k)) (b := 0) (by omega) (by omega)).mp h1)
      refine lv_iinc (v := (nI (k + 1))) E1 E2 d_Br_chooseRoot_115 hl (k := 5) rfl (nI_1 _) (by decide) rfl (fun ls hl => ?_)
      have hl : lv_has ls 9 [(5, .int (nI (k + 1))), (6, .ref (ad 6 (4 * b + k))), (0, .ref (ad 2 b)), (1, .long (q.1)), (3, .ref (ad 3 b)), (4, .int (nI 4))] := hl
      refine lv_goto E1 E2 d_Br_chooseRoot_118 rfl ?_
      have hq : (bd_Br_chooseRoot b k q) = (q.1, q.2) := if_pos h1
      rw [hq] at kk
      exact kk _ _ ls (lv_sub hl [2, 3, 4, 5, 0] rfl) h
    · have h1 : ¬ (((q.2).2.1 2 (4 * b + k)) = 0) := (fun hw => h1 ((nI_eq (a := (q.2).2.1 2 (4 * b + k)) (b := 0) (by omega) (by omega)).mpr hw))
      refine lv_aload E1 E2 d_Br_chooseRoot_57 (lv_at hl 0 rfl) ?_
      refine g_Po_info F h (by omega) k_152 (v := (q.2).2.2.1 1 (4 * b + k)) rfl d_Br_chooseRoot_59 ?_
      refine bn_calli F h (bn_runS (n := 1) (As := [.long ((q.2).2.2.1 1 (4 * b + k))]) (rest := []) F hml hl.1 h (c_Ve_bridgeOf l D ar ad nf (q.2) ((q.2).2.2.1 1 (4 * b + k)) _) (bn_goodS k_259 k_260 k_8 k_261) rfl rfl (by decide) ⟨by decide, by decide⟩ rfl rfl (Nat.le_of_ble_eq_true rfl) d_Br_chooseRoot_62 ⟨Nat.zero_le _, Nat.zero_le _⟩) (fun H locs h => ?_)
      refine lv_aload_n E1 E2 d_Br_chooseRoot_65 rfl (lv_at hl 1 rfl) ?_
      refine g_Br_id F h (by omega) k_37 (v := (q.2).1 1 b) rfl d_Br_chooseRoot_66 ?_
      refine lv_icmp_ne E1 E2 d_Br_chooseRoot_69 rfl (fun h2 => ?_) (fun h2 => ?_)
      · have h2 : ¬ (r_Ve_bridgeOf (q.2) ((q.2).2.2.1 1 (4 * b + k)) = (q.2).1 1 b) := h2
        refine lv_aload E1 E2 d_Br_chooseRoot_75 (lv_at hl 0 rfl) ?_
        refine g_Po_info F h (by omega) k_152 (v := (q.2).2.2.1 1 (4 * b + k)) rfl d_Br_chooseRoot_77 ?_
        refine lv_aload E1 E2 d_Br_chooseRoot_80 (lv_at hl 0 rfl) ?_
        refine g_Po_cost F h (by omega) k_140 (v := (q.2).1 5 (4 * b + k)) rfl d_Br_chooseRoot_82 ?_
        refine bn_calll F h (bn_runS (n := 2) (As := [.long ((q.2).2.2.1 1 (4 * b + k)), .int ((q.2).1 5 (4 * b + k))]) (rest := []) F hml hl.1 h (c_Ve_farther l D ar ad nf (q.2) ((q.2).2.2.1 1 (4 * b + k)) ((q.2).1 5 (4 * b + k)) _) (bn_goodS k_262 k_263 k_8 k_264) rfl rfl (by decide) ⟨by decide, by decide⟩ rfl rfl (Nat.le_of_ble_eq_true rfl) d_Br_chooseRoot_85 ⟨Nat.zero_le _, Nat.zero_le _⟩) (fun H locs h => ?_)
        refine lv_lstore E1 E2 d_Br_chooseRoot_88 hl (by decide) rfl (fun ls hl => ?_)
        have hl : lv_has ls 9 [(7, .long (r_Ve_farther (q.2) ((q.2).2.2.1 1 (4 * b + k)) ((q.2).1 5 (4 * b + k)))), (6, .ref (ad 6 (4 * b + k))), (0, .ref (ad 2 b)), (1, .long (q.1)), (3, .ref (ad 3 b)), (4, .int (nI 4)), (5, .int (nI k))] := hl
        refine lv_lload E1 E2 d_Br_chooseRoot_90 (lv_at hl 0 rfl) ?_
        refine lv_lload_n E1 E2 d_Br_chooseRoot_92 rfl (lv_at hl 3 rfl) ?_
        refine W.lcmp E1 E2 d_Br_chooseRoot_93 ?_
        refine lv_if_ge E1 E2 d_Br_chooseRoot_94 rfl (fun h3 => ?_) (fun h3 => ?_)
        · have h3 : (q.1) ≤ (r_Ve_farther (q.2) ((q.2).2.2.1 1 (4 * b + k)) ((q.2).1 5 (4 * b + k))) := ((lg_cmp_ge _ _).mp h3)
          refine lv_iinc (v := (nI (k + 1))) E1 E2 d_Br_chooseRoot_115 hl (k := 6) rfl (nI_1 _) (by decide) rfl (fun ls hl => ?_)
          have hl : lv_has ls 9 [(5, .int (nI (k + 1))), (7, .long (r_Ve_farther (q.2) ((q.2).2.2.1 1 (4 * b + k)) ((q.2).1 5 (4 * b + k)))), (6, .ref (ad 6 (4 * b + k))), (0, .ref (ad 2 b)), (1, .long (q.1)), (3, .ref (ad 3 b)), (4, .int (nI 4))] := hl
          refine lv_goto E1 E2 d_Br_chooseRoot_118 rfl ?_
          have hq : (bd_Br_chooseRoot b k q) = (q.1, q.2) := Eq.trans (if_neg h1) (Eq.trans (if_neg h2) (if_pos h3))
          rw [hq] at kk
          exact kk _ _ ls (lv_sub hl [3, 4, 5, 6, 0] rfl) h
        · have h3 : ¬ ((q.1) ≤ (r_Ve_farther (q.2) ((q.2).2.2.1 1 (4 * b + k)) ((q.2).1 5 (4 * b + k)))) := (fun hw => h3 ((lg_cmp_ge _ _).mpr hw))
          refine lv_lload E1 E2 d_Br_chooseRoot_97 (lv_at hl 0 rfl) ?_
          refine lv_lstore_n E1 E2 d_Br_chooseRoot_99 rfl hl (by decide) rfl (fun ls hl => ?_)
          have hl : lv_has ls 9 [(1, .long (r_Ve_farther (q.2) ((q.2).2.2.1 1 (4 * b + k)) ((q.2).1 5 (4 * b + k)))), (7, .long (r_Ve_farther (q.2) ((q.2).2.2.1 1 (4 * b + k)) ((q.2).1 5 (4 * b + k)))), (6, .ref (ad 6 (4 * b + k))), (0, .ref (ad 2 b)), (3, .ref (ad 3 b)), (4, .int (nI 4)), (5, .int (nI k))] := hl
          refine lv_aload_n E1 E2 d_Br_chooseRoot_100 rfl (lv_at hl 3 rfl) ?_
          refine lv_aload E1 E2 d_Br_chooseRoot_101 (lv_at hl 2 rfl) ?_
          refine bn_calli F h (bn_runV (n := 0) (As := []) (rest := [.ref (ad 2 b)]) F hml hl.1 h (mm_6 (by omega)) rfl rfl (c_Po_hopsThrough l D ar ad nf (q.2) (4 * b + k) (by omega) _) (bn_goodV k_265 k_266 k_267 k_3 k_268) rfl rfl (by decide) ⟨by decide, by decide⟩ rfl rfl (Nat.le_of_ble_eq_true rfl) d_Br_chooseRoot_103 ⟨Nat.zero_le _, Nat.zero_le _⟩) (fun H locs h => ?_)
          refine p_Br_hops F h (by omega) k_42 d_Br_chooseRoot_106 (fun H locs h => ?_)
          have h : bn_H (bn_y D ar ad nf) s.heap H locs (sI (q.2) 4 b (r_Po_hopsThrough (q.2) (4 * b + k))) := h
          refine lv_aload_n E1 E2 d_Br_chooseRoot_109 rfl (lv_at hl 3 rfl) ?_
          refine lv_aload E1 E2 d_Br_chooseRoot_110 (lv_at hl 2 rfl) ?_
          refine p_Br_rootPort F h (by omega) k_43 (some (4 * b + k)) (fun _ hz => by cases hz; omega) d_Br_chooseRoot_112 (fun H locs h => ?_)
          have h : bn_H (bn_y D ar ad nf) s.heap H locs (sO (sI (q.2) 4 b (r_Po_hopsThrough (q.2) (4 * b + k))) 1 b (some (4 * b + k))) := h
          refine lv_iinc (v := (nI (k + 1))) E1 E2 d_Br_chooseRoot_115 hl (k := 6) rfl (nI_1 _) (by decide) rfl (fun ls hl => ?_)
          have hl : lv_has ls 9 [(5, .int (nI (k + 1))), (1, .long (r_Ve_farther (q.2) ((q.2).2.2.1 1 (4 * b + k)) ((q.2).1 5 (4 * b + k)))), (7, .long (r_Ve_farther (q.2) ((q.2).2.2.1 1 (4 * b + k)) ((q.2).1 5 (4 * b + k)))), (6, .ref (ad 6 (4 * b + k))), (0, .ref (ad 2 b)), (3, .ref (ad 3 b)), (4, .int (nI 4))] := hl
          refine lv_goto E1 E2 d_Br_chooseRoot_118 rfl ?_
          have hq : (bd_Br_chooseRoot b k q) = (r_Ve_farther (q.2) ((q.2).2.2.1 1 (4 * b + k)) ((q.2).1 5 (4 * b + k)), (sO (sI (q.2) 4 b (r_Po_hopsThrough (q.2) (4 * b + k))) 1 b (some (4 * b + k)))) := Eq.trans (if_neg h1) (Eq.trans (if_neg h2) (if_neg h3))
          rw [hq] at kk
          exact kk _ _ ls (lv_sub hl [4, 1, 5, 6, 0] rfl) h
      · have h2 : r_Ve_bridgeOf (q.2) ((q.2).2.2.1 1 (4 * b + k)) = (q.2).1 1 b := h2
        refine lv_goto E1 E2 d_Br_chooseRoot_72 rfl ?_
        refine lv_iinc (v := (nI (k + 1))) E1 E2 d_Br_chooseRoot_115 hl (k := 5) rfl (nI_1 _) (by decide) rfl (fun ls hl => ?_)
        have hl : lv_has ls 9 [(5, .int (nI (k + 1))), (6, .ref (ad 6 (4 * b + k))), (0, .ref (ad 2 b)), (1, .long (q.1)), (3, .ref (ad 3 b)), (4, .int (nI 4))] := hl
        refine lv_goto E1 E2 d_Br_chooseRoot_118 rfl ?_
        have hq : (bd_Br_chooseRoot b k q) = (q.1, q.2) := Eq.trans (if_neg h1) (if_pos h2)
        rw [hq] at kk
        exact kk _ _ ls (lv_sub hl [2, 3, 4, 5, 0] rfl) h
  refine hs36 _ 0 (by decide) (it_Br_chooseRoot b (r_Ve_of N (N.1 1 b) 0 (N.1 1 b) 0, (sO (sI N 4 b 0) 1 b none)) 0) _ _ ls (lv_sub hl [4, 3, 2, 1, 0] rfl) h (fun H locs ls hl h => ?_)
  rw [it_Br_chooseRoot_s] at hl h
  refine hs36 _ 1 (by decide) (it_Br_chooseRoot b (r_Ve_of N (N.1 1 b) 0 (N.1 1 b) 0, (sO (sI N 4 b 0) 1 b none)) 1) _ _ ls hl h (fun H locs ls hl h => ?_)
  rw [it_Br_chooseRoot_s] at hl h
  refine hs36 _ 2 (by decide) (it_Br_chooseRoot b (r_Ve_of N (N.1 1 b) 0 (N.1 1 b) 0, (sO (sI N 4 b 0) 1 b none)) 2) _ _ ls hl h (fun H locs ls hl h => ?_)
  rw [it_Br_chooseRoot_s] at hl h
  refine hs36 _ 3 (by decide) (it_Br_chooseRoot b (r_Ve_of N (N.1 1 b) 0 (N.1 1 b) 0, (sO (sI N 4 b 0) 1 b none)) 3) _ _ ls hl h (fun H locs ls hl h => ?_)
  rw [it_Br_chooseRoot_s] at hl h
  have hl : lv_has ls 9 [(0, .ref (ad 2 b)), (1, .long ((it_Br_chooseRoot b (r_Ve_of N (N.1 1 b) 0 (N.1 1 b) 0, (sO (sI N 4 b 0) 1 b none)) 4).1)), (3, .ref (ad 3 b)), (4, .int (nI 4)), (5, .int (nI 4))] := hl
  have h : bn_H (bn_y D ar ad nf) s.heap H locs (it_Br_chooseRoot b (r_Ve_of N (N.1 1 b) 0 (N.1 1 b) 0, (sO (sI N 4 b 0) 1 b none)) 4).2 := h
  refine lv_iload E1 E2 d_Br_chooseRoot_36 (lv_at hl 4 rfl) ?_
  refine lv_iload E1 E2 d_Br_chooseRoot_38 (lv_at hl 3 rfl) ?_
  refine lv_icmp_ge E1 E2 d_Br_chooseRoot_40 rfl (fun _ => ?_) (fun hz => absurd ((nI_leI (a := 4) (b := 4) (by omega) (by omega)).mpr (by omega)) hz)
  refine lv_aload_n E1 E2 d_Br_chooseRoot_121 rfl (lv_at hl 0 rfl) ?_
  refine lv_lload_n E1 E2 d_Br_chooseRoot_122 rfl (lv_at hl 1 rfl) ?_
  refine bn_calli F h (bn_runS (n := 1) (As := [.long ((it_Br_chooseRoot b (r_Ve_of N (N.1 1 b) 0 (N.1 1 b) 0, (sO (sI N 4 b 0) 1 b none)) 4).1)]) (rest := [.ref (ad 2 b)]) F hml hl.1 h (c_Ve_rootOf l D ar ad nf ((it_Br_chooseRoot b (r_Ve_of N (N.1 1 b) 0 (N.1 1 b) 0, (sO (sI N 4 b 0) 1 b none)) 4).2) ((it_Br_chooseRoot b (r_Ve_of N (N.1 1 b) 0 (N.1 1 b) 0, (sO (sI N 4 b 0) 1 b none)) 4).1) _) (bn_goodS k_269 k_270 k_8 k_271) rfl rfl (by decide) ⟨by decide, by decide⟩ rfl rfl (Nat.le_of_ble_eq_true rfl) d_Br_chooseRoot_123 ⟨Nat.zero_le _, Nat.zero_le _⟩) (fun H locs h => ?_)
  refine p_Br_root F h (by omega) k_40 d_Br_chooseRoot_126 (fun H locs h => ?_)
  have h : bn_H (bn_y D ar ad nf) s.heap H locs (sI ((it_Br_chooseRoot b (r_Ve_of N (N.1 1 b) 0 (N.1 1 b) 0, (sO (sI N 4 b 0) 1 b none)) 4).2) 2 b (r_Ve_rootOf ((it_Br_chooseRoot b (r_Ve_of N (N.1 1 b) 0 (N.1 1 b) 0, (sO (sI N 4 b 0) 1 b none)) 4).2) ((it_Br_chooseRoot b (r_Ve_of N (N.1 1 b) 0 (N.1 1 b) 0, (sO (sI N 4 b 0) 1 b none)) 4).1))) := h
  refine lv_aload_n E1 E2 d_Br_chooseRoot_129 rfl (lv_at hl 0 rfl) ?_
  refine lv_lload_n E1 E2 d_Br_chooseRoot_130 rfl (lv_at hl 1 rfl) ?_
  refine bn_calli F h (bn_runS (n := 1) (As := [.long ((it_Br_chooseRoot b (r_Ve_of N (N.1 1 b) 0 (N.1 1 b) 0, (sO (sI N 4 b 0) 1 b none)) 4).1)]) (rest := [.ref (ad 2 b)]) F hml hl.1 h (c_Ve_costOf l D ar ad nf (sI ((it_Br_chooseRoot b (r_Ve_of N (N.1 1 b) 0 (N.1 1 b) 0, (sO (sI N 4 b 0) 1 b none)) 4).2) 2 b (r_Ve_rootOf ((it_Br_chooseRoot b (r_Ve_of N (N.1 1 b) 0 (N.1 1 b) 0, (sO (sI N 4 b 0) 1 b none)) 4).2) ((it_Br_chooseRoot b (r_Ve_of N (N.1 1 b) 0 (N.1 1 b) 0, (sO (sI N 4 b 0) 1 b none)) 4).1))) ((it_Br_chooseRoot b (r_Ve_of N (N.1 1 b) 0 (N.1 1 b) 0, (sO (sI N 4 b 0) 1 b none)) 4).1) _) (bn_goodS k_272 k_273 k_8 k_274) rfl rfl (by decide) ⟨by decide, by decide⟩ rfl rfl (Nat.le_of_ble_eq_true rfl) d_Br_chooseRoot_131 ⟨Nat.zero_le _, Nat.zero_le _⟩) (fun H locs h => ?_)
  refine p_Br_cost F h (by omega) k_41 d_Br_chooseRoot_134 (fun H locs h => ?_)
  have h : bn_H (bn_y D ar ad nf) s.heap H locs (sI (sI ((it_Br_chooseRoot b (r_Ve_of N (N.1 1 b) 0 (N.1 1 b) 0, (sO (sI N 4 b 0) 1 b none)) 4).2) 2 b (r_Ve_rootOf ((it_Br_chooseRoot b (r_Ve_of N (N.1 1 b) 0 (N.1 1 b) 0, (sO (sI N 4 b 0) 1 b none)) 4).2) ((it_Br_chooseRoot b (r_Ve_of N (N.1 1 b) 0 (N.1 1 b) 0, (sO (sI N 4 b 0) 1 b none)) 4).1))) 3 b (r_Ve_costOf (sI ((it_Br_chooseRoot b (r_Ve_of N (N.1 1 b) 0 (N.1 1 b) 0, (sO (sI N 4 b 0) 1 b none)) 4).2) 2 b (r_Ve_rootOf ((it_Br_chooseRoot b (r_Ve_of N (N.1 1 b) 0 (N.1 1 b) 0, (sO (sI N 4 b 0) 1 b none)) 4).2) ((it_Br_chooseRoot b (r_Ve_of N (N.1 1 b) 0 (N.1 1 b) 0, (sO (sI N 4 b 0) 1 b none)) 4).1))) ((it_Br_chooseRoot b (r_Ve_of N (N.1 1 b) 0 (N.1 1 b) 0, (sO (sI N 4 b 0) 1 b none)) 4).1))) := h
  have hq : o_Br_chooseRoot N b = (sI (sI ((it_Br_chooseRoot b (r_Ve_of N (N.1 1 b) 0 (N.1 1 b) 0, (sO (sI N 4 b 0) 1 b none)) 4).2) 2 b (r_Ve_rootOf ((it_Br_chooseRoot b (r_Ve_of N (N.1 1 b) 0 (N.1 1 b) 0, (sO (sI N 4 b 0) 1 b none)) 4).2) ((it_Br_chooseRoot b (r_Ve_of N (N.1 1 b) 0 (N.1 1 b) 0, (sO (sI N 4 b 0) 1 b none)) 4).1))) 3 b (r_Ve_costOf (sI ((it_Br_chooseRoot b (r_Ve_of N (N.1 1 b) 0 (N.1 1 b) 0, (sO (sI N 4 b 0) 1 b none)) 4).2) 2 b (r_Ve_rootOf ((it_Br_chooseRoot b (r_Ve_of N (N.1 1 b) 0 (N.1 1 b) 0, (sO (sI N 4 b 0) 1 b none)) 4).2) ((it_Br_chooseRoot b (r_Ve_of N (N.1 1 b) 0 (N.1 1 b) 0, (sO (sI N 4 b 0) 1 b none)) 4).1))) ((it_Br_chooseRoot b (r_Ve_of N (N.1 1 b) 0 (N.1 1 b) 0, (sO (sI N 4 b 0) 1 b none)) 4).1))) := rfl
  exact bn_retv F hr hk h hq.symm d_Br_chooseRoot_137
