/-! contracts of the reference, written by wip/whole/gen_model.py -/
def r_Mo_thrown (N : bn_S)  : Int32 := N.1 41 0
set_option maxHeartbeats 4000000 in
set_option maxRecDepth 100000 in
theorem c_Mo_thrown (l : Launch) (D : va_G) (ar : Nat → ClassId) (ad : Nat → Nat → Nat) (N : bn_S)  : bn_I l y_Mo_thrown w_Mo_thrown { frames := 0, cells := 0, slots := 0, locals := 0 } (mo_y D ar ad) N [.ref (ad 0 0)] (r_Mo_thrown N) N := by
  intro sz
  refine bn_start (cc := b_Mo_thrown) (maxL := 1) (ret := (Option.some Jvm.ClassFile.FieldType.int)) (by decide) rfl (Nat.le_of_ble_eq_true rfl) ?_
  intro p e s m args below meth c ls hsz F hml hr hk hl h
  subst hsz
  have E1 := F.1
  have E2 := F.2.1
  have hl : lv_has ls 1 [(0, .ref (ad 0 0))] := hl
  refine lv_aload_n E1 E2 d_Mo_thrown_0 rfl (lv_at hl 0 rfl) ?_
  refine g_Mo_thrown F h k_701 (v := N.1 41 0) rfl d_Mo_thrown_1 ?_
  have hq : r_Mo_thrown N = N.1 41 0 := rfl
  exact bn_reti F hr hk h hq.symm rfl d_Mo_thrown_4
def o_Mo_raise (N : bn_S) (cd : Int32) : Int32 × bn_S := (0, (sI N 41 0 cd))
set_option maxHeartbeats 4000000 in
set_option maxRecDepth 100000 in
theorem c_Mo_raise (l : Launch) (D : va_G) (ar : Nat → ClassId) (ad : Nat → Nat → Nat) (N : bn_S)  (cd : Int32) : bn_I l y_Mo_raise w_Mo_raise { frames := 0, cells := 0, slots := 0, locals := 0 } (mo_y D ar ad) N [.ref (ad 0 0), .int cd] (o_Mo_raise N cd).1 (o_Mo_raise N cd).2 := by
  intro sz
  refine bn_start (cc := b_Mo_raise) (maxL := 2) (ret := (Option.some Jvm.ClassFile.FieldType.int)) (by decide) rfl (Nat.le_of_ble_eq_true rfl) ?_
  intro p e s m args below meth c ls hsz F hml hr hk hl h
  subst hsz
  have E1 := F.1
  have E2 := F.2.1
  have hl : lv_has ls 2 [(0, .ref (ad 0 0)), (1, .int cd)] := hl
  refine lv_aload_n E1 E2 d_Mo_raise_0 rfl (lv_at hl 0 rfl) ?_
  refine lv_iload_n E1 E2 d_Mo_raise_1 rfl (lv_at hl 1 rfl) ?_
  refine p_Mo_thrown F h k_701 d_Mo_raise_2 (fun H locs h => ?_)
  have h : bn_H (mo_y D ar ad) s.heap H locs (sI N 41 0 cd) := h
  refine lv_iconst (v := 0) E1 E2 d_Mo_raise_5 (by decide) ?_
  have hq : o_Mo_raise N cd = (0, (sI N 41 0 cd)) := rfl
  exact bn_reti2 F hr hk h hq d_Mo_raise_6
def r_Mo_isBridge (N : bn_S) (ba : Int32) : Int32 := (if ba < 0 then 0 else (if 4 < ba then 0 else 1))
set_option maxHeartbeats 4000000 in
set_option maxRecDepth 100000 in
theorem c_Mo_isBridge (l : Launch) (D : va_G) (ar : Nat → ClassId) (ad : Nat → Nat → Nat) (N : bn_S) (ba : Int32) : bn_I l y_Mo_isBridge w_Mo_isBridge { frames := 0, cells := 0, slots := 0, locals := 0 } (mo_y D ar ad) N [.int ba] (r_Mo_isBridge N ba) N := by
  intro sz
  refine bn_start (cc := b_Mo_isBridge) (maxL := 1) (ret := (Option.some Jvm.ClassFile.FieldType.boolean)) (by decide) rfl (Nat.le_of_ble_eq_true rfl) ?_
  intro p e s m args below meth c ls hsz F hml hr hk hl h
  subst hsz
  have E1 := F.1
  have E2 := F.2.1
  have hl : lv_has ls 1 [(0, .int ba)] := hl
  refine lv_iload_n E1 E2 d_Mo_isBridge_0 rfl (lv_at hl 0 rfl) ?_
  refine lv_if_lt E1 E2 d_Mo_isBridge_1 rfl (fun h1 => ?_) (fun h1 => ?_)
  · have h1 : ba < 0 := h1
    refine lv_iconst (v := 0) E1 E2 d_Mo_isBridge_13 (by decide) ?_
    have hq : r_Mo_isBridge N ba = 0 := if_pos h1
    exact bn_retz F hr rfl hk h hq.symm rfl d_Mo_isBridge_14
  · have h1 : ¬ (ba < 0) := h1
    refine lv_iload_n E1 E2 d_Mo_isBridge_4 rfl (lv_at hl 0 rfl) ?_
    refine lv_iconst (v := 4) E1 E2 d_Mo_isBridge_5 (by decide) ?_
    refine lv_icmp_gt E1 E2 d_Mo_isBridge_6 rfl (fun h2 => ?_) (fun h2 => ?_)
    · have h2 : 4 < ba := h2
      refine lv_iconst (v := 0) E1 E2 d_Mo_isBridge_13 (by decide) ?_
      have hq : r_Mo_isBridge N ba = 0 := Eq.trans (if_neg h1) (if_pos h2)
      exact bn_retz F hr rfl hk h hq.symm rfl d_Mo_isBridge_14
    · have h2 : ¬ (4 < ba) := h2
      refine lv_iconst (v := 1) E1 E2 d_Mo_isBridge_9 (by decide) ?_
      refine lv_goto E1 E2 d_Mo_isBridge_10 rfl ?_
      have hq : r_Mo_isBridge N ba = 1 := Eq.trans (if_neg h1) (if_neg h2)
      exact bn_retz F hr rfl hk h hq.symm rfl d_Mo_isBridge_14
theorem bn_isBm {N : bn_S} {b : Int32} (h : ¬ r_Mo_isBridge N b = 0) : b = nI b.toNatClampNeg ∧ b.toNatClampNeg < 5 := by
  unfold r_Mo_isBridge at h
  split at h
  · exact absurd rfl h
  · rename_i h0
    split at h
    · exact absurd rfl h
    · rename_i h1
      exact bn_natlt (n := 4) h0 h1 (by decide)
def r_Mo_isPort (N : bn_S) (ba : Int32) (pa : Int32) : Int32 := (if r_Mo_isBridge N ba = 0 then 0 else (if pa < 0 then 0 else (if 3 < pa then 0 else 1)))
set_option maxHeartbeats 4000000 in
set_option maxRecDepth 100000 in
theorem c_Mo_isPort (l : Launch) (D : va_G) (ar : Nat → ClassId) (ad : Nat → Nat → Nat) (N : bn_S) (ba : Int32) (pa : Int32) : bn_I l y_Mo_isPort w_Mo_isPort { frames := 1, cells := 0, slots := 0, locals := 20 } (mo_y D ar ad) N [.int ba, .int pa] (r_Mo_isPort N ba pa) N := by
  intro sz
  refine bn_start (cc := b_Mo_isPort) (maxL := 2) (ret := (Option.some Jvm.ClassFile.FieldType.boolean)) (by decide) rfl (Nat.le_of_ble_eq_true rfl) ?_
  intro p e s m args below meth c ls hsz F hml hr hk hl h
  subst hsz
  have E1 := F.1
  have E2 := F.2.1
  have hl : lv_has ls 2 [(0, .int ba), (1, .int pa)] := hl
  refine lv_iload_n E1 E2 d_Mo_isPort_0 rfl (lv_at hl 0 rfl) ?_
  refine bn_calli F h (bn_runS (n := 1) (As := [.int ba]) (rest := []) F hml hl.1 h (c_Mo_isBridge l D ar ad N ba _) (bn_goodS k_810 k_811 k_7 k_812) rfl rfl (by decide) ⟨by decide, by decide⟩ rfl rfl (Nat.le_of_ble_eq_true rfl) d_Mo_isPort_1 ⟨Nat.zero_le _, Nat.zero_le _⟩) (fun H locs h => ?_)
  refine lv_if_eq E1 E2 d_Mo_isPort_4 rfl (fun h1 => ?_) (fun h1 => ?_)
  · have h1 : r_Mo_isBridge N ba = 0 := h1
    refine lv_iconst (v := 0) E1 E2 d_Mo_isPort_20 (by decide) ?_
    have hq : r_Mo_isPort N ba pa = 0 := if_pos h1
    exact bn_retz F hr rfl hk h hq.symm rfl d_Mo_isPort_21
  · have h1 : ¬ (r_Mo_isBridge N ba = 0) := h1
    refine lv_iload_n E1 E2 d_Mo_isPort_7 rfl (lv_at hl 1 rfl) ?_
    refine lv_if_lt E1 E2 d_Mo_isPort_8 rfl (fun h2 => ?_) (fun h2 => ?_)
    · have h2 : pa < 0 := h2
      refine lv_iconst (v := 0) E1 E2 d_Mo_isPort_20 (by decide) ?_
      have hq : r_Mo_isPort N ba pa = 0 := Eq.trans (if_neg h1) (if_pos h2)
      exact bn_retz F hr rfl hk h hq.symm rfl d_Mo_isPort_21
    · have h2 : ¬ (pa < 0) := h2
      refine lv_iload_n E1 E2 d_Mo_isPort_11 rfl (lv_at hl 1 rfl) ?_
      refine lv_iconst (v := 3) E1 E2 d_Mo_isPort_12 (by decide) ?_
      refine lv_icmp_gt E1 E2 d_Mo_isPort_13 rfl (fun h3 => ?_) (fun h3 => ?_)
      · have h3 : 3 < pa := h3
        refine lv_iconst (v := 0) E1 E2 d_Mo_isPort_20 (by decide) ?_
        have hq : r_Mo_isPort N ba pa = 0 := Eq.trans (if_neg h1) (Eq.trans (if_neg h2) (if_pos h3))
        exact bn_retz F hr rfl hk h hq.symm rfl d_Mo_isPort_21
      · have h3 : ¬ (3 < pa) := h3
        refine lv_iconst (v := 1) E1 E2 d_Mo_isPort_16 (by decide) ?_
        refine lv_goto E1 E2 d_Mo_isPort_17 rfl ?_
        have hq : r_Mo_isPort N ba pa = 1 := Eq.trans (if_neg h1) (Eq.trans (if_neg h2) (if_neg h3))
        exact bn_retz F hr rfl hk h hq.symm rfl d_Mo_isPort_21
theorem bn_isP {N : bn_S} {b a : Int32} (h : ¬ r_Mo_isPort N b a = 0) : (b = nI b.toNatClampNeg ∧ b.toNatClampNeg < 5) ∧ (a = nI a.toNatClampNeg ∧ a.toNatClampNeg < 4) := by
  unfold r_Mo_isPort at h
  split at h
  · exact absurd rfl h
  · rename_i h0
    split at h
    · exact absurd rfl h
    · rename_i h1
      split at h
      · exact absurd rfl h
      · rename_i h2
        exact ⟨bn_isBm h0, bn_natlt (n := 3) h1 h2 (by decide)⟩
theorem bn_isPb {N : bn_S} {b a : Int32} (h : ¬ r_Mo_isPort N b a = 0) : b = nI b.toNatClampNeg ∧ b.toNatClampNeg < 5 := (bn_isP h).1
theorem bn_isPp {N : bn_S} {b a : Int32} (h : ¬ r_Mo_isPort N b a = 0) : a = nI a.toNatClampNeg ∧ a.toNatClampNeg < 4 := (bn_isP h).2
def r_Mo_id (N : bn_S) (b : Nat) : Int32 := (8 * (N.1 1 b)) + (nI b)
set_option maxHeartbeats 4000000 in
set_option maxRecDepth 100000 in
theorem c_Mo_id (l : Launch) (D : va_G) (ar : Nat → ClassId) (ad : Nat → Nat → Nat) (N : bn_S)  (b : Nat) (hb : b < 5) : bn_I l y_Mo_id w_Mo_id { frames := 0, cells := 0, slots := 0, locals := 0 } (mo_y D ar ad) N [.ref (ad 0 0), .int (nI b)] (r_Mo_id N b) N := by
  intro sz
  refine bn_start (cc := b_Mo_id) (maxL := 2) (ret := (Option.some Jvm.ClassFile.FieldType.int)) (by decide) rfl (Nat.le_of_ble_eq_true rfl) ?_
  intro p e s m args below meth c ls hsz F hml hr hk hl h
  subst hsz
  have E1 := F.1
  have E2 := F.2.1
  have hl : lv_has ls 2 [(0, .ref (ad 0 0)), (1, .int (nI b))] := hl
  refine lv_bipush (v := 8) E1 E2 d_Mo_id_0 (by decide) ?_
  refine lv_aload_n E1 E2 d_Mo_id_2 rfl (lv_at hl 0 rfl) ?_
  refine g_Mo_priority F h k_703 d_Mo_id_3 ?_
  refine lv_iload_n E1 E2 d_Mo_id_6 rfl (lv_at hl 1 rfl) ?_
  refine ml_priority F h (i := b) (by omega) (v := N.1 1 b) rfl d_Mo_id_7 ?_
  refine lv_imul E1 E2 d_Mo_id_8 ?_
  refine lv_iload_n E1 E2 d_Mo_id_9 rfl (lv_at hl 1 rfl) ?_
  refine lv_iadd E1 E2 d_Mo_id_10 ?_
  have hq : r_Mo_id N b = (8 * (N.1 1 b)) + (nI b) := rfl
  exact bn_reti F hr hk h hq.symm rfl d_Mo_id_11
def r_Mo_isLinked (N : bn_S) (x : Nat) : Int32 := (if (N.2.1 4 x) ≤ 0 then 0 else (if 100 ≤ (N.2.1 4 x) then 0 else 1))
set_option maxHeartbeats 4000000 in
set_option maxRecDepth 100000 in
theorem c_Mo_isLinked (l : Launch) (D : va_G) (ar : Nat → ClassId) (ad : Nat → Nat → Nat) (N : bn_S)  (x : Nat) (hx : x < 20) : bn_I l y_Mo_isLinked w_Mo_isLinked { frames := 0, cells := 0, slots := 0, locals := 0 } (mo_y D ar ad) N [.ref (ad 0 0), .int (nI x)] (r_Mo_isLinked N x) N := by
  intro sz
  refine bn_start (cc := b_Mo_isLinked) (maxL := 2) (ret := (Option.some Jvm.ClassFile.FieldType.boolean)) (by decide) rfl (Nat.le_of_ble_eq_true rfl) ?_
  intro p e s m args below meth c ls hsz F hml hr hk hl h
  subst hsz
  have E1 := F.1
  have E2 := F.2.1
  have hl : lv_has ls 2 [(0, .ref (ad 0 0)), (1, .int (nI x))] := hl
  refine lv_aload_n E1 E2 d_Mo_isLinked_0 rfl (lv_at hl 0 rfl) ?_
  refine g_Mo_joined F h k_706 d_Mo_isLinked_1 ?_
  refine lv_iload_n E1 E2 d_Mo_isLinked_4 rfl (lv_at hl 1 rfl) ?_
  refine ml_joined F h (i := x) (by omega) (v := N.2.1 4 x) rfl d_Mo_isLinked_5 ?_
  have hwjoined : N.2.1 4 x < 108 := mw_joined h.2.2.2 x
  refine lv_if_le E1 E2 d_Mo_isLinked_6 rfl (fun h1 => ?_) (fun h1 => ?_)
  · have h1 : (N.2.1 4 x) ≤ 0 := ((nI_leI (a := N.2.1 4 x) (b := 0) (by omega) (by omega)).mp h1)
    refine lv_iconst (v := 0) E1 E2 d_Mo_isLinked_24 (by decide) ?_
    have hq : r_Mo_isLinked N x = 0 := if_pos h1
    exact bn_retz F hr rfl hk h hq.symm rfl d_Mo_isLinked_25
  · have h1 : ¬ ((N.2.1 4 x) ≤ 0) := (fun hw => h1 ((nI_leI (a := N.2.1 4 x) (b := 0) (by omega) (by omega)).mpr hw))
    refine lv_aload_n E1 E2 d_Mo_isLinked_9 rfl (lv_at hl 0 rfl) ?_
    refine g_Mo_joined F h k_706 d_Mo_isLinked_10 ?_
    refine lv_iload_n E1 E2 d_Mo_isLinked_13 rfl (lv_at hl 1 rfl) ?_
    refine ml_joined F h (i := x) (by omega) (v := N.2.1 4 x) rfl d_Mo_isLinked_14 ?_
    refine lv_bipush (v := 100) E1 E2 d_Mo_isLinked_15 (by decide) ?_
    have hwjoined : N.2.1 4 x < 108 := mw_joined h.2.2.2 x
    refine lv_icmp_ge E1 E2 d_Mo_isLinked_17 rfl (fun h2 => ?_) (fun h2 => ?_)
    · have h2 : 100 ≤ (N.2.1 4 x) := ((nI_leI (a := 100) (b := N.2.1 4 x) (by omega) (by omega)).mp h2)
      refine lv_iconst (v := 0) E1 E2 d_Mo_isLinked_24 (by decide) ?_
      have hq : r_Mo_isLinked N x = 0 := Eq.trans (if_neg h1) (if_pos h2)
      exact bn_retz F hr rfl hk h hq.symm rfl d_Mo_isLinked_25
    · have h2 : ¬ (100 ≤ (N.2.1 4 x)) := (fun hw => h2 ((nI_leI (a := 100) (b := N.2.1 4 x) (by omega) (by omega)).mpr hw))
      refine lv_iconst (v := 1) E1 E2 d_Mo_isLinked_20 (by decide) ?_
      refine lv_goto E1 E2 d_Mo_isLinked_21 rfl ?_
      have hq : r_Mo_isLinked N x = 1 := Eq.trans (if_neg h1) (if_neg h2)
      exact bn_retz F hr rfl hk h hq.symm rfl d_Mo_isLinked_25
theorem mo_lk {N : bn_S} {x : Nat} (hj : N.2.1 4 x ≤ 20 ∨ 100 ≤ N.2.1 4 x) (h : ¬ r_Mo_isLinked N x = 0) : 1 ≤ N.2.1 4 x ∧ N.2.1 4 x ≤ 20 := by
  unfold r_Mo_isLinked at h
  split at h
  · exact absurd rfl h
  · split at h
    · exact absurd rfl h
    · omega
theorem mo_nl {N : bn_S} {x : Nat} (hj : N.2.1 4 x ≤ 20 ∨ 100 ≤ N.2.1 4 x) (h : r_Mo_isLinked N x = 0) (h0 : ¬ N.2.1 4 x = 0) : 100 ≤ N.2.1 4 x := by
  unfold r_Mo_isLinked at h
  split at h
  · omega
  · split at h
    · omega
    · exact absurd h (by decide)
def r_Mo_vector (N : bn_S) (ro : Int64) (co : Int64) (br : Int64) (po : Int64) : Int64 := (((ro <<< (Int32.toInt64 40 &&& 63)) ||| (co <<< (Int32.toInt64 24 &&& 63))) ||| (br <<< (Int32.toInt64 8 &&& 63))) ||| po
set_option maxHeartbeats 4000000 in
set_option maxRecDepth 100000 in
theorem c_Mo_vector (l : Launch) (D : va_G) (ar : Nat → ClassId) (ad : Nat → Nat → Nat) (N : bn_S) (ro : Int64) (co : Int64) (br : Int64) (po : Int64) : bn_L l y_Mo_vector w_Mo_vector { frames := 0, cells := 0, slots := 0, locals := 0 } (mo_y D ar ad) N [.long ro, .long co, .long br, .long po] (r_Mo_vector N ro co br po) N := by
  intro sz
  refine bn_start (cc := b_Mo_vector) (maxL := 8) (ret := (Option.some Jvm.ClassFile.FieldType.long)) (by decide) rfl (Nat.le_of_ble_eq_true rfl) ?_
  intro p e s m args below meth c ls hsz F hml hr hk hl h
  subst hsz
  have E1 := F.1
  have E2 := F.2.1
  have hl : lv_has ls 8 [(0, .long ro), (2, .long co), (4, .long br), (6, .long po)] := hl
  refine lv_lload_n E1 E2 d_Mo_vector_0 rfl (lv_at hl 0 rfl) ?_
  refine lv_bipush (v := 40) E1 E2 d_Mo_vector_1 (by decide) ?_
  refine lv_lshl (v := ro <<< (Int32.toInt64 40 &&& 63)) E1 E2 d_Mo_vector_3 rfl ?_
  refine lv_lload_n E1 E2 d_Mo_vector_4 rfl (lv_at hl 1 rfl) ?_
  refine lv_bipush (v := 24) E1 E2 d_Mo_vector_5 (by decide) ?_
  refine lv_lshl (v := co <<< (Int32.toInt64 24 &&& 63)) E1 E2 d_Mo_vector_7 rfl ?_
  refine lv_lor E1 E2 d_Mo_vector_8 ?_
  refine lv_lload E1 E2 d_Mo_vector_9 (lv_at hl 2 rfl) ?_
  refine lv_bipush (v := 8) E1 E2 d_Mo_vector_11 (by decide) ?_
  refine lv_lshl (v := br <<< (Int32.toInt64 8 &&& 63)) E1 E2 d_Mo_vector_13 rfl ?_
  refine lv_lor E1 E2 d_Mo_vector_14 ?_
  refine lv_lload E1 E2 d_Mo_vector_15 (lv_at hl 3 rfl) ?_
  refine lv_lor E1 E2 d_Mo_vector_17 ?_
  have hq : r_Mo_vector N ro co br po = (((ro <<< (Int32.toInt64 40 &&& 63)) ||| (co <<< (Int32.toInt64 24 &&& 63))) ||| (br <<< (Int32.toInt64 8 &&& 63))) ||| po := rfl
  exact bn_retl F hr hk h hq.symm rfl d_Mo_vector_18
def r_Mo_rootOf (N : bn_S) (v : Int64) : Int32 := Int64.toInt32 (v >>> (Int32.toInt64 40 &&& 63))
set_option maxHeartbeats 4000000 in
set_option maxRecDepth 100000 in
theorem c_Mo_rootOf (l : Launch) (D : va_G) (ar : Nat → ClassId) (ad : Nat → Nat → Nat) (N : bn_S) (v : Int64) : bn_I l y_Mo_rootOf w_Mo_rootOf { frames := 0, cells := 0, slots := 0, locals := 0 } (mo_y D ar ad) N [.long v] (r_Mo_rootOf N v) N := by
  intro sz
  refine bn_start (cc := b_Mo_rootOf) (maxL := 2) (ret := (Option.some Jvm.ClassFile.FieldType.int)) (by decide) rfl (Nat.le_of_ble_eq_true rfl) ?_
  intro p e s m args below meth c ls hsz F hml hr hk hl h
  subst hsz
  have E1 := F.1
  have E2 := F.2.1
  have hl : lv_has ls 2 [(0, .long v)] := hl
  refine lv_lload_n E1 E2 d_Mo_rootOf_0 rfl (lv_at hl 0 rfl) ?_
  refine lv_bipush (v := 40) E1 E2 d_Mo_rootOf_1 (by decide) ?_
  refine lv_lshr (v := v >>> (Int32.toInt64 40 &&& 63)) E1 E2 d_Mo_rootOf_3 rfl ?_
  refine lv_l2i (v := Int64.toInt32 (v >>> (Int32.toInt64 40 &&& 63))) E1 E2 d_Mo_rootOf_4 rfl ?_
  have hq : r_Mo_rootOf N v = Int64.toInt32 (v >>> (Int32.toInt64 40 &&& 63)) := rfl
  exact bn_reti F hr hk h hq.symm rfl d_Mo_rootOf_5
def r_Mo_costOf (N : bn_S) (v : Int64) : Int32 := (Int64.toInt32 (v >>> (Int32.toInt64 24 &&& 63))) &&& 65535
set_option maxHeartbeats 4000000 in
set_option maxRecDepth 100000 in
theorem c_Mo_costOf (l : Launch) (D : va_G) (ar : Nat → ClassId) (ad : Nat → Nat → Nat) (N : bn_S) (v : Int64) : bn_I l y_Mo_costOf w_Mo_costOf { frames := 0, cells := 0, slots := 0, locals := 0 } (mo_y D ar ad) N [.long v] (r_Mo_costOf N v) N := by
  intro sz
  refine bn_start (cc := b_Mo_costOf) (maxL := 2) (ret := (Option.some Jvm.ClassFile.FieldType.int)) (by decide) rfl (Nat.le_of_ble_eq_true rfl) ?_
  intro p e s m args below meth c ls hsz F hml hr hk hl h
  subst hsz
  have E1 := F.1
  have E2 := F.2.1
  have hl : lv_has ls 2 [(0, .long v)] := hl
  refine lv_lload_n E1 E2 d_Mo_costOf_0 rfl (lv_at hl 0 rfl) ?_
  refine lv_bipush (v := 24) E1 E2 d_Mo_costOf_1 (by decide) ?_
  refine lv_lshr (v := v >>> (Int32.toInt64 24 &&& 63)) E1 E2 d_Mo_costOf_3 rfl ?_
  refine lv_l2i (v := Int64.toInt32 (v >>> (Int32.toInt64 24 &&& 63))) E1 E2 d_Mo_costOf_4 rfl ?_
  refine lv_ldc (own := "BridgeNetModel") E1 E2 F.2.2.1 (F.2.2.2.1 _ k_839) d_Mo_costOf_5 ?_
  refine lv_iand E1 E2 d_Mo_costOf_7 ?_
  have hq : r_Mo_costOf N v = (Int64.toInt32 (v >>> (Int32.toInt64 24 &&& 63))) &&& 65535 := rfl
  exact bn_reti F hr hk h hq.symm rfl d_Mo_costOf_8
def r_Mo_teller (N : bn_S) (v : Int64) : Int32 := (Int64.toInt32 v) &&& 16777215
set_option maxHeartbeats 4000000 in
set_option maxRecDepth 100000 in
theorem c_Mo_teller (l : Launch) (D : va_G) (ar : Nat → ClassId) (ad : Nat → Nat → Nat) (N : bn_S) (v : Int64) : bn_I l y_Mo_teller w_Mo_teller { frames := 0, cells := 0, slots := 0, locals := 0 } (mo_y D ar ad) N [.long v] (r_Mo_teller N v) N := by
  intro sz
  refine bn_start (cc := b_Mo_teller) (maxL := 2) (ret := (Option.some Jvm.ClassFile.FieldType.int)) (by decide) rfl (Nat.le_of_ble_eq_true rfl) ?_
  intro p e s m args below meth c ls hsz F hml hr hk hl h
  subst hsz
  have E1 := F.1
  have E2 := F.2.1
  have hl : lv_has ls 2 [(0, .long v)] := hl
  refine lv_lload_n E1 E2 d_Mo_teller_0 rfl (lv_at hl 0 rfl) ?_
  refine lv_l2i (v := Int64.toInt32 v) E1 E2 d_Mo_teller_1 rfl ?_
  refine lv_ldc (own := "BridgeNetModel") E1 E2 F.2.2.1 (F.2.2.2.1 _ k_851) d_Mo_teller_2 ?_
  refine lv_iand E1 E2 d_Mo_teller_4 ?_
  have hq : r_Mo_teller N v = (Int64.toInt32 v) &&& 16777215 := rfl
  exact bn_reti F hr hk h hq.symm rfl d_Mo_teller_5
def r_Mo_wouldTell (N : bn_S) (x : Nat) : Int64 := r_Mo_vector N (Int32.toInt64 (r_Mo_rootOf N (N.2.2.1 22 (x / 4)))) (Int32.toInt64 (r_Mo_costOf N (N.2.2.1 22 (x / 4)))) (Int32.toInt64 (r_Mo_id N (x / 4))) (Int32.toInt64 (nI (x % 4)))
set_option maxHeartbeats 4000000 in
set_option maxRecDepth 100000 in
theorem c_Mo_wouldTell (l : Launch) (D : va_G) (ar : Nat → ClassId) (ad : Nat → Nat → Nat) (N : bn_S)  (x : Nat) (hx : x < 20) : bn_L l y_Mo_wouldTell w_Mo_wouldTell { frames := 1, cells := 0, slots := 0, locals := 27 } (mo_y D ar ad) N [.ref (ad 0 0), .int (nI x)] (r_Mo_wouldTell N x) N := by
  intro sz
  refine bn_start (cc := b_Mo_wouldTell) (maxL := 3) (ret := (Option.some Jvm.ClassFile.FieldType.long)) (by decide) rfl (Nat.le_of_ble_eq_true rfl) ?_
  intro p e s m args below meth c ls hsz F hml hr hk hl h
  subst hsz
  have E1 := F.1
  have E2 := F.2.1
  have hl : lv_has ls 3 [(0, .ref (ad 0 0)), (1, .int (nI x))] := hl
  refine lv_iload_n E1 E2 d_Mo_wouldTell_0 rfl (lv_at hl 1 rfl) ?_
  refine lv_iconst (v := 4) E1 E2 d_Mo_wouldTell_1 (by decide) ?_
  refine lv_idiv E1 E2 d_Mo_wouldTell_2 (by decide) ?_
  refine bn_ti (y := nI (x / 4)) (pk_div (a := x) (d := 4) (by omega) (by omega) (by omega)) ?_
  refine lv_istore_n E1 E2 d_Mo_wouldTell_3 rfl hl (by decide) rfl (fun ls hl => ?_)
  have hl : lv_has ls 3 [(2, .int (nI (x / 4))), (0, .ref (ad 0 0)), (1, .int (nI x))] := hl
  refine lv_aload_n E1 E2 d_Mo_wouldTell_4 rfl (lv_at hl 1 rfl) ?_
  refine g_Mo_best F h k_724 d_Mo_wouldTell_5 ?_
  refine lv_iload_n E1 E2 d_Mo_wouldTell_8 rfl (lv_at hl 0 rfl) ?_
  refine ml_best F h (i := x / 4) (by omega) (v := N.2.2.1 22 (x / 4)) rfl d_Mo_wouldTell_9 ?_
  refine bn_calli F h (bn_runS (n := 1) (As := [.long (N.2.2.1 22 (x / 4))]) (rest := []) F hml hl.1 h (c_Mo_rootOf l D ar ad N (N.2.2.1 22 (x / 4)) _) (bn_goodS k_833 k_834 k_7 k_835) rfl rfl (by decide) ⟨by decide, by decide⟩ rfl rfl (Nat.le_of_ble_eq_true rfl) d_Mo_wouldTell_10 ⟨Nat.zero_le _, Nat.zero_le _⟩) (fun H locs h => ?_)
  refine lv_i2l (v := Int32.toInt64 (r_Mo_rootOf N (N.2.2.1 22 (x / 4)))) E1 E2 d_Mo_wouldTell_13 rfl ?_
  refine lv_aload_n E1 E2 d_Mo_wouldTell_14 rfl (lv_at hl 1 rfl) ?_
  refine g_Mo_best F h k_724 d_Mo_wouldTell_15 ?_
  refine lv_iload_n E1 E2 d_Mo_wouldTell_18 rfl (lv_at hl 0 rfl) ?_
  refine ml_best F h (i := x / 4) (by omega) (v := N.2.2.1 22 (x / 4)) rfl d_Mo_wouldTell_19 ?_
  refine bn_calli F h (bn_runS (n := 1) (As := [.long (N.2.2.1 22 (x / 4))]) (rest := [.long (Int32.toInt64 (r_Mo_rootOf N (N.2.2.1 22 (x / 4))))]) F hml hl.1 h (c_Mo_costOf l D ar ad N (N.2.2.1 22 (x / 4)) _) (bn_goodS k_836 k_837 k_7 k_838) rfl rfl (by decide) ⟨by decide, by decide⟩ rfl rfl (Nat.le_of_ble_eq_true rfl) d_Mo_wouldTell_20 ⟨Nat.zero_le _, Nat.zero_le _⟩) (fun H locs h => ?_)
  refine lv_i2l (v := Int32.toInt64 (r_Mo_costOf N (N.2.2.1 22 (x / 4)))) E1 E2 d_Mo_wouldTell_23 rfl ?_
  refine lv_aload_n E1 E2 d_Mo_wouldTell_24 rfl (lv_at hl 1 rfl) ?_
  refine lv_iload_n E1 E2 d_Mo_wouldTell_25 rfl (lv_at hl 0 rfl) ?_
  refine bn_calli F h (bn_runV (n := 1) (As := [.int (nI (x / 4))]) (rest := [.long (Int32.toInt64 (r_Mo_costOf N (N.2.2.1 22 (x / 4)))), .long (Int32.toInt64 (r_Mo_rootOf N (N.2.2.1 22 (x / 4))))]) F hml hl.1 h mi_0 rfl rfl (c_Mo_id l D ar ad N (x / 4) (by omega) _) (bn_goodV k_844 k_846 ks_Mo_id k_7 k_847) rfl rfl (by decide) ⟨by decide, by decide⟩ rfl rfl (Nat.le_of_ble_eq_true rfl) d_Mo_wouldTell_26 ⟨Nat.zero_le _, Nat.zero_le _⟩) (fun H locs h => ?_)
  refine lv_i2l (v := Int32.toInt64 (r_Mo_id N (x / 4))) E1 E2 d_Mo_wouldTell_29 rfl ?_
  refine lv_iload_n E1 E2 d_Mo_wouldTell_30 rfl (lv_at hl 2 rfl) ?_
  refine lv_iconst (v := 4) E1 E2 d_Mo_wouldTell_31 (by decide) ?_
  refine lv_irem E1 E2 d_Mo_wouldTell_32 (by decide) ?_
  refine bn_ti (y := nI (x % 4)) (pk_rem (a := x) (d := 4) (by omega) (by omega) (by omega)) ?_
  refine lv_i2l (v := Int32.toInt64 (nI (x % 4))) E1 E2 d_Mo_wouldTell_33 rfl ?_
  refine bn_calll F h (bn_runS (n := 4) (As := [.long (Int32.toInt64 (r_Mo_rootOf N (N.2.2.1 22 (x / 4)))), .long (Int32.toInt64 (r_Mo_costOf N (N.2.2.1 22 (x / 4)))), .long (Int32.toInt64 (r_Mo_id N (x / 4))), .long (Int32.toInt64 (nI (x % 4)))]) (rest := []) F hml hl.1 h (c_Mo_vector l D ar ad N (Int32.toInt64 (r_Mo_rootOf N (N.2.2.1 22 (x / 4)))) (Int32.toInt64 (r_Mo_costOf N (N.2.2.1 22 (x / 4)))) (Int32.toInt64 (r_Mo_id N (x / 4))) (Int32.toInt64 (nI (x % 4))) _) (bn_goodS k_698 k_699 k_7 k_700) rfl rfl (by decide) ⟨by decide, by decide⟩ rfl rfl (Nat.le_of_ble_eq_true rfl) d_Mo_wouldTell_34 ⟨Nat.zero_le _, Nat.zero_le _⟩) (fun H locs h => ?_)
  have hq : r_Mo_wouldTell N x = r_Mo_vector N (Int32.toInt64 (r_Mo_rootOf N (N.2.2.1 22 (x / 4)))) (Int32.toInt64 (r_Mo_costOf N (N.2.2.1 22 (x / 4)))) (Int32.toInt64 (r_Mo_id N (x / 4))) (Int32.toInt64 (nI (x % 4))) := rfl
  exact bn_retl F hr hk h hq.symm rfl d_Mo_wouldTell_37
def r_Mo_has (N : bn_S) (x : Nat) (v : Int32) : Int32 := (if (N.1 3 x) &&& v = 0 then 0 else 1)
set_option maxHeartbeats 4000000 in
set_option maxRecDepth 100000 in
theorem c_Mo_has (l : Launch) (D : va_G) (ar : Nat → ClassId) (ad : Nat → Nat → Nat) (N : bn_S)  (x : Nat) (hx : x < 20) (v : Int32) : bn_I l y_Mo_has w_Mo_has { frames := 0, cells := 0, slots := 0, locals := 0 } (mo_y D ar ad) N [.ref (ad 0 0), .int (nI x), .int v] (r_Mo_has N x v) N := by
  intro sz
  refine bn_start (cc := b_Mo_has) (maxL := 3) (ret := (Option.some Jvm.ClassFile.FieldType.boolean)) (by decide) rfl (Nat.le_of_ble_eq_true rfl) ?_
  intro p e s m args below meth c ls hsz F hml hr hk hl h
  subst hsz
  have E1 := F.1
  have E2 := F.2.1
  have hl : lv_has ls 3 [(0, .ref (ad 0 0)), (1, .int (nI x)), (2, .int v)] := hl
  refine lv_aload_n E1 E2 d_Mo_has_0 rfl (lv_at hl 0 rfl) ?_
  refine g_Mo_vlans F h k_705 d_Mo_has_1 ?_
  refine lv_iload_n E1 E2 d_Mo_has_4 rfl (lv_at hl 1 rfl) ?_
  refine ml_vlans F h (i := x) (by omega) (v := N.1 3 x) rfl d_Mo_has_5 ?_
  refine lv_iload_n E1 E2 d_Mo_has_6 rfl (lv_at hl 2 rfl) ?_
  refine lv_iand E1 E2 d_Mo_has_7 ?_
  refine lv_if_eq E1 E2 d_Mo_has_8 rfl (fun h1 => ?_) (fun h1 => ?_)
  · have h1 : (N.1 3 x) &&& v = 0 := h1
    refine lv_iconst (v := 0) E1 E2 d_Mo_has_15 (by decide) ?_
    have hq : r_Mo_has N x v = 0 := if_pos h1
    exact bn_retz F hr rfl hk h hq.symm rfl d_Mo_has_16
  · have h1 : ¬ ((N.1 3 x) &&& v = 0) := h1
    refine lv_iconst (v := 1) E1 E2 d_Mo_has_11 (by decide) ?_
    refine lv_goto E1 E2 d_Mo_has_12 rfl ?_
    have hq : r_Mo_has N x v = 1 := if_neg h1
    exact bn_retz F hr rfl hk h hq.symm rfl d_Mo_has_16
def r_Mo_roleOf (N : bn_S) (x : Nat) : Int32 := (if (N.2.1 4 x) = 0 then 0 else (if (N.2.1 4 x) < 100 then (if N.1 24 (x / 4) = nI x then 1 else (if N.1 12 x = 0 then 2 else (if (N.2.2.1 10 x) ≤ (r_Mo_wouldTell N x) then 3 else 2))) else 2))
set_option maxHeartbeats 4000000 in
set_option maxRecDepth 100000 in
theorem c_Mo_roleOf (l : Launch) (D : va_G) (ar : Nat → ClassId) (ad : Nat → Nat → Nat) (N : bn_S)  (x : Nat) (hx : x < 20) : bn_I l y_Mo_roleOf w_Mo_roleOf { frames := 2, cells := 0, slots := 0, locals := 49 } (mo_y D ar ad) N [.ref (ad 0 0), .int (nI x)] (r_Mo_roleOf N x) N := by
  intro sz
  refine bn_start (cc := b_Mo_roleOf) (maxL := 2) (ret := (Option.some Jvm.ClassFile.FieldType.int)) (by decide) rfl (Nat.le_of_ble_eq_true rfl) ?_
  intro p e s m args below meth c ls hsz F hml hr hk hl h
  subst hsz
  have E1 := F.1
  have E2 := F.2.1
  have hl : lv_has ls 2 [(0, .ref (ad 0 0)), (1, .int (nI x))] := hl
  refine lv_aload_n E1 E2 d_Mo_roleOf_0 rfl (lv_at hl 0 rfl) ?_
  refine g_Mo_joined F h k_706 d_Mo_roleOf_1 ?_
  refine lv_iload_n E1 E2 d_Mo_roleOf_4 rfl (lv_at hl 1 rfl) ?_
  refine ml_joined F h (i := x) (by omega) (v := N.2.1 4 x) rfl d_Mo_roleOf_5 ?_
  have hwjoined : N.2.1 4 x < 108 := mw_joined h.2.2.2 x
  refine lv_if_ne E1 E2 d_Mo_roleOf_6 rfl (fun h1 => ?_) (fun h1 => ?_)
  · have h1 : ¬ ((N.2.1 4 x) = 0) := (fun hw => h1 ((nI_eq (a := N.2.1 4 x) (b := 0) (by omega) (by omega)).mpr hw))
    refine lv_aload_n E1 E2 d_Mo_roleOf_11 rfl (lv_at hl 0 rfl) ?_
    refine g_Mo_joined F h k_706 d_Mo_roleOf_12 ?_
    refine lv_iload_n E1 E2 d_Mo_roleOf_15 rfl (lv_at hl 1 rfl) ?_
    refine ml_joined F h (i := x) (by omega) (v := N.2.1 4 x) rfl d_Mo_roleOf_16 ?_
    refine lv_bipush (v := 100) E1 E2 d_Mo_roleOf_17 (by decide) ?_
    have hwjoined : N.2.1 4 x < 108 := mw_joined h.2.2.2 x
    refine lv_icmp_lt E1 E2 d_Mo_roleOf_19 rfl (fun h2 => ?_) (fun h2 => ?_)
    · have h2 : (N.2.1 4 x) < 100 := ((nI_ltI (a := N.2.1 4 x) (b := 100) (by omega) (by omega)).mp h2)
      refine lv_aload_n E1 E2 d_Mo_roleOf_24 rfl (lv_at hl 0 rfl) ?_
      refine g_Mo_rootPort F h k_726 d_Mo_roleOf_25 ?_
      refine lv_iload_n E1 E2 d_Mo_roleOf_28 rfl (lv_at hl 1 rfl) ?_
      refine lv_iconst (v := 4) E1 E2 d_Mo_roleOf_29 (by decide) ?_
      refine lv_idiv E1 E2 d_Mo_roleOf_30 (by decide) ?_
      refine bn_ti (y := nI (x / 4)) (pk_div (a := x) (d := 4) (by omega) (by omega) (by omega)) ?_
      refine ml_rootPort F h (i := x / 4) (by omega) (v := N.1 24 (x / 4)) rfl d_Mo_roleOf_31 ?_
      refine lv_iload_n E1 E2 d_Mo_roleOf_32 rfl (lv_at hl 1 rfl) ?_
      refine lv_icmp_ne E1 E2 d_Mo_roleOf_33 rfl (fun h3 => ?_) (fun h3 => ?_)
      · have h3 : ¬ (N.1 24 (x / 4) = nI x) := h3
        refine lv_aload_n E1 E2 d_Mo_roleOf_38 rfl (lv_at hl 0 rfl) ?_
        refine g_Mo_life F h k_714 d_Mo_roleOf_39 ?_
        refine lv_iload_n E1 E2 d_Mo_roleOf_42 rfl (lv_at hl 1 rfl) ?_
        refine ml_life F h (i := x) (by omega) (v := N.1 12 x) rfl d_Mo_roleOf_43 ?_
        refine lv_if_eq E1 E2 d_Mo_roleOf_44 rfl (fun h4 => ?_) (fun h4 => ?_)
        · have h4 : N.1 12 x = 0 := h4
          refine lv_iconst (v := 2) E1 E2 d_Mo_roleOf_62 (by decide) ?_
          refine lv_goto E1 E2 d_Mo_roleOf_63 rfl ?_
          have hq : r_Mo_roleOf N x = 2 := Eq.trans (if_neg h1) (Eq.trans (if_pos h2) (Eq.trans (if_neg h3) (if_pos h4)))
          exact bn_reti F hr hk h hq.symm rfl d_Mo_roleOf_67
        · have h4 : ¬ (N.1 12 x = 0) := h4
          refine lv_aload_n E1 E2 d_Mo_roleOf_47 rfl (lv_at hl 0 rfl) ?_
          refine lv_iload_n E1 E2 d_Mo_roleOf_48 rfl (lv_at hl 1 rfl) ?_
          refine bn_calll F h (bn_runV (n := 1) (As := [.int (nI x)]) (rest := []) F hml hl.1 h mi_0 rfl rfl (c_Mo_wouldTell l D ar ad N x (by omega) _) (bn_goodV k_856 k_858 ks_Mo_wouldTell k_7 k_859) rfl rfl (by decide) ⟨by decide, by decide⟩ rfl rfl (Nat.le_of_ble_eq_true rfl) d_Mo_roleOf_49 ⟨Nat.zero_le _, Nat.zero_le _⟩) (fun H locs h => ?_)
          refine lv_aload_n E1 E2 d_Mo_roleOf_52 rfl (lv_at hl 0 rfl) ?_
          refine g_Mo_info F h k_712 d_Mo_roleOf_53 ?_
          refine lv_iload_n E1 E2 d_Mo_roleOf_56 rfl (lv_at hl 1 rfl) ?_
          refine ml_info F h (i := x) (by omega) (v := N.2.2.1 10 x) rfl d_Mo_roleOf_57 ?_
          refine W.lcmp E1 E2 d_Mo_roleOf_58 ?_
          refine lv_if_ge E1 E2 d_Mo_roleOf_59 rfl (fun h5 => ?_) (fun h5 => ?_)
          · have h5 : (N.2.2.1 10 x) ≤ (r_Mo_wouldTell N x) := ((lg_cmp_ge _ _).mp h5)
            refine lv_iconst (v := 3) E1 E2 d_Mo_roleOf_66 (by decide) ?_
            have hq : r_Mo_roleOf N x = 3 := Eq.trans (if_neg h1) (Eq.trans (if_pos h2) (Eq.trans (if_neg h3) (Eq.trans (if_neg h4) (if_pos h5))))
            exact bn_reti F hr hk h hq.symm rfl d_Mo_roleOf_67
          · have h5 : ¬ ((N.2.2.1 10 x) ≤ (r_Mo_wouldTell N x)) := (fun hw => h5 ((lg_cmp_ge _ _).mpr hw))
            refine lv_iconst (v := 2) E1 E2 d_Mo_roleOf_62 (by decide) ?_
            refine lv_goto E1 E2 d_Mo_roleOf_63 rfl ?_
            have hq : r_Mo_roleOf N x = 2 := Eq.trans (if_neg h1) (Eq.trans (if_pos h2) (Eq.trans (if_neg h3) (Eq.trans (if_neg h4) (if_neg h5))))
            exact bn_reti F hr hk h hq.symm rfl d_Mo_roleOf_67
      · have h3 : N.1 24 (x / 4) = nI x := h3
        refine lv_iconst (v := 1) E1 E2 d_Mo_roleOf_36 (by decide) ?_
        have hq : r_Mo_roleOf N x = 1 := Eq.trans (if_neg h1) (Eq.trans (if_pos h2) (if_pos h3))
        exact bn_reti F hr hk h hq.symm rfl d_Mo_roleOf_37
    · have h2 : ¬ ((N.2.1 4 x) < 100) := (fun hw => h2 ((nI_ltI (a := N.2.1 4 x) (b := 100) (by omega) (by omega)).mpr hw))
      refine lv_iconst (v := 2) E1 E2 d_Mo_roleOf_22 (by decide) ?_
      have hq : r_Mo_roleOf N x = 2 := Eq.trans (if_neg h1) (if_neg h2)
      exact bn_reti F hr hk h hq.symm rfl d_Mo_roleOf_23
  · have h1 : (N.2.1 4 x) = 0 := ((nI_eq (a := N.2.1 4 x) (b := 0) (by omega) (by omega)).mp h1)
    refine lv_iconst (v := 0) E1 E2 d_Mo_roleOf_9 (by decide) ?_
    have hq : r_Mo_roleOf N x = 0 := if_pos h1
    exact bn_reti F hr hk h hq.symm rfl d_Mo_roleOf_10
def o_Mo_take (N : bn_S) (x : Nat) (r : Int32) : bn_S := (if r = 2 then (if r_Mo_isLinked (sU (sI N 5 x r) 8 x 0) x = 0 then (if r = 1 then (sI (sI (sU (sU (sI N 5 x r) 8 x 0) 7 x 0) 9 x 0) 6 x 2) else (if r_Mo_isLinked (sI (sU (sU (sI N 5 x r) 8 x 0) 7 x 0) 9 x 0) x = 0 then (sI (sI (sU (sU (sI N 5 x r) 8 x 0) 7 x 0) 9 x 0) 6 x 2) else (sI (sI (sU (sU (sI N 5 x r) 8 x 0) 7 x 0) 9 x 0) 6 x 0))) else (if r = 1 then (sI (sI (sU (sU (sI N 5 x r) 8 x 0) 7 x 1) 9 x 4) 6 x 2) else (if r_Mo_isLinked (sI (sU (sU (sI N 5 x r) 8 x 0) 7 x 1) 9 x 4) x = 0 then (sI (sI (sU (sU (sI N 5 x r) 8 x 0) 7 x 1) 9 x 4) 6 x 2) else (sI (sI (sU (sU (sI N 5 x r) 8 x 0) 7 x 1) 9 x 4) 6 x 0)))) else (if r = 1 then (sI (sI (sU (sU (sI N 5 x r) 8 x 0) 7 x 0) 9 x 0) 6 x 2) else (sI (sI (sU (sU (sI N 5 x r) 8 x 0) 7 x 0) 9 x 0) 6 x 0)))
set_option maxHeartbeats 4000000 in
set_option maxRecDepth 100000 in
theorem c_Mo_take (l : Launch) (D : va_G) (ar : Nat → ClassId) (ad : Nat → Nat → Nat) (N : bn_S)  (x : Nat) (hx : x < 20) (r : Int32) : bn_V l y_Mo_take w_Mo_take { frames := 1, cells := 0, slots := 0, locals := 21 } (mo_y D ar ad) N [.ref (ad 0 0), .int (nI x), .int r] (o_Mo_take N x r) := by
  intro sz
  refine bn_start (cc := b_Mo_take) (maxL := 3) (ret := (Option.none : Option Jvm.ClassFile.FieldType)) (by decide) rfl (Nat.le_of_ble_eq_true rfl) ?_
  intro p e s m args below meth c ls hsz F hml hr hk hl h
  subst hsz
  have E1 := F.1
  have E2 := F.2.1
  have hl : lv_has ls 3 [(0, .ref (ad 0 0)), (1, .int (nI x)), (2, .int r)] := hl
  refine lv_aload_n E1 E2 d_Mo_take_0 rfl (lv_at hl 0 rfl) ?_
  refine g_Mo_role F h k_707 d_Mo_take_1 ?_
  refine lv_iload_n E1 E2 d_Mo_take_4 rfl (lv_at hl 1 rfl) ?_
  refine lv_iload_n E1 E2 d_Mo_take_5 rfl (lv_at hl 2 rfl) ?_
  refine ms_role F h (i := x) (by omega) (v := r) d_Mo_take_6 (fun H locs h => ?_)
  have h : bn_H (mo_y D ar ad) s.heap H locs (sI N 5 x r) := h
  refine lv_aload_n E1 E2 d_Mo_take_7 rfl (lv_at hl 0 rfl) ?_
  refine g_Mo_agreed F h k_710 d_Mo_take_8 ?_
  refine lv_iload_n E1 E2 d_Mo_take_11 rfl (lv_at hl 1 rfl) ?_
  refine lv_iconst (v := 0) E1 E2 d_Mo_take_12 (by decide) ?_
  refine ms_agreed F h (i := x) (by omega) (v := 0) (by omega) d_Mo_take_13 (fun H locs h => ?_)
  have h : bn_H (mo_y D ar ad) s.heap H locs (sU (sI N 5 x r) 8 x 0) := h
  refine lv_aload_n E1 E2 d_Mo_take_14 rfl (lv_at hl 0 rfl) ?_
  refine g_Mo_proposing F h k_709 d_Mo_take_15 ?_
  refine lv_iload_n E1 E2 d_Mo_take_18 rfl (lv_at hl 1 rfl) ?_
  refine lv_iload_n E1 E2 d_Mo_take_19 rfl (lv_at hl 2 rfl) ?_
  refine lv_iconst (v := 2) E1 E2 d_Mo_take_20 (by decide) ?_
  refine lv_icmp_ne E1 E2 d_Mo_take_21 rfl (fun h1 => ?_) (fun h1 => ?_)
  · have h1 : ¬ (r = 2) := h1
    refine lv_iconst (v := 0) E1 E2 d_Mo_take_36 (by decide) ?_
    refine ms_proposing F h (i := x) (by omega) (v := 0) (by omega) d_Mo_take_37 (fun H locs h => ?_)
    have h : bn_H (mo_y D ar ad) s.heap H locs (sU (sU (sI N 5 x r) 8 x 0) 7 x 0) := h
    refine lv_aload_n E1 E2 d_Mo_take_38 rfl (lv_at hl 0 rfl) ?_
    refine g_Mo_waits F h k_711 d_Mo_take_39 ?_
    refine lv_iload_n E1 E2 d_Mo_take_42 rfl (lv_at hl 1 rfl) ?_
    refine lv_aload_n E1 E2 d_Mo_take_43 rfl (lv_at hl 0 rfl) ?_
    refine g_Mo_proposing F h k_709 d_Mo_take_44 ?_
    refine lv_iload_n E1 E2 d_Mo_take_47 rfl (lv_at hl 1 rfl) ?_
    refine ml_proposing F h (i := x) (by omega) (v := 0) (bn_up_s (sU (sI N 5 x r) 8 x 0).2.1 7 x 0) d_Mo_take_48 ?_
    refine lv_if_eq E1 E2 d_Mo_take_49 rfl (fun _ => ?_) (fun hz => absurd ((nI_eq (a := 0) (b := 0) (by omega) (by omega)).mpr (by omega)) hz)
    refine lv_iconst (v := 0) E1 E2 d_Mo_take_56 (by decide) ?_
    refine ms_waits F h (i := x) (by omega) (v := 0) d_Mo_take_57 (fun H locs h => ?_)
    have h : bn_H (mo_y D ar ad) s.heap H locs (sI (sU (sU (sI N 5 x r) 8 x 0) 7 x 0) 9 x 0) := h
    refine lv_aload_n E1 E2 d_Mo_take_58 rfl (lv_at hl 0 rfl) ?_
    refine g_Mo_state F h k_708 d_Mo_take_59 ?_
    refine lv_iload_n E1 E2 d_Mo_take_62 rfl (lv_at hl 1 rfl) ?_
    refine lv_iload_n E1 E2 d_Mo_take_63 rfl (lv_at hl 2 rfl) ?_
    refine lv_iconst (v := 1) E1 E2 d_Mo_take_64 (by decide) ?_
    refine lv_icmp_eq E1 E2 d_Mo_take_65 rfl (fun h2 => ?_) (fun h2 => ?_)
    · have h2 : r = 1 := h2
      refine lv_iconst (v := 2) E1 E2 d_Mo_take_81 (by decide) ?_
      refine lv_goto E1 E2 d_Mo_take_82 rfl ?_
      refine ms_state F h (i := x) (by omega) (v := 2) d_Mo_take_86 (fun H locs h => ?_)
      have h : bn_H (mo_y D ar ad) s.heap H locs (sI (sI (sU (sU (sI N 5 x r) 8 x 0) 7 x 0) 9 x 0) 6 x 2) := h
      have hq : o_Mo_take N x r = (sI (sI (sU (sU (sI N 5 x r) 8 x 0) 7 x 0) 9 x 0) 6 x 2) := Eq.trans (if_neg h1) (if_pos h2)
      exact bn_retv F hr hk h hq.symm d_Mo_take_87
    · have h2 : ¬ (r = 1) := h2
      refine lv_iload_n E1 E2 d_Mo_take_68 rfl (lv_at hl 2 rfl) ?_
      refine lv_iconst (v := 2) E1 E2 d_Mo_take_69 (by decide) ?_
      refine lv_icmp_ne E1 E2 d_Mo_take_70 rfl (fun _ => ?_) (fun hz => absurd hz h1)
      refine lv_iconst (v := 0) E1 E2 d_Mo_take_85 (by decide) ?_
      refine ms_state F h (i := x) (by omega) (v := 0) d_Mo_take_86 (fun H locs h => ?_)
      have h : bn_H (mo_y D ar ad) s.heap H locs (sI (sI (sU (sU (sI N 5 x r) 8 x 0) 7 x 0) 9 x 0) 6 x 0) := h
      have hq : o_Mo_take N x r = (sI (sI (sU (sU (sI N 5 x r) 8 x 0) 7 x 0) 9 x 0) 6 x 0) := Eq.trans (if_neg h1) (if_neg h2)
      exact bn_retv F hr hk h hq.symm d_Mo_take_87
  · have h1 : r = 2 := h1
    refine lv_aload_n E1 E2 d_Mo_take_24 rfl (lv_at hl 0 rfl) ?_
    refine lv_iload_n E1 E2 d_Mo_take_25 rfl (lv_at hl 1 rfl) ?_
    refine bn_calli F h (bn_runV (n := 1) (As := [.int (nI x)]) (rest := [.int (nI x), .ref (ad 7 0)]) F hml hl.1 h mi_0 rfl rfl (c_Mo_isLinked l D ar ad (sU (sI N 5 x r) 8 x 0) x (by omega) _) (bn_goodV k_864 k_866 ks_Mo_isLinked k_7 k_867) rfl rfl (by decide) ⟨by decide, by decide⟩ rfl rfl (Nat.le_of_ble_eq_true rfl) d_Mo_take_26 ⟨Nat.zero_le _, Nat.zero_le _⟩) (fun H locs h => ?_)
    refine lv_if_eq E1 E2 d_Mo_take_29 rfl (fun h3 => ?_) (fun h3 => ?_)
    · have h3 : r_Mo_isLinked (sU (sI N 5 x r) 8 x 0) x = 0 := h3
      refine lv_iconst (v := 0) E1 E2 d_Mo_take_36 (by decide) ?_
      refine ms_proposing F h (i := x) (by omega) (v := 0) (by omega) d_Mo_take_37 (fun H locs h => ?_)
      have h : bn_H (mo_y D ar ad) s.heap H locs (sU (sU (sI N 5 x r) 8 x 0) 7 x 0) := h
      refine lv_aload_n E1 E2 d_Mo_take_38 rfl (lv_at hl 0 rfl) ?_
      refine g_Mo_waits F h k_711 d_Mo_take_39 ?_
      refine lv_iload_n E1 E2 d_Mo_take_42 rfl (lv_at hl 1 rfl) ?_
      refine lv_aload_n E1 E2 d_Mo_take_43 rfl (lv_at hl 0 rfl) ?_
      refine g_Mo_proposing F h k_709 d_Mo_take_44 ?_
      refine lv_iload_n E1 E2 d_Mo_take_47 rfl (lv_at hl 1 rfl) ?_
      refine ml_proposing F h (i := x) (by omega) (v := 0) (bn_up_s (sU (sI N 5 x r) 8 x 0).2.1 7 x 0) d_Mo_take_48 ?_
      refine lv_if_eq E1 E2 d_Mo_take_49 rfl (fun _ => ?_) (fun hz => absurd ((nI_eq (a := 0) (b := 0) (by omega) (by omega)).mpr (by omega)) hz)
      refine lv_iconst (v := 0) E1 E2 d_Mo_take_56 (by decide) ?_
      refine ms_waits F h (i := x) (by omega) (v := 0) d_Mo_take_57 (fun H locs h => ?_)
      have h : bn_H (mo_y D ar ad) s.heap H locs (sI (sU (sU (sI N 5 x r) 8 x 0) 7 x 0) 9 x 0) := h
      refine lv_aload_n E1 E2 d_Mo_take_58 rfl (lv_at hl 0 rfl) ?_
      refine g_Mo_state F h k_708 d_Mo_take_59 ?_
      refine lv_iload_n E1 E2 d_Mo_take_62 rfl (lv_at hl 1 rfl) ?_
      refine lv_iload_n E1 E2 d_Mo_take_63 rfl (lv_at hl 2 rfl) ?_
      refine lv_iconst (v := 1) E1 E2 d_Mo_take_64 (by decide) ?_
      refine lv_icmp_eq E1 E2 d_Mo_take_65 rfl (fun h4 => ?_) (fun h4 => ?_)
      · have h4 : r = 1 := h4
        refine lv_iconst (v := 2) E1 E2 d_Mo_take_81 (by decide) ?_
        refine lv_goto E1 E2 d_Mo_take_82 rfl ?_
        refine ms_state F h (i := x) (by omega) (v := 2) d_Mo_take_86 (fun H locs h => ?_)
        have h : bn_H (mo_y D ar ad) s.heap H locs (sI (sI (sU (sU (sI N 5 x r) 8 x 0) 7 x 0) 9 x 0) 6 x 2) := h
        have hq : o_Mo_take N x r = (sI (sI (sU (sU (sI N 5 x r) 8 x 0) 7 x 0) 9 x 0) 6 x 2) := Eq.trans (if_pos h1) (Eq.trans (if_pos h3) (if_pos h4))
        exact bn_retv F hr hk h hq.symm d_Mo_take_87
      · have h4 : ¬ (r = 1) := h4
        refine lv_iload_n E1 E2 d_Mo_take_68 rfl (lv_at hl 2 rfl) ?_
        refine lv_iconst (v := 2) E1 E2 d_Mo_take_69 (by decide) ?_
        refine lv_icmp_ne E1 E2 d_Mo_take_70 rfl (fun hz => absurd h1 hz) (fun _ => ?_)
        refine lv_aload_n E1 E2 d_Mo_take_73 rfl (lv_at hl 0 rfl) ?_
        refine lv_iload_n E1 E2 d_Mo_take_74 rfl (lv_at hl 1 rfl) ?_
        refine bn_calli F h (bn_runV (n := 1) (As := [.int (nI x)]) (rest := [.int (nI x), .ref (ad 6 0)]) F hml hl.1 h mi_0 rfl rfl (c_Mo_isLinked l D ar ad (sI (sU (sU (sI N 5 x r) 8 x 0) 7 x 0) 9 x 0) x (by omega) _) (bn_goodV k_864 k_866 ks_Mo_isLinked k_7 k_867) rfl rfl (by decide) ⟨by decide, by decide⟩ rfl rfl (Nat.le_of_ble_eq_true rfl) d_Mo_take_75 ⟨Nat.zero_le _, Nat.zero_le _⟩) (fun H locs h => ?_)
        refine lv_if_ne E1 E2 d_Mo_take_78 rfl (fun h5 => ?_) (fun h5 => ?_)
        · have h5 : ¬ (r_Mo_isLinked (sI (sU (sU (sI N 5 x r) 8 x 0) 7 x 0) 9 x 0) x = 0) := h5
          refine lv_iconst (v := 0) E1 E2 d_Mo_take_85 (by decide) ?_
          refine ms_state F h (i := x) (by omega) (v := 0) d_Mo_take_86 (fun H locs h => ?_)
          have h : bn_H (mo_y D ar ad) s.heap H locs (sI (sI (sU (sU (sI N 5 x r) 8 x 0) 7 x 0) 9 x 0) 6 x 0) := h
          have hq : o_Mo_take N x r = (sI (sI (sU (sU (sI N 5 x r) 8 x 0) 7 x 0) 9 x 0) 6 x 0) := Eq.trans (if_pos h1) (Eq.trans (if_pos h3) (Eq.trans (if_neg h4) (if_neg h5)))
          exact bn_retv F hr hk h hq.symm d_Mo_take_87
        · have h5 : r_Mo_isLinked (sI (sU (sU (sI N 5 x r) 8 x 0) 7 x 0) 9 x 0) x = 0 := h5
          refine lv_iconst (v := 2) E1 E2 d_Mo_take_81 (by decide) ?_
          refine lv_goto E1 E2 d_Mo_take_82 rfl ?_
          refine ms_state F h (i := x) (by omega) (v := 2) d_Mo_take_86 (fun H locs h => ?_)
          have h : bn_H (mo_y D ar ad) s.heap H locs (sI (sI (sU (sU (sI N 5 x r) 8 x 0) 7 x 0) 9 x 0) 6 x 2) := h
          have hq : o_Mo_take N x r = (sI (sI (sU (sU (sI N 5 x r) 8 x 0) 7 x 0) 9 x 0) 6 x 2) := Eq.trans (if_pos h1) (Eq.trans (if_pos h3) (Eq.trans (if_neg h4) (if_pos h5)))
          exact bn_retv F hr hk h hq.symm d_Mo_take_87
    · have h3 : ¬ (r_Mo_isLinked (sU (sI N 5 x r) 8 x 0) x = 0) := h3
      refine lv_iconst (v := 1) E1 E2 d_Mo_take_32 (by decide) ?_
      refine lv_goto E1 E2 d_Mo_take_33 rfl ?_
      refine ms_proposing F h (i := x) (by omega) (v := 1) (by omega) d_Mo_take_37 (fun H locs h => ?_)
      have h : bn_H (mo_y D ar ad) s.heap H locs (sU (sU (sI N 5 x r) 8 x 0) 7 x 1) := h
      refine lv_aload_n E1 E2 d_Mo_take_38 rfl (lv_at hl 0 rfl) ?_
      refine g_Mo_waits F h k_711 d_Mo_take_39 ?_
      refine lv_iload_n E1 E2 d_Mo_take_42 rfl (lv_at hl 1 rfl) ?_
      refine lv_aload_n E1 E2 d_Mo_take_43 rfl (lv_at hl 0 rfl) ?_
      refine g_Mo_proposing F h k_709 d_Mo_take_44 ?_
      refine lv_iload_n E1 E2 d_Mo_take_47 rfl (lv_at hl 1 rfl) ?_
      refine ml_proposing F h (i := x) (by omega) (v := 1) (bn_up_s (sU (sI N 5 x r) 8 x 0).2.1 7 x 1) d_Mo_take_48 ?_
      refine lv_if_eq E1 E2 d_Mo_take_49 rfl (fun hz => absurd ((nI_eq (a := 1) (b := 0) (by omega) (by omega)).mp hz) (by omega)) (fun _ => ?_)
      refine lv_iconst (v := 4) E1 E2 d_Mo_take_52 (by decide) ?_
      refine lv_goto E1 E2 d_Mo_take_53 rfl ?_
      refine ms_waits F h (i := x) (by omega) (v := 4) d_Mo_take_57 (fun H locs h => ?_)
      have h : bn_H (mo_y D ar ad) s.heap H locs (sI (sU (sU (sI N 5 x r) 8 x 0) 7 x 1) 9 x 4) := h
      refine lv_aload_n E1 E2 d_Mo_take_58 rfl (lv_at hl 0 rfl) ?_
      refine g_Mo_state F h k_708 d_Mo_take_59 ?_
      refine lv_iload_n E1 E2 d_Mo_take_62 rfl (lv_at hl 1 rfl) ?_
      refine lv_iload_n E1 E2 d_Mo_take_63 rfl (lv_at hl 2 rfl) ?_
      refine lv_iconst (v := 1) E1 E2 d_Mo_take_64 (by decide) ?_
      refine lv_icmp_eq E1 E2 d_Mo_take_65 rfl (fun h6 => ?_) (fun h6 => ?_)
      · have h6 : r = 1 := h6
        refine lv_iconst (v := 2) E1 E2 d_Mo_take_81 (by decide) ?_
        refine lv_goto E1 E2 d_Mo_take_82 rfl ?_
        refine ms_state F h (i := x) (by omega) (v := 2) d_Mo_take_86 (fun H locs h => ?_)
        have h : bn_H (mo_y D ar ad) s.heap H locs (sI (sI (sU (sU (sI N 5 x r) 8 x 0) 7 x 1) 9 x 4) 6 x 2) := h
        have hq : o_Mo_take N x r = (sI (sI (sU (sU (sI N 5 x r) 8 x 0) 7 x 1) 9 x 4) 6 x 2) := Eq.trans (if_pos h1) (Eq.trans (if_neg h3) (if_pos h6))
        exact bn_retv F hr hk h hq.symm d_Mo_take_87
      · have h6 : ¬ (r = 1) := h6
        refine lv_iload_n E1 E2 d_Mo_take_68 rfl (lv_at hl 2 rfl) ?_
        refine lv_iconst (v := 2) E1 E2 d_Mo_take_69 (by decide) ?_
        refine lv_icmp_ne E1 E2 d_Mo_take_70 rfl (fun hz => absurd h1 hz) (fun _ => ?_)
        refine lv_aload_n E1 E2 d_Mo_take_73 rfl (lv_at hl 0 rfl) ?_
        refine lv_iload_n E1 E2 d_Mo_take_74 rfl (lv_at hl 1 rfl) ?_
        refine bn_calli F h (bn_runV (n := 1) (As := [.int (nI x)]) (rest := [.int (nI x), .ref (ad 6 0)]) F hml hl.1 h mi_0 rfl rfl (c_Mo_isLinked l D ar ad (sI (sU (sU (sI N 5 x r) 8 x 0) 7 x 1) 9 x 4) x (by omega) _) (bn_goodV k_864 k_866 ks_Mo_isLinked k_7 k_867) rfl rfl (by decide) ⟨by decide, by decide⟩ rfl rfl (Nat.le_of_ble_eq_true rfl) d_Mo_take_75 ⟨Nat.zero_le _, Nat.zero_le _⟩) (fun H locs h => ?_)
        refine lv_if_ne E1 E2 d_Mo_take_78 rfl (fun h7 => ?_) (fun h7 => ?_)
        · have h7 : ¬ (r_Mo_isLinked (sI (sU (sU (sI N 5 x r) 8 x 0) 7 x 1) 9 x 4) x = 0) := h7
          refine lv_iconst (v := 0) E1 E2 d_Mo_take_85 (by decide) ?_
          refine ms_state F h (i := x) (by omega) (v := 0) d_Mo_take_86 (fun H locs h => ?_)
          have h : bn_H (mo_y D ar ad) s.heap H locs (sI (sI (sU (sU (sI N 5 x r) 8 x 0) 7 x 1) 9 x 4) 6 x 0) := h
          have hq : o_Mo_take N x r = (sI (sI (sU (sU (sI N 5 x r) 8 x 0) 7 x 1) 9 x 4) 6 x 0) := Eq.trans (if_pos h1) (Eq.trans (if_neg h3) (Eq.trans (if_neg h6) (if_neg h7)))
          exact bn_retv F hr hk h hq.symm d_Mo_take_87
        · have h7 : r_Mo_isLinked (sI (sU (sU (sI N 5 x r) 8 x 0) 7 x 1) 9 x 4) x = 0 := h7
          refine lv_iconst (v := 2) E1 E2 d_Mo_take_81 (by decide) ?_
          refine lv_goto E1 E2 d_Mo_take_82 rfl ?_
          refine ms_state F h (i := x) (by omega) (v := 2) d_Mo_take_86 (fun H locs h => ?_)
          have h : bn_H (mo_y D ar ad) s.heap H locs (sI (sI (sU (sU (sI N 5 x r) 8 x 0) 7 x 1) 9 x 4) 6 x 2) := h
          have hq : o_Mo_take N x r = (sI (sI (sU (sU (sI N 5 x r) 8 x 0) 7 x 1) 9 x 4) 6 x 2) := Eq.trans (if_pos h1) (Eq.trans (if_neg h3) (Eq.trans (if_neg h6) (if_pos h7)))
          exact bn_retv F hr hk h hq.symm d_Mo_take_87
def o_Mo_copy (N : bn_S) (fr : Nat) (to : Nat) : bn_S := (sI (sU (sU (sU (sU (sI (sJ (sI N 14 to (N.1 14 fr)) 15 to (N.2.2.1 15 fr)) 16 to (N.1 16 fr)) 17 to (N.2.1 17 fr)) 18 to (N.2.1 18 fr)) 19 to (N.2.1 19 fr)) 20 to (N.2.1 20 fr)) 21 to (N.1 21 fr))
set_option maxHeartbeats 4000000 in
set_option maxRecDepth 100000 in
theorem c_Mo_copy (l : Launch) (D : va_G) (ar : Nat → ClassId) (ad : Nat → Nat → Nat) (N : bn_S)  (fr : Nat) (hfr : fr < 260) (to : Nat) (hto : to < 260) : bn_V l y_Mo_copy w_Mo_copy { frames := 0, cells := 0, slots := 0, locals := 0 } (mo_y D ar ad) N [.ref (ad 0 0), .int (nI fr), .int (nI to)] (o_Mo_copy N fr to) := by
  intro sz
  refine bn_start (cc := b_Mo_copy) (maxL := 3) (ret := (Option.none : Option Jvm.ClassFile.FieldType)) (by decide) rfl (Nat.le_of_ble_eq_true rfl) ?_
  intro p e s m args below meth c ls hsz F hml hr hk hl h
  subst hsz
  have E1 := F.1
  have E2 := F.2.1
  have hl : lv_has ls 3 [(0, .ref (ad 0 0)), (1, .int (nI fr)), (2, .int (nI to))] := hl
  refine lv_aload_n E1 E2 d_Mo_copy_0 rfl (lv_at hl 0 rfl) ?_
  refine g_Mo_kind F h k_716 d_Mo_copy_1 ?_
  refine lv_iload_n E1 E2 d_Mo_copy_4 rfl (lv_at hl 2 rfl) ?_
  refine lv_aload_n E1 E2 d_Mo_copy_5 rfl (lv_at hl 0 rfl) ?_
  refine g_Mo_kind F h k_716 d_Mo_copy_6 ?_
  refine lv_iload_n E1 E2 d_Mo_copy_9 rfl (lv_at hl 1 rfl) ?_
  refine ml_kind F h (i := fr) (by omega) (v := N.1 14 fr) rfl d_Mo_copy_10 ?_
  refine ms_kind F h (i := to) (by omega) (v := N.1 14 fr) d_Mo_copy_11 (fun H locs h => ?_)
  have h : bn_H (mo_y D ar ad) s.heap H locs (sI N 14 to (N.1 14 fr)) := h
  refine lv_aload_n E1 E2 d_Mo_copy_12 rfl (lv_at hl 0 rfl) ?_
  refine g_Mo_told F h k_717 d_Mo_copy_13 ?_
  refine lv_iload_n E1 E2 d_Mo_copy_16 rfl (lv_at hl 2 rfl) ?_
  refine lv_aload_n E1 E2 d_Mo_copy_17 rfl (lv_at hl 0 rfl) ?_
  refine g_Mo_told F h k_717 d_Mo_copy_18 ?_
  refine lv_iload_n E1 E2 d_Mo_copy_21 rfl (lv_at hl 1 rfl) ?_
  refine ml_told F h (i := fr) (by omega) (v := N.2.2.1 15 fr) rfl d_Mo_copy_22 ?_
  refine ms_told F h (i := to) (by omega) (v := N.2.2.1 15 fr) d_Mo_copy_23 (fun H locs h => ?_)
  have h : bn_H (mo_y D ar ad) s.heap H locs (sJ (sI N 14 to (N.1 14 fr)) 15 to (N.2.2.1 15 fr)) := h
  refine lv_aload_n E1 E2 d_Mo_copy_24 rfl (lv_at hl 0 rfl) ?_
  refine g_Mo_hop F h k_718 d_Mo_copy_25 ?_
  refine lv_iload_n E1 E2 d_Mo_copy_28 rfl (lv_at hl 2 rfl) ?_
  refine lv_aload_n E1 E2 d_Mo_copy_29 rfl (lv_at hl 0 rfl) ?_
  refine g_Mo_hop F h k_718 d_Mo_copy_30 ?_
  refine lv_iload_n E1 E2 d_Mo_copy_33 rfl (lv_at hl 1 rfl) ?_
  refine ml_hop F h (i := fr) (by omega) (v := N.1 16 fr) rfl d_Mo_copy_34 ?_
  refine ms_hop F h (i := to) (by omega) (v := N.1 16 fr) d_Mo_copy_35 (fun H locs h => ?_)
  have h : bn_H (mo_y D ar ad) s.heap H locs (sI (sJ (sI N 14 to (N.1 14 fr)) 15 to (N.2.2.1 15 fr)) 16 to (N.1 16 fr)) := h
  refine lv_aload_n E1 E2 d_Mo_copy_36 rfl (lv_at hl 0 rfl) ?_
  refine g_Mo_asks F h k_719 d_Mo_copy_37 ?_
  refine lv_iload_n E1 E2 d_Mo_copy_40 rfl (lv_at hl 2 rfl) ?_
  refine lv_aload_n E1 E2 d_Mo_copy_41 rfl (lv_at hl 0 rfl) ?_
  refine g_Mo_asks F h k_719 d_Mo_copy_42 ?_
  refine lv_iload_n E1 E2 d_Mo_copy_45 rfl (lv_at hl 1 rfl) ?_
  refine ml_asks F h (i := fr) (by omega) (v := N.2.1 17 fr) rfl d_Mo_copy_46 ?_
  have hwasks : N.2.1 17 fr < 2 := mw_asks h.2.2.2 fr
  refine ms_asks F h (i := to) (by omega) (v := N.2.1 17 fr) (by omega) d_Mo_copy_47 (fun H locs h => ?_)
  have h : bn_H (mo_y D ar ad) s.heap H locs (sU (sI (sJ (sI N 14 to (N.1 14 fr)) 15 to (N.2.2.1 15 fr)) 16 to (N.1 16 fr)) 17 to (N.2.1 17 fr)) := h
  refine lv_aload_n E1 E2 d_Mo_copy_48 rfl (lv_at hl 0 rfl) ?_
  refine g_Mo_source F h k_720 d_Mo_copy_49 ?_
  refine lv_iload_n E1 E2 d_Mo_copy_52 rfl (lv_at hl 2 rfl) ?_
  refine lv_aload_n E1 E2 d_Mo_copy_53 rfl (lv_at hl 0 rfl) ?_
  refine g_Mo_source F h k_720 d_Mo_copy_54 ?_
  refine lv_iload_n E1 E2 d_Mo_copy_57 rfl (lv_at hl 1 rfl) ?_
  refine ml_source F h (i := fr) (by omega) (v := N.2.1 18 fr) rfl d_Mo_copy_58 ?_
  have hwsource : N.2.1 18 fr < 8 := mw_source h.2.2.2 fr
  refine ms_source F h (i := to) (by omega) (v := N.2.1 18 fr) (by omega) d_Mo_copy_59 (fun H locs h => ?_)
  have h : bn_H (mo_y D ar ad) s.heap H locs (sU (sU (sI (sJ (sI N 14 to (N.1 14 fr)) 15 to (N.2.2.1 15 fr)) 16 to (N.1 16 fr)) 17 to (N.2.1 17 fr)) 18 to (N.2.1 18 fr)) := h
  refine lv_aload_n E1 E2 d_Mo_copy_60 rfl (lv_at hl 0 rfl) ?_
  refine g_Mo_destination F h k_721 d_Mo_copy_61 ?_
  refine lv_iload_n E1 E2 d_Mo_copy_64 rfl (lv_at hl 2 rfl) ?_
  refine lv_aload_n E1 E2 d_Mo_copy_65 rfl (lv_at hl 0 rfl) ?_
  refine g_Mo_destination F h k_721 d_Mo_copy_66 ?_
  refine lv_iload_n E1 E2 d_Mo_copy_69 rfl (lv_at hl 1 rfl) ?_
  refine ml_destination F h (i := fr) (by omega) (v := N.2.1 19 fr) rfl d_Mo_copy_70 ?_
  have hwdestination : N.2.1 19 fr < 10 := mw_destination h.2.2.2 fr
  refine ms_destination F h (i := to) (by omega) (v := N.2.1 19 fr) (by omega) d_Mo_copy_71 (fun H locs h => ?_)
  have h : bn_H (mo_y D ar ad) s.heap H locs (sU (sU (sU (sI (sJ (sI N 14 to (N.1 14 fr)) 15 to (N.2.2.1 15 fr)) 16 to (N.1 16 fr)) 17 to (N.2.1 17 fr)) 18 to (N.2.1 18 fr)) 19 to (N.2.1 19 fr)) := h
  refine lv_aload_n E1 E2 d_Mo_copy_72 rfl (lv_at hl 0 rfl) ?_
  refine g_Mo_vlan F h k_722 d_Mo_copy_73 ?_
  refine lv_iload_n E1 E2 d_Mo_copy_76 rfl (lv_at hl 2 rfl) ?_
  refine lv_aload_n E1 E2 d_Mo_copy_77 rfl (lv_at hl 0 rfl) ?_
  refine g_Mo_vlan F h k_722 d_Mo_copy_78 ?_
  refine lv_iload_n E1 E2 d_Mo_copy_81 rfl (lv_at hl 1 rfl) ?_
  refine ml_vlan F h (i := fr) (by omega) (v := N.2.1 20 fr) rfl d_Mo_copy_82 ?_
  have hwvlan : N.2.1 20 fr < 3 := mw_vlan h.2.2.2 fr
  refine ms_vlan F h (i := to) (by omega) (v := N.2.1 20 fr) (by omega) d_Mo_copy_83 (fun H locs h => ?_)
  have h : bn_H (mo_y D ar ad) s.heap H locs (sU (sU (sU (sU (sI (sJ (sI N 14 to (N.1 14 fr)) 15 to (N.2.2.1 15 fr)) 16 to (N.1 16 fr)) 17 to (N.2.1 17 fr)) 18 to (N.2.1 18 fr)) 19 to (N.2.1 19 fr)) 20 to (N.2.1 20 fr)) := h
  refine lv_aload_n E1 E2 d_Mo_copy_84 rfl (lv_at hl 0 rfl) ?_
  refine g_Mo_value F h k_723 d_Mo_copy_85 ?_
  refine lv_iload_n E1 E2 d_Mo_copy_88 rfl (lv_at hl 2 rfl) ?_
  refine lv_aload_n E1 E2 d_Mo_copy_89 rfl (lv_at hl 0 rfl) ?_
  refine g_Mo_value F h k_723 d_Mo_copy_90 ?_
  refine lv_iload_n E1 E2 d_Mo_copy_93 rfl (lv_at hl 1 rfl) ?_
  refine ml_value F h (i := fr) (by omega) (v := N.1 21 fr) rfl d_Mo_copy_94 ?_
  refine ms_value F h (i := to) (by omega) (v := N.1 21 fr) d_Mo_copy_95 (fun H locs h => ?_)
  have h : bn_H (mo_y D ar ad) s.heap H locs (sI (sU (sU (sU (sU (sI (sJ (sI N 14 to (N.1 14 fr)) 15 to (N.2.2.1 15 fr)) 16 to (N.1 16 fr)) 17 to (N.2.1 17 fr)) 18 to (N.2.1 18 fr)) 19 to (N.2.1 19 fr)) 20 to (N.2.1 20 fr)) 21 to (N.1 21 fr)) := h
  have hq : o_Mo_copy N fr to = (sI (sU (sU (sU (sU (sI (sJ (sI N 14 to (N.1 14 fr)) 15 to (N.2.2.1 15 fr)) 16 to (N.1 16 fr)) 17 to (N.2.1 17 fr)) 18 to (N.2.1 18 fr)) 19 to (N.2.1 19 fr)) 20 to (N.2.1 20 fr)) 21 to (N.1 21 fr)) := rfl
  exact bn_retv F hr hk h hq.symm d_Mo_copy_96
