/-! contracts of the class, written by wip/whole/gen_class.py -/
def r_Ve_of (N : bn_S) (ro : Int32) (co : Int32) (br : Int32) (po : Int32) : Int64 := ((((Int32.toInt64 ro) <<< (Int32.toInt64 32 &&& 63)) ||| ((Int32.toInt64 co) <<< (Int32.toInt64 16 &&& 63))) ||| ((Int32.toInt64 br) <<< (Int32.toInt64 8 &&& 63))) ||| (Int32.toInt64 po)
set_option maxHeartbeats 4000000 in
set_option maxRecDepth 100000 in
theorem c_Ve_of (l : Launch) (D : va_G) (ar : Nat → ClassId) (ad : Nat → Nat → Nat) (nf : Nat) (N : bn_S) (ro : Int32) (co : Int32) (br : Int32) (po : Int32) : bn_L l y_Ve_of w_Ve_of { frames := 0, cells := 0, slots := 0, locals := 0 } (bn_y D ar ad nf) N [.int ro, .int co, .int br, .int po] (r_Ve_of N ro co br po) N := by
  intro sz
  refine bn_start (cc := b_Ve_of) (maxL := 4) (ret := (Option.some Jvm.ClassFile.FieldType.long)) (by decide) rfl (Nat.le_of_ble_eq_true rfl) ?_
  intro p e s m args below meth c ls hsz F hml hr hk hl h
  subst hsz
  have E1 := F.1
  have E2 := F.2.1
  have hl : lv_has ls 4 [(0, .int ro), (1, .int co), (2, .int br), (3, .int po)] := hl
  refine lv_iload_n E1 E2 d_Ve_of_0 rfl (lv_at hl 0 rfl) ?_
  refine lv_i2l (v := Int32.toInt64 ro) E1 E2 d_Ve_of_1 rfl ?_
  refine lv_bipush (v := 32) E1 E2 d_Ve_of_2 (by decide) ?_
  refine lv_lshl (v := (Int32.toInt64 ro) <<< (Int32.toInt64 32 &&& 63)) E1 E2 d_Ve_of_4 rfl ?_
  refine lv_iload_n E1 E2 d_Ve_of_5 rfl (lv_at hl 1 rfl) ?_
  refine lv_i2l (v := Int32.toInt64 co) E1 E2 d_Ve_of_6 rfl ?_
  refine lv_bipush (v := 16) E1 E2 d_Ve_of_7 (by decide) ?_
  refine lv_lshl (v := (Int32.toInt64 co) <<< (Int32.toInt64 16 &&& 63)) E1 E2 d_Ve_of_9 rfl ?_
  refine lv_lor E1 E2 d_Ve_of_10 ?_
  refine lv_iload_n E1 E2 d_Ve_of_11 rfl (lv_at hl 2 rfl) ?_
  refine lv_i2l (v := Int32.toInt64 br) E1 E2 d_Ve_of_12 rfl ?_
  refine lv_bipush (v := 8) E1 E2 d_Ve_of_13 (by decide) ?_
  refine lv_lshl (v := (Int32.toInt64 br) <<< (Int32.toInt64 8 &&& 63)) E1 E2 d_Ve_of_15 rfl ?_
  refine lv_lor E1 E2 d_Ve_of_16 ?_
  refine lv_iload_n E1 E2 d_Ve_of_17 rfl (lv_at hl 3 rfl) ?_
  refine lv_i2l (v := Int32.toInt64 po) E1 E2 d_Ve_of_18 rfl ?_
  refine lv_lor E1 E2 d_Ve_of_19 ?_
  have hq : r_Ve_of N ro co br po = ((((Int32.toInt64 ro) <<< (Int32.toInt64 32 &&& 63)) ||| ((Int32.toInt64 co) <<< (Int32.toInt64 16 &&& 63))) ||| ((Int32.toInt64 br) <<< (Int32.toInt64 8 &&& 63))) ||| (Int32.toInt64 po) := rfl
  exact bn_retl F hr hk h hq.symm rfl d_Ve_of_20
def r_Ve_farther (N : bn_S) (v : Int64) (co : Int32) : Int64 := v + ((Int32.toInt64 co) <<< (Int32.toInt64 16 &&& 63))
set_option maxHeartbeats 4000000 in
set_option maxRecDepth 100000 in
theorem c_Ve_farther (l : Launch) (D : va_G) (ar : Nat → ClassId) (ad : Nat → Nat → Nat) (nf : Nat) (N : bn_S) (v : Int64) (co : Int32) : bn_L l y_Ve_farther w_Ve_farther { frames := 0, cells := 0, slots := 0, locals := 0 } (bn_y D ar ad nf) N [.long v, .int co] (r_Ve_farther N v co) N := by
  intro sz
  refine bn_start (cc := b_Ve_farther) (maxL := 3) (ret := (Option.some Jvm.ClassFile.FieldType.long)) (by decide) rfl (Nat.le_of_ble_eq_true rfl) ?_
  intro p e s m args below meth c ls hsz F hml hr hk hl h
  subst hsz
  have E1 := F.1
  have E2 := F.2.1
  have hl : lv_has ls 3 [(0, .long v), (2, .int co)] := hl
  refine lv_lload_n E1 E2 d_Ve_farther_0 rfl (lv_at hl 0 rfl) ?_
  refine lv_iload_n E1 E2 d_Ve_farther_1 rfl (lv_at hl 1 rfl) ?_
  refine lv_i2l (v := Int32.toInt64 co) E1 E2 d_Ve_farther_2 rfl ?_
  refine lv_bipush (v := 16) E1 E2 d_Ve_farther_3 (by decide) ?_
  refine lv_lshl (v := (Int32.toInt64 co) <<< (Int32.toInt64 16 &&& 63)) E1 E2 d_Ve_farther_5 rfl ?_
  refine lv_ladd E1 E2 d_Ve_farther_6 ?_
  have hq : r_Ve_farther N v co = v + ((Int32.toInt64 co) <<< (Int32.toInt64 16 &&& 63)) := rfl
  exact bn_retl F hr hk h hq.symm rfl d_Ve_farther_7
def r_Ve_rootOf (N : bn_S) (v : Int64) : Int32 := Int64.toInt32 (v >>> (Int32.toInt64 32 &&& 63))
set_option maxHeartbeats 4000000 in
set_option maxRecDepth 100000 in
theorem c_Ve_rootOf (l : Launch) (D : va_G) (ar : Nat → ClassId) (ad : Nat → Nat → Nat) (nf : Nat) (N : bn_S) (v : Int64) : bn_I l y_Ve_rootOf w_Ve_rootOf { frames := 0, cells := 0, slots := 0, locals := 0 } (bn_y D ar ad nf) N [.long v] (r_Ve_rootOf N v) N := by
  intro sz
  refine bn_start (cc := b_Ve_rootOf) (maxL := 2) (ret := (Option.some Jvm.ClassFile.FieldType.int)) (by decide) rfl (Nat.le_of_ble_eq_true rfl) ?_
  intro p e s m args below meth c ls hsz F hml hr hk hl h
  subst hsz
  have E1 := F.1
  have E2 := F.2.1
  have hl : lv_has ls 2 [(0, .long v)] := hl
  refine lv_lload_n E1 E2 d_Ve_rootOf_0 rfl (lv_at hl 0 rfl) ?_
  refine lv_bipush (v := 32) E1 E2 d_Ve_rootOf_1 (by decide) ?_
  refine lv_lshr (v := v >>> (Int32.toInt64 32 &&& 63)) E1 E2 d_Ve_rootOf_3 rfl ?_
  refine lv_l2i (v := Int64.toInt32 (v >>> (Int32.toInt64 32 &&& 63))) E1 E2 d_Ve_rootOf_4 rfl ?_
  have hq : r_Ve_rootOf N v = Int64.toInt32 (v >>> (Int32.toInt64 32 &&& 63)) := rfl
  exact bn_reti F hr hk h hq.symm rfl d_Ve_rootOf_5
def r_Ve_costOf (N : bn_S) (v : Int64) : Int32 := (Int64.toInt32 (v >>> (Int32.toInt64 16 &&& 63))) &&& 65535
set_option maxHeartbeats 4000000 in
set_option maxRecDepth 100000 in
theorem c_Ve_costOf (l : Launch) (D : va_G) (ar : Nat → ClassId) (ad : Nat → Nat → Nat) (nf : Nat) (N : bn_S) (v : Int64) : bn_I l y_Ve_costOf w_Ve_costOf { frames := 0, cells := 0, slots := 0, locals := 0 } (bn_y D ar ad nf) N [.long v] (r_Ve_costOf N v) N := by
  intro sz
  refine bn_start (cc := b_Ve_costOf) (maxL := 2) (ret := (Option.some Jvm.ClassFile.FieldType.int)) (by decide) rfl (Nat.le_of_ble_eq_true rfl) ?_
  intro p e s m args below meth c ls hsz F hml hr hk hl h
  subst hsz
  have E1 := F.1
  have E2 := F.2.1
  have hl : lv_has ls 2 [(0, .long v)] := hl
  refine lv_lload_n E1 E2 d_Ve_costOf_0 rfl (lv_at hl 0 rfl) ?_
  refine lv_bipush (v := 16) E1 E2 d_Ve_costOf_1 (by decide) ?_
  refine lv_lshr (v := v >>> (Int32.toInt64 16 &&& 63)) E1 E2 d_Ve_costOf_3 rfl ?_
  refine lv_l2i (v := Int64.toInt32 (v >>> (Int32.toInt64 16 &&& 63))) E1 E2 d_Ve_costOf_4 rfl ?_
  refine lv_ldc (own := "BridgeNet$Vector") E1 E2 F.2.2.1 (F.2.2.2.1 _ k_275) d_Ve_costOf_5 ?_
  refine lv_iand E1 E2 d_Ve_costOf_7 ?_
  have hq : r_Ve_costOf N v = (Int64.toInt32 (v >>> (Int32.toInt64 16 &&& 63))) &&& 65535 := rfl
  exact bn_reti F hr hk h hq.symm rfl d_Ve_costOf_8
def r_Ve_bridgeOf (N : bn_S) (v : Int64) : Int32 := (Int64.toInt32 (v >>> (Int32.toInt64 8 &&& 63))) &&& 255
set_option maxHeartbeats 4000000 in
set_option maxRecDepth 100000 in
theorem c_Ve_bridgeOf (l : Launch) (D : va_G) (ar : Nat → ClassId) (ad : Nat → Nat → Nat) (nf : Nat) (N : bn_S) (v : Int64) : bn_I l y_Ve_bridgeOf w_Ve_bridgeOf { frames := 0, cells := 0, slots := 0, locals := 0 } (bn_y D ar ad nf) N [.long v] (r_Ve_bridgeOf N v) N := by
  intro sz
  refine bn_start (cc := b_Ve_bridgeOf) (maxL := 2) (ret := (Option.some Jvm.ClassFile.FieldType.int)) (by decide) rfl (Nat.le_of_ble_eq_true rfl) ?_
  intro p e s m args below meth c ls hsz F hml hr hk hl h
  subst hsz
  have E1 := F.1
  have E2 := F.2.1
  have hl : lv_has ls 2 [(0, .long v)] := hl
  refine lv_lload_n E1 E2 d_Ve_bridgeOf_0 rfl (lv_at hl 0 rfl) ?_
  refine lv_bipush (v := 8) E1 E2 d_Ve_bridgeOf_1 (by decide) ?_
  refine lv_lshr (v := v >>> (Int32.toInt64 8 &&& 63)) E1 E2 d_Ve_bridgeOf_3 rfl ?_
  refine lv_l2i (v := Int64.toInt32 (v >>> (Int32.toInt64 8 &&& 63))) E1 E2 d_Ve_bridgeOf_4 rfl ?_
  refine lv_sipush (v := 255) E1 E2 d_Ve_bridgeOf_5 (by decide) ?_
  refine lv_iand E1 E2 d_Ve_bridgeOf_8 ?_
  have hq : r_Ve_bridgeOf N v = (Int64.toInt32 (v >>> (Int32.toInt64 8 &&& 63))) &&& 255 := rfl
  exact bn_reti F hr hk h hq.symm rfl d_Ve_bridgeOf_9
def r_Ve_portOf (N : bn_S) (v : Int64) : Int32 := (Int64.toInt32 v) &&& 255
set_option maxHeartbeats 4000000 in
set_option maxRecDepth 100000 in
theorem c_Ve_portOf (l : Launch) (D : va_G) (ar : Nat → ClassId) (ad : Nat → Nat → Nat) (nf : Nat) (N : bn_S) (v : Int64) : bn_I l y_Ve_portOf w_Ve_portOf { frames := 0, cells := 0, slots := 0, locals := 0 } (bn_y D ar ad nf) N [.long v] (r_Ve_portOf N v) N := by
  intro sz
  refine bn_start (cc := b_Ve_portOf) (maxL := 2) (ret := (Option.some Jvm.ClassFile.FieldType.int)) (by decide) rfl (Nat.le_of_ble_eq_true rfl) ?_
  intro p e s m args below meth c ls hsz F hml hr hk hl h
  subst hsz
  have E1 := F.1
  have E2 := F.2.1
  have hl : lv_has ls 2 [(0, .long v)] := hl
  refine lv_lload_n E1 E2 d_Ve_portOf_0 rfl (lv_at hl 0 rfl) ?_
  refine lv_l2i (v := Int64.toInt32 v) E1 E2 d_Ve_portOf_1 rfl ?_
  refine lv_sipush (v := 255) E1 E2 d_Ve_portOf_2 (by decide) ?_
  refine lv_iand E1 E2 d_Ve_portOf_5 ?_
  have hq : r_Ve_portOf N v = (Int64.toInt32 v) &&& 255 := rfl
  exact bn_reti F hr hk h hq.symm rfl d_Ve_portOf_6
def r_Po_isFree (N : bn_S) (x : Nat) : Int32 := (bn_oc (N.2.2.2 2 x) (bn_oc (N.2.2.2 3 x) 1 (fun y4 => 0)) (fun y2 => 0))
set_option maxHeartbeats 4000000 in
set_option maxRecDepth 100000 in
theorem c_Po_isFree (l : Launch) (D : va_G) (ar : Nat → ClassId) (ad : Nat → Nat → Nat) (nf : Nat) (N : bn_S) (x : Nat) (hx : x < 20) : bn_I l y_Po_isFree w_Po_isFree { frames := 0, cells := 0, slots := 0, locals := 0 } (bn_y D ar ad nf) N [.ref (ad 6 x)] (r_Po_isFree N x) N := by
  intro sz
  refine bn_start (cc := b_Po_isFree) (maxL := 1) (ret := (Option.some Jvm.ClassFile.FieldType.boolean)) (by decide) rfl (Nat.le_of_ble_eq_true rfl) ?_
  intro p e s m args below meth c ls hsz F hml hr hk hl h
  subst hsz
  have E1 := F.1
  have E2 := F.2.1
  have hl : lv_has ls 1 [(0, .ref (ad 6 x))] := hl
  refine lv_aload_n E1 E2 d_Po_isFree_0 rfl (lv_at hl 0 rfl) ?_
  refine g_Po_peer F h (by omega) k_143 d_Po_isFree_1 (fun ho1 => ?_) (fun y2 ho1 hy2 => ?_)
  · skip
    refine lv_ifnonnullN E1 E2 d_Po_isFree_4 ?_
    refine lv_aload_n E1 E2 d_Po_isFree_7 rfl (lv_at hl 0 rfl) ?_
    refine g_Po_station F h (by omega) k_146 d_Po_isFree_8 (fun ho3 => ?_) (fun y4 ho3 hy4 => ?_)
    · skip
      refine lv_ifnonnullN E1 E2 d_Po_isFree_11 ?_
      refine lv_iconst (v := 1) E1 E2 d_Po_isFree_14 (by decide) ?_
      refine lv_goto E1 E2 d_Po_isFree_15 rfl ?_
      have hq : r_Po_isFree N x = 1 := Eq.trans (bn_oc_n ho1) (bn_oc_n ho3)
      exact bn_retz F hr rfl hk h hq.symm rfl d_Po_isFree_19
    · skip
      refine lv_ifnonnull E1 E2 d_Po_isFree_11 rfl ?_
      refine lv_iconst (v := 0) E1 E2 d_Po_isFree_18 (by decide) ?_
      have hq : r_Po_isFree N x = 0 := Eq.trans (bn_oc_n ho1) (bn_oc_s ho3)
      exact bn_retz F hr rfl hk h hq.symm rfl d_Po_isFree_19
  · skip
    refine lv_ifnonnull E1 E2 d_Po_isFree_4 rfl ?_
    refine lv_iconst (v := 0) E1 E2 d_Po_isFree_18 (by decide) ?_
    have hq : r_Po_isFree N x = 0 := bn_oc_s ho1
    exact bn_retz F hr rfl hk h hq.symm rfl d_Po_isFree_19
def r_Po_isLinkedDesignated (N : bn_S) (x : Nat) : Int32 := (bn_oc (N.2.2.2 2 x) 0 (fun y2 => (if N.1 9 x = 2 then 1 else 0)))
set_option maxHeartbeats 4000000 in
set_option maxRecDepth 100000 in
theorem c_Po_isLinkedDesignated (l : Launch) (D : va_G) (ar : Nat → ClassId) (ad : Nat → Nat → Nat) (nf : Nat) (N : bn_S) (x : Nat) (hx : x < 20) : bn_I l y_Po_isLinkedDesignated w_Po_isLinkedDesignated { frames := 0, cells := 0, slots := 0, locals := 0 } (bn_y D ar ad nf) N [.ref (ad 6 x)] (r_Po_isLinkedDesignated N x) N := by
  intro sz
  refine bn_start (cc := b_Po_isLinkedDesignated) (maxL := 1) (ret := (Option.some Jvm.ClassFile.FieldType.boolean)) (by decide) rfl (Nat.le_of_ble_eq_true rfl) ?_
  intro p e s m args below meth c ls hsz F hml hr hk hl h
  subst hsz
  have E1 := F.1
  have E2 := F.2.1
  have hl : lv_has ls 1 [(0, .ref (ad 6 x))] := hl
  refine lv_aload_n E1 E2 d_Po_isLinkedDesignated_0 rfl (lv_at hl 0 rfl) ?_
  refine g_Po_peer F h (by omega) k_143 d_Po_isLinkedDesignated_1 (fun ho1 => ?_) (fun y2 ho1 hy2 => ?_)
  · skip
    refine lv_ifnullN E1 E2 d_Po_isLinkedDesignated_4 rfl ?_
    refine lv_iconst (v := 0) E1 E2 d_Po_isLinkedDesignated_19 (by decide) ?_
    have hq : r_Po_isLinkedDesignated N x = 0 := bn_oc_n ho1
    exact bn_retz F hr rfl hk h hq.symm rfl d_Po_isLinkedDesignated_20
  · skip
    refine lv_ifnull E1 E2 d_Po_isLinkedDesignated_4 ?_
    refine lv_aload_n E1 E2 d_Po_isLinkedDesignated_7 rfl (lv_at hl 0 rfl) ?_
    refine g_Po_role F h (by omega) k_155 (v := N.1 9 x) rfl d_Po_isLinkedDesignated_8 ?_
    refine lv_iconst (v := 2) E1 E2 d_Po_isLinkedDesignated_11 (by decide) ?_
    refine lv_icmp_ne E1 E2 d_Po_isLinkedDesignated_12 rfl (fun h3 => ?_) (fun h3 => ?_)
    · have h3 : ¬ (N.1 9 x = 2) := h3
      refine lv_iconst (v := 0) E1 E2 d_Po_isLinkedDesignated_19 (by decide) ?_
      have hq : r_Po_isLinkedDesignated N x = 0 := Eq.trans (bn_oc_s ho1) (if_neg h3)
      exact bn_retz F hr rfl hk h hq.symm rfl d_Po_isLinkedDesignated_20
    · have h3 : N.1 9 x = 2 := h3
      refine lv_iconst (v := 1) E1 E2 d_Po_isLinkedDesignated_15 (by decide) ?_
      refine lv_goto E1 E2 d_Po_isLinkedDesignated_16 rfl ?_
      have hq : r_Po_isLinkedDesignated N x = 1 := Eq.trans (bn_oc_s ho1) (if_pos h3)
      exact bn_retz F hr rfl hk h hq.symm rfl d_Po_isLinkedDesignated_20
def r_Po_carries (N : bn_S) (x : Nat) (v : Int32) : Int32 := (if (N.1 6 x) &&& v = 0 then 0 else 1)
set_option maxHeartbeats 4000000 in
set_option maxRecDepth 100000 in
theorem c_Po_carries (l : Launch) (D : va_G) (ar : Nat → ClassId) (ad : Nat → Nat → Nat) (nf : Nat) (N : bn_S) (x : Nat) (hx : x < 20) (v : Int32) : bn_I l y_Po_carries w_Po_carries { frames := 0, cells := 0, slots := 0, locals := 0 } (bn_y D ar ad nf) N [.ref (ad 6 x), .int v] (r_Po_carries N x v) N := by
  intro sz
  refine bn_start (cc := b_Po_carries) (maxL := 2) (ret := (Option.some Jvm.ClassFile.FieldType.boolean)) (by decide) rfl (Nat.le_of_ble_eq_true rfl) ?_
  intro p e s m args below meth c ls hsz F hml hr hk hl h
  subst hsz
  have E1 := F.1
  have E2 := F.2.1
  have hl : lv_has ls 2 [(0, .ref (ad 6 x)), (1, .int v)] := hl
  refine lv_aload_n E1 E2 d_Po_carries_0 rfl (lv_at hl 0 rfl) ?_
  refine g_Po_vlans F h (by omega) k_141 (v := N.1 6 x) rfl d_Po_carries_1 ?_
  refine lv_iload_n E1 E2 d_Po_carries_4 rfl (lv_at hl 1 rfl) ?_
  refine lv_iand E1 E2 d_Po_carries_5 ?_
  refine lv_if_eq E1 E2 d_Po_carries_6 rfl (fun h1 => ?_) (fun h1 => ?_)
  · have h1 : (N.1 6 x) &&& v = 0 := h1
    refine lv_iconst (v := 0) E1 E2 d_Po_carries_13 (by decide) ?_
    have hq : r_Po_carries N x v = 0 := if_pos h1
    exact bn_retz F hr rfl hk h hq.symm rfl d_Po_carries_14
  · have h1 : ¬ ((N.1 6 x) &&& v = 0) := h1
    refine lv_iconst (v := 1) E1 E2 d_Po_carries_9 (by decide) ?_
    refine lv_goto E1 E2 d_Po_carries_10 rfl ?_
    have hq : r_Po_carries N x v = 1 := if_neg h1
    exact bn_retz F hr rfl hk h hq.symm rfl d_Po_carries_14
def r_Po_hopsThrough (N : bn_S) (x : Nat) : Int32 := (N.1 7 x) + 1
set_option maxHeartbeats 4000000 in
set_option maxRecDepth 100000 in
theorem c_Po_hopsThrough (l : Launch) (D : va_G) (ar : Nat → ClassId) (ad : Nat → Nat → Nat) (nf : Nat) (N : bn_S) (x : Nat) (hx : x < 20) : bn_I l y_Po_hopsThrough w_Po_hopsThrough { frames := 0, cells := 0, slots := 0, locals := 0 } (bn_y D ar ad nf) N [.ref (ad 6 x)] (r_Po_hopsThrough N x) N := by
  intro sz
  refine bn_start (cc := b_Po_hopsThrough) (maxL := 1) (ret := (Option.some Jvm.ClassFile.FieldType.int)) (by decide) rfl (Nat.le_of_ble_eq_true rfl) ?_
  intro p e s m args below meth c ls hsz F hml hr hk hl h
  subst hsz
  have E1 := F.1
  have E2 := F.2.1
  have hl : lv_has ls 1 [(0, .ref (ad 6 x))] := hl
  refine lv_aload_n E1 E2 d_Po_hopsThrough_0 rfl (lv_at hl 0 rfl) ?_
  refine g_Po_infoHops F h (by omega) k_153 (v := N.1 7 x) rfl d_Po_hopsThrough_1 ?_
  refine lv_iconst (v := 1) E1 E2 d_Po_hopsThrough_4 (by decide) ?_
  refine lv_iadd E1 E2 d_Po_hopsThrough_5 ?_
  have hq : r_Po_hopsThrough N x = (N.1 7 x) + 1 := rfl
  exact bn_reti F hr hk h hq.symm rfl d_Po_hopsThrough_6
def o_Po_propose (N : bn_S) (x : Nat) : bn_S := (sI (sU (sI N 10 x 0) 3 x 1) 11 x 4)
set_option maxHeartbeats 4000000 in
set_option maxRecDepth 100000 in
theorem c_Po_propose (l : Launch) (D : va_G) (ar : Nat → ClassId) (ad : Nat → Nat → Nat) (nf : Nat) (N : bn_S) (x : Nat) (hx : x < 20) : bn_V l y_Po_propose w_Po_propose { frames := 0, cells := 0, slots := 0, locals := 0 } (bn_y D ar ad nf) N [.ref (ad 6 x)] (o_Po_propose N x) := by
  intro sz
  refine bn_start (cc := b_Po_propose) (maxL := 1) (ret := (Option.none : Option Jvm.ClassFile.FieldType)) (by decide) rfl (Nat.le_of_ble_eq_true rfl) ?_
  intro p e s m args below meth c ls hsz F hml hr hk hl h
  subst hsz
  have E1 := F.1
  have E2 := F.2.1
  have hl : lv_has ls 1 [(0, .ref (ad 6 x))] := hl
  refine lv_aload_n E1 E2 d_Po_propose_0 rfl (lv_at hl 0 rfl) ?_
  refine lv_iconst (v := 0) E1 E2 d_Po_propose_1 (by decide) ?_
  refine p_Po_state F h (by omega) k_157 d_Po_propose_2 (fun H locs h => ?_)
  have h : bn_H (bn_y D ar ad nf) s.heap H locs (sI N 10 x 0) := h
  refine lv_aload_n E1 E2 d_Po_propose_5 rfl (lv_at hl 0 rfl) ?_
  refine lv_iconst (v := 1) E1 E2 d_Po_propose_6 (by decide) ?_
  refine p_Po_proposing F h (by omega) k_159 (v := 1) (by omega) d_Po_propose_7 (fun H locs h => ?_)
  have h : bn_H (bn_y D ar ad nf) s.heap H locs (sU (sI N 10 x 0) 3 x 1) := h
  refine lv_aload_n E1 E2 d_Po_propose_10 rfl (lv_at hl 0 rfl) ?_
  refine lv_iconst (v := 4) E1 E2 d_Po_propose_11 (by decide) ?_
  refine p_Po_waits F h (by omega) k_162 d_Po_propose_12 (fun H locs h => ?_)
  have h : bn_H (bn_y D ar ad nf) s.heap H locs (sI (sU (sI N 10 x 0) 3 x 1) 11 x 4) := h
  have hq : o_Po_propose N x = (sI (sU (sI N 10 x 0) 3 x 1) 11 x 4) := rfl
  exact bn_retv F hr hk h hq.symm d_Po_propose_15
def o_Po_forward (N : bn_S) (x : Nat) : bn_S := (sI (sU (sI N 10 x 2) 3 x 0) 11 x 0)
set_option maxHeartbeats 4000000 in
set_option maxRecDepth 100000 in
theorem c_Po_forward (l : Launch) (D : va_G) (ar : Nat → ClassId) (ad : Nat → Nat → Nat) (nf : Nat) (N : bn_S) (x : Nat) (hx : x < 20) : bn_V l y_Po_forward w_Po_forward { frames := 0, cells := 0, slots := 0, locals := 0 } (bn_y D ar ad nf) N [.ref (ad 6 x)] (o_Po_forward N x) := by
  intro sz
  refine bn_start (cc := b_Po_forward) (maxL := 1) (ret := (Option.none : Option Jvm.ClassFile.FieldType)) (by decide) rfl (Nat.le_of_ble_eq_true rfl) ?_
  intro p e s m args below meth c ls hsz F hml hr hk hl h
  subst hsz
  have E1 := F.1
  have E2 := F.2.1
  have hl : lv_has ls 1 [(0, .ref (ad 6 x))] := hl
  refine lv_aload_n E1 E2 d_Po_forward_0 rfl (lv_at hl 0 rfl) ?_
  refine lv_iconst (v := 2) E1 E2 d_Po_forward_1 (by decide) ?_
  refine p_Po_state F h (by omega) k_157 d_Po_forward_2 (fun H locs h => ?_)
  have h : bn_H (bn_y D ar ad nf) s.heap H locs (sI N 10 x 2) := h
  refine lv_aload_n E1 E2 d_Po_forward_5 rfl (lv_at hl 0 rfl) ?_
  refine lv_iconst (v := 0) E1 E2 d_Po_forward_6 (by decide) ?_
  refine p_Po_proposing F h (by omega) k_159 (v := 0) (by omega) d_Po_forward_7 (fun H locs h => ?_)
  have h : bn_H (bn_y D ar ad nf) s.heap H locs (sU (sI N 10 x 2) 3 x 0) := h
  refine lv_aload_n E1 E2 d_Po_forward_10 rfl (lv_at hl 0 rfl) ?_
  refine lv_iconst (v := 0) E1 E2 d_Po_forward_11 (by decide) ?_
  refine p_Po_waits F h (by omega) k_162 d_Po_forward_12 (fun H locs h => ?_)
  have h : bn_H (bn_y D ar ad nf) s.heap H locs (sI (sU (sI N 10 x 2) 3 x 0) 11 x 0) := h
  have hq : o_Po_forward N x = (sI (sU (sI N 10 x 2) 3 x 0) 11 x 0) := rfl
  exact bn_retv F hr hk h hq.symm d_Po_forward_15
def o_Po_become (N : bn_S) (x : Nat) (r : Int32) : bn_S := (if r = 2 then (bn_oc (N.2.2.2 3 x) (o_Po_propose (sU (sI N 9 x r) 4 x 0) x) (fun y4 => (if r = 1 then (sI (sI (sU (sU (sI N 9 x r) 4 x 0) 3 x 0) 11 x 0) 10 x 2) else (sI (sI (sU (sU (sI N 9 x r) 4 x 0) 3 x 0) 11 x 0) 10 x 2)))) else (if r = 1 then (sI (sI (sU (sU (sI N 9 x r) 4 x 0) 3 x 0) 11 x 0) 10 x 2) else (sI (sI (sU (sU (sI N 9 x r) 4 x 0) 3 x 0) 11 x 0) 10 x 0)))
set_option maxHeartbeats 4000000 in
set_option maxRecDepth 100000 in
theorem c_Po_become (l : Launch) (D : va_G) (ar : Nat → ClassId) (ad : Nat → Nat → Nat) (nf : Nat) (N : bn_S) (x : Nat) (hx : x < 20) (r : Int32) : bn_V l y_Po_become w_Po_become { frames := 1, cells := 0, slots := 0, locals := 20 } (bn_y D ar ad nf) N [.ref (ad 6 x), .int r] (o_Po_become N x r) := by
  intro sz
  refine bn_start (cc := b_Po_become) (maxL := 2) (ret := (Option.none : Option Jvm.ClassFile.FieldType)) (by decide) rfl (Nat.le_of_ble_eq_true rfl) ?_
  intro p e s m args below meth c ls hsz F hml hr hk hl h
  subst hsz
  have E1 := F.1
  have E2 := F.2.1
  have hl : lv_has ls 2 [(0, .ref (ad 6 x)), (1, .int r)] := hl
  refine lv_aload_n E1 E2 d_Po_become_0 rfl (lv_at hl 0 rfl) ?_
  refine lv_iload_n E1 E2 d_Po_become_1 rfl (lv_at hl 1 rfl) ?_
  refine p_Po_role F h (by omega) k_155 d_Po_become_2 (fun H locs h => ?_)
  have h : bn_H (bn_y D ar ad nf) s.heap H locs (sI N 9 x r) := h
  refine lv_aload_n E1 E2 d_Po_become_5 rfl (lv_at hl 0 rfl) ?_
  refine lv_iconst (v := 0) E1 E2 d_Po_become_6 (by decide) ?_
  refine p_Po_agreed F h (by omega) k_161 (v := 0) (by omega) d_Po_become_7 (fun H locs h => ?_)
  have h : bn_H (bn_y D ar ad nf) s.heap H locs (sU (sI N 9 x r) 4 x 0) := h
  refine lv_iload_n E1 E2 d_Po_become_10 rfl (lv_at hl 1 rfl) ?_
  refine lv_iconst (v := 2) E1 E2 d_Po_become_11 (by decide) ?_
  refine lv_icmp_ne E1 E2 d_Po_become_12 rfl (fun h1 => ?_) (fun h1 => ?_)
  · have h1 : ¬ (r = 2) := h1
    refine lv_aload_n E1 E2 d_Po_become_29 rfl (lv_at hl 0 rfl) ?_
    refine lv_iconst (v := 0) E1 E2 d_Po_become_30 (by decide) ?_
    refine p_Po_proposing F h (by omega) k_159 (v := 0) (by omega) d_Po_become_31 (fun H locs h => ?_)
    have h : bn_H (bn_y D ar ad nf) s.heap H locs (sU (sU (sI N 9 x r) 4 x 0) 3 x 0) := h
    refine lv_aload_n E1 E2 d_Po_become_34 rfl (lv_at hl 0 rfl) ?_
    refine lv_iconst (v := 0) E1 E2 d_Po_become_35 (by decide) ?_
    refine p_Po_waits F h (by omega) k_162 d_Po_become_36 (fun H locs h => ?_)
    have h : bn_H (bn_y D ar ad nf) s.heap H locs (sI (sU (sU (sI N 9 x r) 4 x 0) 3 x 0) 11 x 0) := h
    refine lv_aload_n E1 E2 d_Po_become_39 rfl (lv_at hl 0 rfl) ?_
    refine lv_iload_n E1 E2 d_Po_become_40 rfl (lv_at hl 1 rfl) ?_
    refine lv_iconst (v := 1) E1 E2 d_Po_become_41 (by decide) ?_
    refine lv_icmp_eq E1 E2 d_Po_become_42 rfl (fun h2 => ?_) (fun h2 => ?_)
    · have h2 : r = 1 := h2
      refine lv_iconst (v := 2) E1 E2 d_Po_become_50 (by decide) ?_
      refine lv_goto E1 E2 d_Po_become_51 rfl ?_
      refine p_Po_state F h (by omega) k_157 d_Po_become_55 (fun H locs h => ?_)
      have h : bn_H (bn_y D ar ad nf) s.heap H locs (sI (sI (sU (sU (sI N 9 x r) 4 x 0) 3 x 0) 11 x 0) 10 x 2) := h
      have hq : o_Po_become N x r = (sI (sI (sU (sU (sI N 9 x r) 4 x 0) 3 x 0) 11 x 0) 10 x 2) := Eq.trans (if_neg h1) (if_pos h2)
      exact bn_retv F hr hk h hq.symm d_Po_become_58
    · have h2 : ¬ (r = 1) := h2
      refine lv_iload_n E1 E2 d_Po_become_45 rfl (lv_at hl 1 rfl) ?_
      refine lv_iconst (v := 2) E1 E2 d_Po_become_46 (by decide) ?_
      refine lv_icmp_ne E1 E2 d_Po_become_47 rfl (fun _ => ?_) (fun hz => absurd hz h1)
      refine lv_iconst (v := 0) E1 E2 d_Po_become_54 (by decide) ?_
      refine p_Po_state F h (by omega) k_157 d_Po_become_55 (fun H locs h => ?_)
      have h : bn_H (bn_y D ar ad nf) s.heap H locs (sI (sI (sU (sU (sI N 9 x r) 4 x 0) 3 x 0) 11 x 0) 10 x 0) := h
      have hq : o_Po_become N x r = (sI (sI (sU (sU (sI N 9 x r) 4 x 0) 3 x 0) 11 x 0) 10 x 0) := Eq.trans (if_neg h1) (if_neg h2)
      exact bn_retv F hr hk h hq.symm d_Po_become_58
  · have h1 : r = 2 := h1
    refine lv_aload_n E1 E2 d_Po_become_15 rfl (lv_at hl 0 rfl) ?_
    refine g_Po_station F h (by omega) k_146 d_Po_become_16 (fun ho3 => ?_) (fun y4 ho3 hy4 => ?_)
    · skip
      refine lv_ifnonnullN E1 E2 d_Po_become_19 ?_
      refine lv_aload_n E1 E2 d_Po_become_22 rfl (lv_at hl 0 rfl) ?_
      refine bn_callv F h (bn_runV (n := 0) (As := []) (rest := []) F hml hl.1 h (mm_6 (by omega)) rfl rfl (c_Po_propose l D ar ad nf (sU (sI N 9 x r) 4 x 0) x (by omega) _) (bn_goodV k_292 k_294 ks_Po_propose k_3 k_295) rfl rfl (by decide) ⟨by decide, by decide⟩ rfl rfl (Nat.le_of_ble_eq_true rfl) d_Po_become_23 ⟨Nat.zero_le _, Nat.zero_le _⟩) (fun H locs h => ?_)
      have h : bn_H (bn_y D ar ad nf) s.heap H locs (o_Po_propose (sU (sI N 9 x r) 4 x 0) x) := h
      refine lv_goto E1 E2 d_Po_become_26 rfl ?_
      have hq : o_Po_become N x r = (o_Po_propose (sU (sI N 9 x r) 4 x 0) x) := Eq.trans (if_pos h1) (bn_oc_n ho3)
      exact bn_retv F hr hk h hq.symm d_Po_become_58
    · skip
      refine lv_ifnonnull E1 E2 d_Po_become_19 rfl ?_
      refine lv_aload_n E1 E2 d_Po_become_29 rfl (lv_at hl 0 rfl) ?_
      refine lv_iconst (v := 0) E1 E2 d_Po_become_30 (by decide) ?_
      refine p_Po_proposing F h (by omega) k_159 (v := 0) (by omega) d_Po_become_31 (fun H locs h => ?_)
      have h : bn_H (bn_y D ar ad nf) s.heap H locs (sU (sU (sI N 9 x r) 4 x 0) 3 x 0) := h
      refine lv_aload_n E1 E2 d_Po_become_34 rfl (lv_at hl 0 rfl) ?_
      refine lv_iconst (v := 0) E1 E2 d_Po_become_35 (by decide) ?_
      refine p_Po_waits F h (by omega) k_162 d_Po_become_36 (fun H locs h => ?_)
      have h : bn_H (bn_y D ar ad nf) s.heap H locs (sI (sU (sU (sI N 9 x r) 4 x 0) 3 x 0) 11 x 0) := h
      refine lv_aload_n E1 E2 d_Po_become_39 rfl (lv_at hl 0 rfl) ?_
      refine lv_iload_n E1 E2 d_Po_become_40 rfl (lv_at hl 1 rfl) ?_
      refine lv_iconst (v := 1) E1 E2 d_Po_become_41 (by decide) ?_
      refine lv_icmp_eq E1 E2 d_Po_become_42 rfl (fun h5 => ?_) (fun h5 => ?_)
      · have h5 : r = 1 := h5
        refine lv_iconst (v := 2) E1 E2 d_Po_become_50 (by decide) ?_
        refine lv_goto E1 E2 d_Po_become_51 rfl ?_
        refine p_Po_state F h (by omega) k_157 d_Po_become_55 (fun H locs h => ?_)
        have h : bn_H (bn_y D ar ad nf) s.heap H locs (sI (sI (sU (sU (sI N 9 x r) 4 x 0) 3 x 0) 11 x 0) 10 x 2) := h
        have hq : o_Po_become N x r = (sI (sI (sU (sU (sI N 9 x r) 4 x 0) 3 x 0) 11 x 0) 10 x 2) := Eq.trans (if_pos h1) (Eq.trans (bn_oc_s ho3) (if_pos h5))
        exact bn_retv F hr hk h hq.symm d_Po_become_58
      · have h5 : ¬ (r = 1) := h5
        refine lv_iload_n E1 E2 d_Po_become_45 rfl (lv_at hl 1 rfl) ?_
        refine lv_iconst (v := 2) E1 E2 d_Po_become_46 (by decide) ?_
        refine lv_icmp_ne E1 E2 d_Po_become_47 rfl (fun hz => absurd h1 hz) (fun _ => ?_)
        refine lv_iconst (v := 2) E1 E2 d_Po_become_50 (by decide) ?_
        refine lv_goto E1 E2 d_Po_become_51 rfl ?_
        refine p_Po_state F h (by omega) k_157 d_Po_become_55 (fun H locs h => ?_)
        have h : bn_H (bn_y D ar ad nf) s.heap H locs (sI (sI (sU (sU (sI N 9 x r) 4 x 0) 3 x 0) 11 x 0) 10 x 2) := h
        have hq : o_Po_become N x r = (sI (sI (sU (sU (sI N 9 x r) 4 x 0) 3 x 0) 11 x 0) 10 x 2) := Eq.trans (if_pos h1) (Eq.trans (bn_oc_s ho3) (if_neg h5))
        exact bn_retv F hr hk h hq.symm d_Po_become_58
def o_Po_hold (N : bn_S) (x : Nat) (v : Int64) (ho : Int32) : bn_S := (sI (sI (sJ (sU N 2 x 1) 1 x v) 7 x ho) 8 x 6)
set_option maxHeartbeats 4000000 in
set_option maxRecDepth 100000 in
theorem c_Po_hold (l : Launch) (D : va_G) (ar : Nat → ClassId) (ad : Nat → Nat → Nat) (nf : Nat) (N : bn_S) (x : Nat) (hx : x < 20) (v : Int64) (ho : Int32) : bn_V l y_Po_hold w_Po_hold { frames := 0, cells := 0, slots := 0, locals := 0 } (bn_y D ar ad nf) N [.ref (ad 6 x), .long v, .int ho] (o_Po_hold N x v ho) := by
  intro sz
  refine bn_start (cc := b_Po_hold) (maxL := 4) (ret := (Option.none : Option Jvm.ClassFile.FieldType)) (by decide) rfl (Nat.le_of_ble_eq_true rfl) ?_
  intro p e s m args below meth c ls hsz F hml hr hk hl h
  subst hsz
  have E1 := F.1
  have E2 := F.2.1
  have hl : lv_has ls 4 [(0, .ref (ad 6 x)), (1, .long v), (3, .int ho)] := hl
  refine lv_aload_n E1 E2 d_Po_hold_0 rfl (lv_at hl 0 rfl) ?_
  refine lv_iconst (v := 1) E1 E2 d_Po_hold_1 (by decide) ?_
  refine p_Po_hasInfo F h (by omega) k_148 (v := 1) (by omega) d_Po_hold_2 (fun H locs h => ?_)
  have h : bn_H (bn_y D ar ad nf) s.heap H locs (sU N 2 x 1) := h
  refine lv_aload_n E1 E2 d_Po_hold_5 rfl (lv_at hl 0 rfl) ?_
  refine lv_lload_n E1 E2 d_Po_hold_6 rfl (lv_at hl 1 rfl) ?_
  refine p_Po_info F h (by omega) k_151 d_Po_hold_7 (fun H locs h => ?_)
  have h : bn_H (bn_y D ar ad nf) s.heap H locs (sJ (sU N 2 x 1) 1 x v) := h
  refine lv_aload_n E1 E2 d_Po_hold_10 rfl (lv_at hl 0 rfl) ?_
  refine lv_iload_n E1 E2 d_Po_hold_11 rfl (lv_at hl 2 rfl) ?_
  refine p_Po_infoHops F h (by omega) k_153 d_Po_hold_12 (fun H locs h => ?_)
  have h : bn_H (bn_y D ar ad nf) s.heap H locs (sI (sJ (sU N 2 x 1) 1 x v) 7 x ho) := h
  refine lv_aload_n E1 E2 d_Po_hold_15 rfl (lv_at hl 0 rfl) ?_
  refine lv_bipush (v := 6) E1 E2 d_Po_hold_16 (by decide) ?_
  refine p_Po_infoLife F h (by omega) k_154 d_Po_hold_18 (fun H locs h => ?_)
  have h : bn_H (bn_y D ar ad nf) s.heap H locs (sI (sI (sJ (sU N 2 x 1) 1 x v) 7 x ho) 8 x 6) := h
  have hq : o_Po_hold N x v ho = (sI (sI (sJ (sU N 2 x 1) 1 x v) 7 x ho) 8 x 6) := rfl
  exact bn_retv F hr hk h hq.symm d_Po_hold_21
def o_Po_proposeUnlessAgreed (N : bn_S) (x : Nat) : Int32 × bn_S := (if (N.2.1 4 x) = 0 then (1, (o_Po_propose N x)) else (0, N))
set_option maxHeartbeats 4000000 in
set_option maxRecDepth 100000 in
theorem c_Po_proposeUnlessAgreed (l : Launch) (D : va_G) (ar : Nat → ClassId) (ad : Nat → Nat → Nat) (nf : Nat) (N : bn_S) (x : Nat) (hx : x < 20) : bn_I l y_Po_proposeUnlessAgreed w_Po_proposeUnlessAgreed { frames := 1, cells := 0, slots := 0, locals := 20 } (bn_y D ar ad nf) N [.ref (ad 6 x)] (o_Po_proposeUnlessAgreed N x).1 (o_Po_proposeUnlessAgreed N x).2 := by
  intro sz
  refine bn_start (cc := b_Po_proposeUnlessAgreed) (maxL := 1) (ret := (Option.some Jvm.ClassFile.FieldType.boolean)) (by decide) rfl (Nat.le_of_ble_eq_true rfl) ?_
  intro p e s m args below meth c ls hsz F hml hr hk hl h
  subst hsz
  have E1 := F.1
  have E2 := F.2.1
  have hl : lv_has ls 1 [(0, .ref (ad 6 x))] := hl
  refine lv_aload_n E1 E2 d_Po_proposeUnlessAgreed_0 rfl (lv_at hl 0 rfl) ?_
  refine g_Po_agreed F h (by omega) k_161 (v := N.2.1 4 x) rfl d_Po_proposeUnlessAgreed_1 ?_
  have hwagr : N.2.1 4 x < 2 := wf_agr h.2.2.2 x
  refine lv_if_eq E1 E2 d_Po_proposeUnlessAgreed_4 rfl (fun h1 => ?_) (fun h1 => ?_)
  · have h1 : (N.2.1 4 x) = 0 := ((nI_eq (a := N.2.1 4 x) (b := 0) (by omega) (by omega)).mp h1)
    refine lv_aload_n E1 E2 d_Po_proposeUnlessAgreed_9 rfl (lv_at hl 0 rfl) ?_
    refine bn_callv F h (bn_runV (n := 0) (As := []) (rest := []) F hml hl.1 h (mm_6 (by omega)) rfl rfl (c_Po_propose l D ar ad nf N x (by omega) _) (bn_goodV k_292 k_294 ks_Po_propose k_3 k_295) rfl rfl (by decide) ⟨by decide, by decide⟩ rfl rfl (Nat.le_of_ble_eq_true rfl) d_Po_proposeUnlessAgreed_10 ⟨Nat.zero_le _, Nat.zero_le _⟩) (fun H locs h => ?_)
    have h : bn_H (bn_y D ar ad nf) s.heap H locs (o_Po_propose N x) := h
    refine lv_iconst (v := 1) E1 E2 d_Po_proposeUnlessAgreed_13 (by decide) ?_
    have hq : o_Po_proposeUnlessAgreed N x = (1, (o_Po_propose N x)) := if_pos h1
    exact bn_retz2 F hr rfl hk h hq d_Po_proposeUnlessAgreed_14
  · have h1 : ¬ ((N.2.1 4 x) = 0) := (fun hw => h1 ((nI_eq (a := N.2.1 4 x) (b := 0) (by omega) (by omega)).mpr hw))
    refine lv_iconst (v := 0) E1 E2 d_Po_proposeUnlessAgreed_7 (by decide) ?_
    have hq : o_Po_proposeUnlessAgreed N x = (0, N) := if_neg h1
    exact bn_retz2 F hr rfl hk h hq d_Po_proposeUnlessAgreed_8
def o_Po_takeAgreement (N : bn_S) (x : Nat) : bn_S := (sU (o_Po_forward N x) 4 x 1)
set_option maxHeartbeats 4000000 in
set_option maxRecDepth 100000 in
theorem c_Po_takeAgreement (l : Launch) (D : va_G) (ar : Nat → ClassId) (ad : Nat → Nat → Nat) (nf : Nat) (N : bn_S) (x : Nat) (hx : x < 20) : bn_V l y_Po_takeAgreement w_Po_takeAgreement { frames := 1, cells := 0, slots := 0, locals := 20 } (bn_y D ar ad nf) N [.ref (ad 6 x)] (o_Po_takeAgreement N x) := by
  intro sz
  refine bn_start (cc := b_Po_takeAgreement) (maxL := 1) (ret := (Option.none : Option Jvm.ClassFile.FieldType)) (by decide) rfl (Nat.le_of_ble_eq_true rfl) ?_
  intro p e s m args below meth c ls hsz F hml hr hk hl h
  subst hsz
  have E1 := F.1
  have E2 := F.2.1
  have hl : lv_has ls 1 [(0, .ref (ad 6 x))] := hl
  refine lv_aload_n E1 E2 d_Po_takeAgreement_0 rfl (lv_at hl 0 rfl) ?_
  refine bn_callv F h (bn_runV (n := 0) (As := []) (rest := []) F hml hl.1 h (mm_6 (by omega)) rfl rfl (c_Po_forward l D ar ad nf N x (by omega) _) (bn_goodV k_375 k_377 ks_Po_forward k_3 k_378) rfl rfl (by decide) ⟨by decide, by decide⟩ rfl rfl (Nat.le_of_ble_eq_true rfl) d_Po_takeAgreement_1 ⟨Nat.zero_le _, Nat.zero_le _⟩) (fun H locs h => ?_)
  have h : bn_H (bn_y D ar ad nf) s.heap H locs (o_Po_forward N x) := h
  refine lv_aload_n E1 E2 d_Po_takeAgreement_4 rfl (lv_at hl 0 rfl) ?_
  refine lv_iconst (v := 1) E1 E2 d_Po_takeAgreement_5 (by decide) ?_
  refine p_Po_agreed F h (by omega) k_161 (v := 1) (by omega) d_Po_takeAgreement_6 (fun H locs h => ?_)
  have h : bn_H (bn_y D ar ad nf) s.heap H locs (sU (o_Po_forward N x) 4 x 1) := h
  have hq : o_Po_takeAgreement N x = (sU (o_Po_forward N x) 4 x 1) := rfl
  exact bn_retv F hr hk h hq.symm d_Po_takeAgreement_9
def o_Po_ageInfo (N : bn_S) (x : Nat) : bn_S := (if (N.2.1 2 x) = 0 then N else (if (N.1 8 x) - 1 ≤ 0 then (sU (sI N 8 x ((N.1 8 x) - 1)) 2 x 0) else (sU (sI N 8 x ((N.1 8 x) - 1)) 2 x 1)))
set_option maxHeartbeats 4000000 in
set_option maxRecDepth 100000 in
theorem c_Po_ageInfo (l : Launch) (D : va_G) (ar : Nat → ClassId) (ad : Nat → Nat → Nat) (nf : Nat) (N : bn_S) (x : Nat) (hx : x < 20) : bn_V l y_Po_ageInfo w_Po_ageInfo { frames := 0, cells := 0, slots := 0, locals := 0 } (bn_y D ar ad nf) N [.ref (ad 6 x)] (o_Po_ageInfo N x) := by
  intro sz
  refine bn_start (cc := b_Po_ageInfo) (maxL := 1) (ret := (Option.none : Option Jvm.ClassFile.FieldType)) (by decide) rfl (Nat.le_of_ble_eq_true rfl) ?_
  intro p e s m args below meth c ls hsz F hml hr hk hl h
  subst hsz
  have E1 := F.1
  have E2 := F.2.1
  have hl : lv_has ls 1 [(0, .ref (ad 6 x))] := hl
  refine lv_aload_n E1 E2 d_Po_ageInfo_0 rfl (lv_at hl 0 rfl) ?_
  refine g_Po_hasInfo F h (by omega) k_148 (v := N.2.1 2 x) rfl d_Po_ageInfo_1 ?_
  have hwhasInfo : N.2.1 2 x < 2 := wf_hasInfo h.2.2.2 x
  refine lv_if_eq E1 E2 d_Po_ageInfo_4 rfl (fun h1 => ?_) (fun h1 => ?_)
  · have h1 : (N.2.1 2 x) = 0 := ((nI_eq (a := N.2.1 2 x) (b := 0) (by omega) (by omega)).mp h1)
    have hq : o_Po_ageInfo N x = N := if_pos h1
    exact bn_retv F hr hk h hq.symm d_Po_ageInfo_33
  · have h1 : ¬ ((N.2.1 2 x) = 0) := (fun hw => h1 ((nI_eq (a := N.2.1 2 x) (b := 0) (by omega) (by omega)).mpr hw))
    refine lv_aload_n E1 E2 d_Po_ageInfo_7 rfl (lv_at hl 0 rfl) ?_
    refine lv_dup E1 E2 d_Po_ageInfo_8 rfl ?_
    refine g_Po_infoLife F h (by omega) k_154 (v := N.1 8 x) rfl d_Po_ageInfo_9 ?_
    refine lv_iconst (v := 1) E1 E2 d_Po_ageInfo_12 (by decide) ?_
    refine lv_isub E1 E2 d_Po_ageInfo_13 ?_
    refine p_Po_infoLife F h (by omega) k_154 d_Po_ageInfo_14 (fun H locs h => ?_)
    have h : bn_H (bn_y D ar ad nf) s.heap H locs (sI N 8 x ((N.1 8 x) - 1)) := h
    refine lv_aload_n E1 E2 d_Po_ageInfo_17 rfl (lv_at hl 0 rfl) ?_
    refine lv_aload_n E1 E2 d_Po_ageInfo_18 rfl (lv_at hl 0 rfl) ?_
    refine g_Po_infoLife F h (by omega) k_154 (v := (N.1 8 x) - 1) (bn_up_s N.1 8 x ((N.1 8 x) - 1)) d_Po_ageInfo_19 ?_
    refine lv_if_le E1 E2 d_Po_ageInfo_22 rfl (fun h2 => ?_) (fun h2 => ?_)
    · have h2 : (N.1 8 x) - 1 ≤ 0 := h2
      refine lv_iconst (v := 0) E1 E2 d_Po_ageInfo_29 (by decide) ?_
      refine p_Po_hasInfo F h (by omega) k_148 (v := 0) (by omega) d_Po_ageInfo_30 (fun H locs h => ?_)
      have h : bn_H (bn_y D ar ad nf) s.heap H locs (sU (sI N 8 x ((N.1 8 x) - 1)) 2 x 0) := h
      have hq : o_Po_ageInfo N x = (sU (sI N 8 x ((N.1 8 x) - 1)) 2 x 0) := Eq.trans (if_neg h1) (if_pos h2)
      exact bn_retv F hr hk h hq.symm d_Po_ageInfo_33
    · have h2 : ¬ ((N.1 8 x) - 1 ≤ 0) := h2
      refine lv_iconst (v := 1) E1 E2 d_Po_ageInfo_25 (by decide) ?_
      refine lv_goto E1 E2 d_Po_ageInfo_26 rfl ?_
      refine p_Po_hasInfo F h (by omega) k_148 (v := 1) (by omega) d_Po_ageInfo_30 (fun H locs h => ?_)
      have h : bn_H (bn_y D ar ad nf) s.heap H locs (sU (sI N 8 x ((N.1 8 x) - 1)) 2 x 1) := h
      have hq : o_Po_ageInfo N x = (sU (sI N 8 x ((N.1 8 x) - 1)) 2 x 1) := Eq.trans (if_neg h1) (if_neg h2)
      exact bn_retv F hr hk h hq.symm d_Po_ageInfo_33
def o_Po_ageWait (N : bn_S) (x : Nat) : bn_S := (if r_Po_isLinkedDesignated N x = 0 then N else (if N.1 10 x = 2 then N else (if (N.1 11 x) - 1 ≤ 0 then (if N.1 10 x = 0 then (sI (sI (sI N 11 x ((N.1 11 x) - 1)) 10 x 1) 11 x 4) else (o_Po_forward (sI N 11 x ((N.1 11 x) - 1)) x)) else (sI N 11 x ((N.1 11 x) - 1)))))
set_option maxHeartbeats 4000000 in
set_option maxRecDepth 100000 in
theorem c_Po_ageWait (l : Launch) (D : va_G) (ar : Nat → ClassId) (ad : Nat → Nat → Nat) (nf : Nat) (N : bn_S) (x : Nat) (hx : x < 20) : bn_V l y_Po_ageWait w_Po_ageWait { frames := 1, cells := 0, slots := 0, locals := 20 } (bn_y D ar ad nf) N [.ref (ad 6 x)] (o_Po_ageWait N x) := by
  intro sz
  refine bn_start (cc := b_Po_ageWait) (maxL := 1) (ret := (Option.none : Option Jvm.ClassFile.FieldType)) (by decide) rfl (Nat.le_of_ble_eq_true rfl) ?_
  intro p e s m args below meth c ls hsz F hml hr hk hl h
  subst hsz
  have E1 := F.1
  have E2 := F.2.1
  have hl : lv_has ls 1 [(0, .ref (ad 6 x))] := hl
  refine lv_aload_n E1 E2 d_Po_ageWait_0 rfl (lv_at hl 0 rfl) ?_
  refine bn_calli F h (bn_runV (n := 0) (As := []) (rest := []) F hml hl.1 h (mm_6 (by omega)) rfl rfl (c_Po_isLinkedDesignated l D ar ad nf N x (by omega) _) (bn_goodV k_374 k_301 k_302 k_3 k_303) rfl rfl (by decide) ⟨by decide, by decide⟩ rfl rfl (Nat.le_of_ble_eq_true rfl) d_Po_ageWait_1 ⟨Nat.zero_le _, Nat.zero_le _⟩) (fun H locs h => ?_)
  refine lv_if_eq E1 E2 d_Po_ageWait_4 rfl (fun h1 => ?_) (fun h1 => ?_)
  · have h1 : r_Po_isLinkedDesignated N x = 0 := h1
    have hq : o_Po_ageWait N x = N := if_pos h1
    exact bn_retv F hr hk h hq.symm d_Po_ageWait_15
  · have h1 : ¬ (r_Po_isLinkedDesignated N x = 0) := h1
    refine lv_aload_n E1 E2 d_Po_ageWait_7 rfl (lv_at hl 0 rfl) ?_
    refine g_Po_state F h (by omega) k_157 (v := N.1 10 x) rfl d_Po_ageWait_8 ?_
    refine lv_iconst (v := 2) E1 E2 d_Po_ageWait_11 (by decide) ?_
    refine lv_icmp_ne E1 E2 d_Po_ageWait_12 rfl (fun h2 => ?_) (fun h2 => ?_)
    · have h2 : ¬ (N.1 10 x = 2) := h2
      refine lv_aload_n E1 E2 d_Po_ageWait_16 rfl (lv_at hl 0 rfl) ?_
      refine lv_dup E1 E2 d_Po_ageWait_17 rfl ?_
      refine g_Po_waits F h (by omega) k_162 (v := N.1 11 x) rfl d_Po_ageWait_18 ?_
      refine lv_iconst (v := 1) E1 E2 d_Po_ageWait_21 (by decide) ?_
      refine lv_isub E1 E2 d_Po_ageWait_22 ?_
      refine p_Po_waits F h (by omega) k_162 d_Po_ageWait_23 (fun H locs h => ?_)
      have h : bn_H (bn_y D ar ad nf) s.heap H locs (sI N 11 x ((N.1 11 x) - 1)) := h
      refine lv_aload_n E1 E2 d_Po_ageWait_26 rfl (lv_at hl 0 rfl) ?_
      refine g_Po_waits F h (by omega) k_162 (v := (N.1 11 x) - 1) (bn_up_s N.1 11 x ((N.1 11 x) - 1)) d_Po_ageWait_27 ?_
      refine lv_if_le E1 E2 d_Po_ageWait_30 rfl (fun h3 => ?_) (fun h3 => ?_)
      · have h3 : (N.1 11 x) - 1 ≤ 0 := h3
        refine lv_aload_n E1 E2 d_Po_ageWait_34 rfl (lv_at hl 0 rfl) ?_
        refine g_Po_state F h (by omega) k_157 (v := N.1 10 x) rfl d_Po_ageWait_35 ?_
        refine lv_if_ne E1 E2 d_Po_ageWait_38 rfl (fun h4 => ?_) (fun h4 => ?_)
        · have h4 : ¬ (N.1 10 x = 0) := h4
          refine lv_aload_n E1 E2 d_Po_ageWait_54 rfl (lv_at hl 0 rfl) ?_
          refine bn_callv F h (bn_runV (n := 0) (As := []) (rest := []) F hml hl.1 h (mm_6 (by omega)) rfl rfl (c_Po_forward l D ar ad nf (sI N 11 x ((N.1 11 x) - 1)) x (by omega) _) (bn_goodV k_375 k_377 ks_Po_forward k_3 k_378) rfl rfl (by decide) ⟨by decide, by decide⟩ rfl rfl (Nat.le_of_ble_eq_true rfl) d_Po_ageWait_55 ⟨Nat.zero_le _, Nat.zero_le _⟩) (fun H locs h => ?_)
          have h : bn_H (bn_y D ar ad nf) s.heap H locs (o_Po_forward (sI N 11 x ((N.1 11 x) - 1)) x) := h
          have hq : o_Po_ageWait N x = (o_Po_forward (sI N 11 x ((N.1 11 x) - 1)) x) := Eq.trans (if_neg h1) (Eq.trans (if_neg h2) (Eq.trans (if_pos h3) (if_neg h4)))
          exact bn_retv F hr hk h hq.symm d_Po_ageWait_58
        · have h4 : N.1 10 x = 0 := h4
          refine lv_aload_n E1 E2 d_Po_ageWait_41 rfl (lv_at hl 0 rfl) ?_
          refine lv_iconst (v := 1) E1 E2 d_Po_ageWait_42 (by decide) ?_
          refine p_Po_state F h (by omega) k_157 d_Po_ageWait_43 (fun H locs h => ?_)
          have h : bn_H (bn_y D ar ad nf) s.heap H locs (sI (sI N 11 x ((N.1 11 x) - 1)) 10 x 1) := h
          refine lv_aload_n E1 E2 d_Po_ageWait_46 rfl (lv_at hl 0 rfl) ?_
          refine lv_iconst (v := 4) E1 E2 d_Po_ageWait_47 (by decide) ?_
          refine p_Po_waits F h (by omega) k_162 d_Po_ageWait_48 (fun H locs h => ?_)
          have h : bn_H (bn_y D ar ad nf) s.heap H locs (sI (sI (sI N 11 x ((N.1 11 x) - 1)) 10 x 1) 11 x 4) := h
          refine lv_goto E1 E2 d_Po_ageWait_51 rfl ?_
          have hq : o_Po_ageWait N x = (sI (sI (sI N 11 x ((N.1 11 x) - 1)) 10 x 1) 11 x 4) := Eq.trans (if_neg h1) (Eq.trans (if_neg h2) (Eq.trans (if_pos h3) (if_pos h4)))
          exact bn_retv F hr hk h hq.symm d_Po_ageWait_58
      · have h3 : ¬ ((N.1 11 x) - 1 ≤ 0) := h3
        have hq : o_Po_ageWait N x = (sI N 11 x ((N.1 11 x) - 1)) := Eq.trans (if_neg h1) (Eq.trans (if_neg h2) (if_neg h3))
        exact bn_retv F hr hk h hq.symm d_Po_ageWait_33
    · have h2 : N.1 10 x = 2 := h2
      have hq : o_Po_ageWait N x = N := Eq.trans (if_neg h1) (if_pos h2)
      exact bn_retv F hr hk h hq.symm d_Po_ageWait_15
def r_Po_summary (N : bn_S) (x : Nat) : Int32 := (if (N.2.1 3 x) = 0 then (if (N.2.1 4 x) = 0 then ((((N.1 9 x) + (4 * (N.1 10 x))) + 0) + 0) + (64 * (N.1 11 x)) else ((((N.1 9 x) + (4 * (N.1 10 x))) + 0) + 32) + (64 * (N.1 11 x))) else (if (N.2.1 4 x) = 0 then ((((N.1 9 x) + (4 * (N.1 10 x))) + 16) + 0) + (64 * (N.1 11 x)) else ((((N.1 9 x) + (4 * (N.1 10 x))) + 16) + 32) + (64 * (N.1 11 x))))
set_option maxHeartbeats 4000000 in
set_option maxRecDepth 100000 in
theorem c_Po_summary (l : Launch) (D : va_G) (ar : Nat → ClassId) (ad : Nat → Nat → Nat) (nf : Nat) (N : bn_S) (x : Nat) (hx : x < 20) : bn_I l y_Po_summary w_Po_summary { frames := 0, cells := 0, slots := 0, locals := 0 } (bn_y D ar ad nf) N [.ref (ad 6 x)] (r_Po_summary N x) N := by
  intro sz
  refine bn_start (cc := b_Po_summary) (maxL := 1) (ret := (Option.some Jvm.ClassFile.FieldType.int)) (by decide) rfl (Nat.le_of_ble_eq_true rfl) ?_
  intro p e s m args below meth c ls hsz F hml hr hk hl h
  subst hsz
  have E1 := F.1
  have E2 := F.2.1
  have hl : lv_has ls 1 [(0, .ref (ad 6 x))] := hl
  refine lv_aload_n E1 E2 d_Po_summary_0 rfl (lv_at hl 0 rfl) ?_
  refine g_Po_role F h (by omega) k_155 (v := N.1 9 x) rfl d_Po_summary_1 ?_
  refine lv_iconst (v := 4) E1 E2 d_Po_summary_4 (by decide) ?_
  refine lv_aload_n E1 E2 d_Po_summary_5 rfl (lv_at hl 0 rfl) ?_
  refine g_Po_state F h (by omega) k_157 (v := N.1 10 x) rfl d_Po_summary_6 ?_
  refine lv_imul E1 E2 d_Po_summary_9 ?_
  refine lv_iadd E1 E2 d_Po_summary_10 ?_
  refine lv_aload_n E1 E2 d_Po_summary_11 rfl (lv_at hl 0 rfl) ?_
  refine g_Po_proposing F h (by omega) k_159 (v := N.2.1 3 x) rfl d_Po_summary_12 ?_
  have hwprop : N.2.1 3 x < 2 := wf_prop h.2.2.2 x
  refine lv_if_eq E1 E2 d_Po_summary_15 rfl (fun h1 => ?_) (fun h1 => ?_)
  · have h1 : (N.2.1 3 x) = 0 := ((nI_eq (a := N.2.1 3 x) (b := 0) (by omega) (by omega)).mp h1)
    refine lv_iconst (v := 0) E1 E2 d_Po_summary_23 (by decide) ?_
    refine lv_iadd E1 E2 d_Po_summary_24 ?_
    refine lv_aload_n E1 E2 d_Po_summary_25 rfl (lv_at hl 0 rfl) ?_
    refine g_Po_agreed F h (by omega) k_161 (v := N.2.1 4 x) rfl d_Po_summary_26 ?_
    have hwagr : N.2.1 4 x < 2 := wf_agr h.2.2.2 x
    refine lv_if_eq E1 E2 d_Po_summary_29 rfl (fun h2 => ?_) (fun h2 => ?_)
    · have h2 : (N.2.1 4 x) = 0 := ((nI_eq (a := N.2.1 4 x) (b := 0) (by omega) (by omega)).mp h2)
      refine lv_iconst (v := 0) E1 E2 d_Po_summary_37 (by decide) ?_
      refine lv_iadd E1 E2 d_Po_summary_38 ?_
      refine lv_bipush (v := 64) E1 E2 d_Po_summary_39 (by decide) ?_
      refine lv_aload_n E1 E2 d_Po_summary_41 rfl (lv_at hl 0 rfl) ?_
      refine g_Po_waits F h (by omega) k_162 (v := N.1 11 x) rfl d_Po_summary_42 ?_
      refine lv_imul E1 E2 d_Po_summary_45 ?_
      refine lv_iadd E1 E2 d_Po_summary_46 ?_
      have hq : r_Po_summary N x = ((((N.1 9 x) + (4 * (N.1 10 x))) + 0) + 0) + (64 * (N.1 11 x)) := Eq.trans (if_pos h1) (if_pos h2)
      exact bn_reti F hr hk h hq.symm rfl d_Po_summary_47
    · have h2 : ¬ ((N.2.1 4 x) = 0) := (fun hw => h2 ((nI_eq (a := N.2.1 4 x) (b := 0) (by omega) (by omega)).mpr hw))
      refine lv_bipush (v := 32) E1 E2 d_Po_summary_32 (by decide) ?_
      refine lv_goto E1 E2 d_Po_summary_34 rfl ?_
      refine lv_iadd E1 E2 d_Po_summary_38 ?_
      refine lv_bipush (v := 64) E1 E2 d_Po_summary_39 (by decide) ?_
      refine lv_aload_n E1 E2 d_Po_summary_41 rfl (lv_at hl 0 rfl) ?_
      refine g_Po_waits F h (by omega) k_162 (v := N.1 11 x) rfl d_Po_summary_42 ?_
      refine lv_imul E1 E2 d_Po_summary_45 ?_
      refine lv_iadd E1 E2 d_Po_summary_46 ?_
      have hq : r_Po_summary N x = ((((N.1 9 x) + (4 * (N.1 10 x))) + 0) + 32) + (64 * (N.1 11 x)) := Eq.trans (if_pos h1) (if_neg h2)
      exact bn_reti F hr hk h hq.symm rfl d_Po_summary_47
  · have h1 : ¬ ((N.2.1 3 x) = 0) := (fun hw => h1 ((nI_eq (a := N.2.1 3 x) (b := 0) (by omega) (by omega)).mpr hw))
    refine lv_bipush (v := 16) E1 E2 d_Po_summary_18 (by decide) ?_
    refine lv_goto E1 E2 d_Po_summary_20 rfl ?_
    refine lv_iadd E1 E2 d_Po_summary_24 ?_
    refine lv_aload_n E1 E2 d_Po_summary_25 rfl (lv_at hl 0 rfl) ?_
    refine g_Po_agreed F h (by omega) k_161 (v := N.2.1 4 x) rfl d_Po_summary_26 ?_
    have hwagr : N.2.1 4 x < 2 := wf_agr h.2.2.2 x
    refine lv_if_eq E1 E2 d_Po_summary_29 rfl (fun h3 => ?_) (fun h3 => ?_)
    · have h3 : (N.2.1 4 x) = 0 := ((nI_eq (a := N.2.1 4 x) (b := 0) (by omega) (by omega)).mp h3)
      refine lv_iconst (v := 0) E1 E2 d_Po_summary_37 (by decide) ?_
      refine lv_iadd E1 E2 d_Po_summary_38 ?_
      refine lv_bipush (v := 64) E1 E2 d_Po_summary_39 (by decide) ?_
      refine lv_aload_n E1 E2 d_Po_summary_41 rfl (lv_at hl 0 rfl) ?_
      refine g_Po_waits F h (by omega) k_162 (v := N.1 11 x) rfl d_Po_summary_42 ?_
      refine lv_imul E1 E2 d_Po_summary_45 ?_
      refine lv_iadd E1 E2 d_Po_summary_46 ?_
      have hq : r_Po_summary N x = ((((N.1 9 x) + (4 * (N.1 10 x))) + 16) + 0) + (64 * (N.1 11 x)) := Eq.trans (if_neg h1) (if_pos h3)
      exact bn_reti F hr hk h hq.symm rfl d_Po_summary_47
    · have h3 : ¬ ((N.2.1 4 x) = 0) := (fun hw => h3 ((nI_eq (a := N.2.1 4 x) (b := 0) (by omega) (by omega)).mpr hw))
      refine lv_bipush (v := 32) E1 E2 d_Po_summary_32 (by decide) ?_
      refine lv_goto E1 E2 d_Po_summary_34 rfl ?_
      refine lv_iadd E1 E2 d_Po_summary_38 ?_
      refine lv_bipush (v := 64) E1 E2 d_Po_summary_39 (by decide) ?_
      refine lv_aload_n E1 E2 d_Po_summary_41 rfl (lv_at hl 0 rfl) ?_
      refine g_Po_waits F h (by omega) k_162 (v := N.1 11 x) rfl d_Po_summary_42 ?_
      refine lv_imul E1 E2 d_Po_summary_45 ?_
      refine lv_iadd E1 E2 d_Po_summary_46 ?_
      have hq : r_Po_summary N x = ((((N.1 9 x) + (4 * (N.1 10 x))) + 16) + 32) + (64 * (N.1 11 x)) := Eq.trans (if_neg h1) (if_neg h3)
      exact bn_reti F hr hk h hq.symm rfl d_Po_summary_47
def r_Po_infoSummary (N : bn_S) (x : Nat) : Int64 := (((((Int32.toInt64 (r_Ve_rootOf N (N.2.2.1 1 x))) + ((Int32.toInt64 (r_Ve_costOf N (N.2.2.1 1 x))) <<< (Int32.toInt64 8 &&& 63))) + ((Int32.toInt64 (r_Ve_bridgeOf N (N.2.2.1 1 x))) <<< (Int32.toInt64 24 &&& 63))) + ((Int32.toInt64 (r_Ve_portOf N (N.2.2.1 1 x))) <<< (Int32.toInt64 32 &&& 63))) + ((Int32.toInt64 (N.1 7 x)) <<< (Int32.toInt64 40 &&& 63))) + ((Int32.toInt64 (N.1 8 x)) <<< (Int32.toInt64 48 &&& 63))
set_option maxHeartbeats 4000000 in
set_option maxRecDepth 100000 in
theorem c_Po_infoSummary (l : Launch) (D : va_G) (ar : Nat → ClassId) (ad : Nat → Nat → Nat) (nf : Nat) (N : bn_S) (x : Nat) (hx : x < 20) : bn_L l y_Po_infoSummary w_Po_infoSummary { frames := 1, cells := 0, slots := 0, locals := 21 } (bn_y D ar ad nf) N [.ref (ad 6 x)] (r_Po_infoSummary N x) N := by
  intro sz
  refine bn_start (cc := b_Po_infoSummary) (maxL := 1) (ret := (Option.some Jvm.ClassFile.FieldType.long)) (by decide) rfl (Nat.le_of_ble_eq_true rfl) ?_
  intro p e s m args below meth c ls hsz F hml hr hk hl h
  subst hsz
  have E1 := F.1
  have E2 := F.2.1
  have hl : lv_has ls 1 [(0, .ref (ad 6 x))] := hl
  refine lv_aload_n E1 E2 d_Po_infoSummary_0 rfl (lv_at hl 0 rfl) ?_
  refine g_Po_info F h (by omega) k_151 (v := N.2.2.1 1 x) rfl d_Po_infoSummary_1 ?_
  refine bn_calli F h (bn_runS (n := 1) (As := [.long (N.2.2.1 1 x)]) (rest := []) F hml hl.1 h (c_Ve_rootOf l D ar ad nf N (N.2.2.1 1 x) _) (bn_goodS k_406 k_270 k_8 k_271) rfl rfl (by decide) ⟨by decide, by decide⟩ rfl rfl (Nat.le_of_ble_eq_true rfl) d_Po_infoSummary_4 ⟨Nat.zero_le _, Nat.zero_le _⟩) (fun H locs h => ?_)
  refine lv_i2l (v := Int32.toInt64 (r_Ve_rootOf N (N.2.2.1 1 x))) E1 E2 d_Po_infoSummary_7 rfl ?_
  refine lv_aload_n E1 E2 d_Po_infoSummary_8 rfl (lv_at hl 0 rfl) ?_
  refine g_Po_info F h (by omega) k_151 (v := N.2.2.1 1 x) rfl d_Po_infoSummary_9 ?_
  refine bn_calli F h (bn_runS (n := 1) (As := [.long (N.2.2.1 1 x)]) (rest := [.long (Int32.toInt64 (r_Ve_rootOf N (N.2.2.1 1 x)))]) F hml hl.1 h (c_Ve_costOf l D ar ad nf N (N.2.2.1 1 x) _) (bn_goodS k_407 k_273 k_8 k_274) rfl rfl (by decide) ⟨by decide, by decide⟩ rfl rfl (Nat.le_of_ble_eq_true rfl) d_Po_infoSummary_12 ⟨Nat.zero_le _, Nat.zero_le _⟩) (fun H locs h => ?_)
  refine lv_i2l (v := Int32.toInt64 (r_Ve_costOf N (N.2.2.1 1 x))) E1 E2 d_Po_infoSummary_15 rfl ?_
  refine lv_bipush (v := 8) E1 E2 d_Po_infoSummary_16 (by decide) ?_
  refine lv_lshl (v := (Int32.toInt64 (r_Ve_costOf N (N.2.2.1 1 x))) <<< (Int32.toInt64 8 &&& 63)) E1 E2 d_Po_infoSummary_18 rfl ?_
  refine lv_ladd E1 E2 d_Po_infoSummary_19 ?_
  refine lv_aload_n E1 E2 d_Po_infoSummary_20 rfl (lv_at hl 0 rfl) ?_
  refine g_Po_info F h (by omega) k_151 (v := N.2.2.1 1 x) rfl d_Po_infoSummary_21 ?_
  refine bn_calli F h (bn_runS (n := 1) (As := [.long (N.2.2.1 1 x)]) (rest := [.long ((Int32.toInt64 (r_Ve_rootOf N (N.2.2.1 1 x))) + ((Int32.toInt64 (r_Ve_costOf N (N.2.2.1 1 x))) <<< (Int32.toInt64 8 &&& 63)))]) F hml hl.1 h (c_Ve_bridgeOf l D ar ad nf N (N.2.2.1 1 x) _) (bn_goodS k_408 k_260 k_8 k_261) rfl rfl (by decide) ⟨by decide, by decide⟩ rfl rfl (Nat.le_of_ble_eq_true rfl) d_Po_infoSummary_24 ⟨Nat.zero_le _, Nat.zero_le _⟩) (fun H locs h => ?_)
  refine lv_i2l (v := Int32.toInt64 (r_Ve_bridgeOf N (N.2.2.1 1 x))) E1 E2 d_Po_infoSummary_27 rfl ?_
  refine lv_bipush (v := 24) E1 E2 d_Po_infoSummary_28 (by decide) ?_
  refine lv_lshl (v := (Int32.toInt64 (r_Ve_bridgeOf N (N.2.2.1 1 x))) <<< (Int32.toInt64 24 &&& 63)) E1 E2 d_Po_infoSummary_30 rfl ?_
  refine lv_ladd E1 E2 d_Po_infoSummary_31 ?_
  refine lv_aload_n E1 E2 d_Po_infoSummary_32 rfl (lv_at hl 0 rfl) ?_
  refine g_Po_info F h (by omega) k_151 (v := N.2.2.1 1 x) rfl d_Po_infoSummary_33 ?_
  refine bn_calli F h (bn_runS (n := 1) (As := [.long (N.2.2.1 1 x)]) (rest := [.long (((Int32.toInt64 (r_Ve_rootOf N (N.2.2.1 1 x))) + ((Int32.toInt64 (r_Ve_costOf N (N.2.2.1 1 x))) <<< (Int32.toInt64 8 &&& 63))) + ((Int32.toInt64 (r_Ve_bridgeOf N (N.2.2.1 1 x))) <<< (Int32.toInt64 24 &&& 63)))]) F hml hl.1 h (c_Ve_portOf l D ar ad nf N (N.2.2.1 1 x) _) (bn_goodS k_409 k_410 k_8 k_411) rfl rfl (by decide) ⟨by decide, by decide⟩ rfl rfl (Nat.le_of_ble_eq_true rfl) d_Po_infoSummary_36 ⟨Nat.zero_le _, Nat.zero_le _⟩) (fun H locs h => ?_)
  refine lv_i2l (v := Int32.toInt64 (r_Ve_portOf N (N.2.2.1 1 x))) E1 E2 d_Po_infoSummary_39 rfl ?_
  refine lv_bipush (v := 32) E1 E2 d_Po_infoSummary_40 (by decide) ?_
  refine lv_lshl (v := (Int32.toInt64 (r_Ve_portOf N (N.2.2.1 1 x))) <<< (Int32.toInt64 32 &&& 63)) E1 E2 d_Po_infoSummary_42 rfl ?_
  refine lv_ladd E1 E2 d_Po_infoSummary_43 ?_
  refine lv_aload_n E1 E2 d_Po_infoSummary_44 rfl (lv_at hl 0 rfl) ?_
  refine g_Po_infoHops F h (by omega) k_153 (v := N.1 7 x) rfl d_Po_infoSummary_45 ?_
  refine lv_i2l (v := Int32.toInt64 (N.1 7 x)) E1 E2 d_Po_infoSummary_48 rfl ?_
  refine lv_bipush (v := 40) E1 E2 d_Po_infoSummary_49 (by decide) ?_
  refine lv_lshl (v := (Int32.toInt64 (N.1 7 x)) <<< (Int32.toInt64 40 &&& 63)) E1 E2 d_Po_infoSummary_51 rfl ?_
  refine lv_ladd E1 E2 d_Po_infoSummary_52 ?_
  refine lv_aload_n E1 E2 d_Po_infoSummary_53 rfl (lv_at hl 0 rfl) ?_
  refine g_Po_infoLife F h (by omega) k_154 (v := N.1 8 x) rfl d_Po_infoSummary_54 ?_
  refine lv_i2l (v := Int32.toInt64 (N.1 8 x)) E1 E2 d_Po_infoSummary_57 rfl ?_
  refine lv_bipush (v := 48) E1 E2 d_Po_infoSummary_58 (by decide) ?_
  refine lv_lshl (v := (Int32.toInt64 (N.1 8 x)) <<< (Int32.toInt64 48 &&& 63)) E1 E2 d_Po_infoSummary_60 rfl ?_
  refine lv_ladd E1 E2 d_Po_infoSummary_61 ?_
  have hq : r_Po_infoSummary N x = (((((Int32.toInt64 (r_Ve_rootOf N (N.2.2.1 1 x))) + ((Int32.toInt64 (r_Ve_costOf N (N.2.2.1 1 x))) <<< (Int32.toInt64 8 &&& 63))) + ((Int32.toInt64 (r_Ve_bridgeOf N (N.2.2.1 1 x))) <<< (Int32.toInt64 24 &&& 63))) + ((Int32.toInt64 (r_Ve_portOf N (N.2.2.1 1 x))) <<< (Int32.toInt64 32 &&& 63))) + ((Int32.toInt64 (N.1 7 x)) <<< (Int32.toInt64 40 &&& 63))) + ((Int32.toInt64 (N.1 8 x)) <<< (Int32.toInt64 48 &&& 63)) := rfl
  exact bn_retl F hr hk h hq.symm rfl d_Po_infoSummary_62
