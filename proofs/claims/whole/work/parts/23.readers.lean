/-! the readers again: nothing moves; written by wip/whole/gen_throw.py -/
set_option maxHeartbeats 4000000 in
set_option maxRecDepth 100000 in
theorem cp_Ne_isBridge (l : Launch) (D : va_G) (ar : Nat → ClassId) (ad : Nat → Nat → Nat) (nf : Nat) (N : bn_S) (ba : Int32) : bn_ip l y_Ne_isBridge w_Ne_isBridge { frames := 0, cells := 0, slots := 0, locals := 0 } (bn_y D ar ad nf) N [.int ba] (r_Ne_isBridge N ba) := by
  intro sz
  refine bn_start (cc := b_Ne_isBridge) (maxL := 1) (ret := (Option.some Jvm.ClassFile.FieldType.boolean)) (by decide) rfl (Nat.le_of_ble_eq_true rfl) ?_
  intro p e s m args below meth c ls hsz F hml hr hk hl h
  subst hsz
  have E1 := F.1
  have E2 := F.2.1
  have hl : lv_has ls 1 [(0, .int ba)] := hl
  refine lv_iload_n E1 E2 d_Ne_isBridge_0 rfl (lv_at hl 0 rfl) ?_
  refine lv_if_lt E1 E2 d_Ne_isBridge_1 rfl (fun h1 => ?_) (fun h1 => ?_)
  · have h1 : ba < 0 := h1
    refine lv_iconst (v := 0) E1 E2 d_Ne_isBridge_13 (by decide) ?_
    have hq : r_Ne_isBridge N ba = 0 := if_pos h1
    exact bn_pretz F hr rfl hk hq.symm d_Ne_isBridge_14
  · have h1 : ¬ (ba < 0) := h1
    refine lv_iload_n E1 E2 d_Ne_isBridge_4 rfl (lv_at hl 0 rfl) ?_
    refine lv_iconst (v := 5) E1 E2 d_Ne_isBridge_5 (by decide) ?_
    refine lv_icmp_ge E1 E2 d_Ne_isBridge_6 rfl (fun h2 => ?_) (fun h2 => ?_)
    · have h2 : 5 ≤ ba := h2
      refine lv_iconst (v := 0) E1 E2 d_Ne_isBridge_13 (by decide) ?_
      have hq : r_Ne_isBridge N ba = 0 := Eq.trans (if_neg h1) (if_pos h2)
      exact bn_pretz F hr rfl hk hq.symm d_Ne_isBridge_14
    · have h2 : ¬ (5 ≤ ba) := h2
      refine lv_iconst (v := 1) E1 E2 d_Ne_isBridge_9 (by decide) ?_
      refine lv_goto E1 E2 d_Ne_isBridge_10 rfl ?_
      have hq : r_Ne_isBridge N ba = 1 := Eq.trans (if_neg h1) (if_neg h2)
      exact bn_pretz F hr rfl hk hq.symm d_Ne_isBridge_14
set_option maxHeartbeats 4000000 in
set_option maxRecDepth 100000 in
theorem cp_Ne_isVlan (l : Launch) (D : va_G) (ar : Nat → ClassId) (ad : Nat → Nat → Nat) (nf : Nat) (N : bn_S) (va : Int32) : bn_ip l y_Ne_isVlan w_Ne_isVlan { frames := 0, cells := 0, slots := 0, locals := 0 } (bn_y D ar ad nf) N [.int va] (r_Ne_isVlan N va) := by
  intro sz
  refine bn_start (cc := b_Ne_isVlan) (maxL := 1) (ret := (Option.some Jvm.ClassFile.FieldType.boolean)) (by decide) rfl (Nat.le_of_ble_eq_true rfl) ?_
  intro p e s m args below meth c ls hsz F hml hr hk hl h
  subst hsz
  have E1 := F.1
  have E2 := F.2.1
  have hl : lv_has ls 1 [(0, .int va)] := hl
  refine lv_iload_n E1 E2 d_Ne_isVlan_0 rfl (lv_at hl 0 rfl) ?_
  refine lv_iconst (v := 1) E1 E2 d_Ne_isVlan_1 (by decide) ?_
  refine lv_icmp_lt E1 E2 d_Ne_isVlan_2 rfl (fun h1 => ?_) (fun h1 => ?_)
  · have h1 : va < 1 := h1
    refine lv_iconst (v := 0) E1 E2 d_Ne_isVlan_14 (by decide) ?_
    have hq : r_Ne_isVlan N va = 0 := if_pos h1
    exact bn_pretz F hr rfl hk hq.symm d_Ne_isVlan_15
  · have h1 : ¬ (va < 1) := h1
    refine lv_iload_n E1 E2 d_Ne_isVlan_5 rfl (lv_at hl 0 rfl) ?_
    refine lv_iconst (v := 2) E1 E2 d_Ne_isVlan_6 (by decide) ?_
    refine lv_icmp_gt E1 E2 d_Ne_isVlan_7 rfl (fun h2 => ?_) (fun h2 => ?_)
    · have h2 : 2 < va := h2
      refine lv_iconst (v := 0) E1 E2 d_Ne_isVlan_14 (by decide) ?_
      have hq : r_Ne_isVlan N va = 0 := Eq.trans (if_neg h1) (if_pos h2)
      exact bn_pretz F hr rfl hk hq.symm d_Ne_isVlan_15
    · have h2 : ¬ (2 < va) := h2
      refine lv_iconst (v := 1) E1 E2 d_Ne_isVlan_10 (by decide) ?_
      refine lv_goto E1 E2 d_Ne_isVlan_11 rfl ?_
      have hq : r_Ne_isVlan N va = 1 := Eq.trans (if_neg h1) (if_neg h2)
      exact bn_pretz F hr rfl hk hq.symm d_Ne_isVlan_15
set_option maxHeartbeats 4000000 in
set_option maxRecDepth 100000 in
theorem cp_Ne_findPort (l : Launch) (D : va_G) (ar : Nat → ClassId) (ad : Nat → Nat → Nat) (nf : Nat) (N : bn_S)  (ba : Int32) (pa : Int32) : bn_qp l y_Ne_findPort w_Ne_findPort { frames := 1, cells := 0, slots := 0, locals := 20 } (bn_y D ar ad nf) N [.ref (ad 0 0), .int ba, .int pa] ((r_Ne_findPort N ba pa).map (ad 6)) := by
  intro sz
  refine bn_start (cc := b_Ne_findPort) (maxL := 3) (ret := (Option.some (Jvm.ClassFile.FieldType.object "BridgeNet$Port"))) (by decide) rfl (Nat.le_of_ble_eq_true rfl) ?_
  intro p e s m args below meth c ls hsz F hml hr hk hl h
  subst hsz
  have E1 := F.1
  have E2 := F.2.1
  have hl : lv_has ls 3 [(0, .ref (ad 0 0)), (1, .int ba), (2, .int pa)] := hl
  refine lv_iload_n E1 E2 d_Ne_findPort_0 rfl (lv_at hl 1 rfl) ?_
  refine bn_pcall (bn_runS (n := 1) (As := [.int ba]) (rest := []) F hml hl.1 h (cp_Ne_isBridge l D ar ad nf N ba _) (bn_goodS k_233 k_234 k_1 k_235) rfl rfl (by decide) ⟨by decide, by decide⟩ rfl rfl (Nat.le_of_ble_eq_true rfl) d_Ne_findPort_1 ⟨Nat.zero_le _, Nat.zero_le _⟩) ?_
  refine lv_if_eq E1 E2 d_Ne_findPort_4 rfl (fun h1 => ?_) (fun h1 => ?_)
  · have h1 : r_Ne_isBridge N ba = 0 := h1
    refine lv_null E1 E2 d_Ne_findPort_30 ?_
    have hq : r_Ne_findPort N ba pa = none := if_pos h1
    exact bn_pretq F (v := none) hr hk (by rw [hq]; rfl) d_Ne_findPort_31
  · have h1 : ¬ (r_Ne_isBridge N ba = 0) := h1
    refine lv_iload_n E1 E2 d_Ne_findPort_7 rfl (lv_at hl 2 rfl) ?_
    refine lv_if_lt E1 E2 d_Ne_findPort_8 rfl (fun h2 => ?_) (fun h2 => ?_)
    · have h2 : pa < 0 := h2
      refine lv_null E1 E2 d_Ne_findPort_30 ?_
      have hq : r_Ne_findPort N ba pa = none := Eq.trans (if_neg h1) (if_pos h2)
      exact bn_pretq F (v := none) hr hk (by rw [hq]; rfl) d_Ne_findPort_31
    · have h2 : ¬ (pa < 0) := h2
      refine lv_iload_n E1 E2 d_Ne_findPort_11 rfl (lv_at hl 2 rfl) ?_
      refine lv_iconst (v := 4) E1 E2 d_Ne_findPort_12 (by decide) ?_
      refine lv_icmp_ge E1 E2 d_Ne_findPort_13 rfl (fun h3 => ?_) (fun h3 => ?_)
      · have h3 : 4 ≤ pa := h3
        refine lv_null E1 E2 d_Ne_findPort_30 ?_
        have hq : r_Ne_findPort N ba pa = none := Eq.trans (if_neg h1) (Eq.trans (if_neg h2) (if_pos h3))
        exact bn_pretq F (v := none) hr hk (by rw [hq]; rfl) d_Ne_findPort_31
      · have h3 : ¬ (4 ≤ pa) := h3
        refine lv_aload_n E1 E2 d_Ne_findPort_16 rfl (lv_at hl 0 rfl) ?_
        refine g_Ne_bridges F h k_219 d_Ne_findPort_17 ?_
        refine lv_iload_n E1 E2 d_Ne_findPort_20 rfl (lv_at hl 1 rfl) ?_
        have hn_ba := bn_isB h1
        have hn_ba2 := hn_ba.2
        refine bn_ti hn_ba.1 ?_
        refine al_bridges F h (i := ba.toNatClampNeg) (by omega) d_Ne_findPort_21 ?_
        refine g_Br_ports F h (by omega) k_39 d_Ne_findPort_22 ?_
        refine lv_iload_n E1 E2 d_Ne_findPort_25 rfl (lv_at hl 2 rfl) ?_
        have hn_pa := bn_natle (n := 4) h2 h3 (by decide)
        have hn_pa2 := hn_pa.2
        refine bn_ti hn_pa.1 ?_
        refine al_ports F h (by omega) (i := pa.toNatClampNeg) (by omega) d_Ne_findPort_26 ?_
        refine lv_goto E1 E2 d_Ne_findPort_27 rfl ?_
        have hq : r_Ne_findPort N ba pa = some (4 * (ba.toNatClampNeg) + (pa.toNatClampNeg)) := Eq.trans (if_neg h1) (Eq.trans (if_neg h2) (if_neg h3))
        exact bn_pretq F (v := (some (ad 6 (4 * (ba.toNatClampNeg) + (pa.toNatClampNeg))))) hr hk (by rw [hq]; rfl) d_Ne_findPort_31
set_option maxHeartbeats 4000000 in
set_option maxRecDepth 100000 in
theorem cp_Ne_findStation (l : Launch) (D : va_G) (ar : Nat → ClassId) (ad : Nat → Nat → Nat) (nf : Nat) (N : bn_S)  (sa : Int32) : bn_qp l y_Ne_findStation w_Ne_findStation { frames := 0, cells := 0, slots := 0, locals := 0 } (bn_y D ar ad nf) N [.ref (ad 0 0), .int sa] ((r_Ne_findStation N sa).map (ad 11)) := by
  intro sz
  refine bn_start (cc := b_Ne_findStation) (maxL := 2) (ret := (Option.some (Jvm.ClassFile.FieldType.object "BridgeNet$Station"))) (by decide) rfl (Nat.le_of_ble_eq_true rfl) ?_
  intro p e s m args below meth c ls hsz F hml hr hk hl h
  subst hsz
  have E1 := F.1
  have E2 := F.2.1
  have hl : lv_has ls 2 [(0, .ref (ad 0 0)), (1, .int sa)] := hl
  refine lv_iload_n E1 E2 d_Ne_findStation_0 rfl (lv_at hl 1 rfl) ?_
  refine lv_if_lt E1 E2 d_Ne_findStation_1 rfl (fun h1 => ?_) (fun h1 => ?_)
  · have h1 : sa < 0 := h1
    refine lv_null E1 E2 d_Ne_findStation_19 ?_
    have hq : r_Ne_findStation N sa = none := if_pos h1
    exact bn_pretq F (v := none) hr hk (by rw [hq]; rfl) d_Ne_findStation_20
  · have h1 : ¬ (sa < 0) := h1
    refine lv_iload_n E1 E2 d_Ne_findStation_4 rfl (lv_at hl 1 rfl) ?_
    refine lv_bipush (v := 8) E1 E2 d_Ne_findStation_5 (by decide) ?_
    refine lv_icmp_ge E1 E2 d_Ne_findStation_7 rfl (fun h2 => ?_) (fun h2 => ?_)
    · have h2 : 8 ≤ sa := h2
      refine lv_null E1 E2 d_Ne_findStation_19 ?_
      have hq : r_Ne_findStation N sa = none := Eq.trans (if_neg h1) (if_pos h2)
      exact bn_pretq F (v := none) hr hk (by rw [hq]; rfl) d_Ne_findStation_20
    · have h2 : ¬ (8 ≤ sa) := h2
      refine lv_aload_n E1 E2 d_Ne_findStation_10 rfl (lv_at hl 0 rfl) ?_
      refine g_Ne_stations F h k_220 d_Ne_findStation_11 ?_
      refine lv_iload_n E1 E2 d_Ne_findStation_14 rfl (lv_at hl 1 rfl) ?_
      have hn_sa := bn_natle (n := 8) h1 h2 (by decide)
      have hn_sa2 := hn_sa.2
      refine bn_ti hn_sa.1 ?_
      refine al_stations F h (i := sa.toNatClampNeg) (by omega) d_Ne_findStation_15 ?_
      refine lv_goto E1 E2 d_Ne_findStation_16 rfl ?_
      have hq : r_Ne_findStation N sa = some (sa.toNatClampNeg) := Eq.trans (if_neg h1) (if_neg h2)
      exact bn_pretq F (v := (some (ad 11 (sa.toNatClampNeg)))) hr hk (by rw [hq]; rfl) d_Ne_findStation_20
set_option maxHeartbeats 4000000 in
set_option maxRecDepth 100000 in
theorem cp_Po_isFree (l : Launch) (D : va_G) (ar : Nat → ClassId) (ad : Nat → Nat → Nat) (nf : Nat) (N : bn_S) (x : Nat) (hx : x < 20) : bn_ip l y_Po_isFree w_Po_isFree { frames := 0, cells := 0, slots := 0, locals := 0 } (bn_y D ar ad nf) N [.ref (ad 6 x)] (r_Po_isFree N x) := by
  intro sz
  refine bn_start (cc := b_Po_isFree) (maxL := 1) (ret := (Option.some Jvm.ClassFile.FieldType.boolean)) (by decide) rfl (Nat.le_of_ble_eq_true rfl) ?_
  intro p e s m args below meth c ls hsz F hml hr hk hl h
  subst hsz
  have E1 := F.1
  have E2 := F.2.1
  have hl : lv_has ls 1 [(0, .ref (ad 6 x))] := hl
  refine lv_aload_n E1 E2 d_Po_isFree_0 rfl (lv_at hl 0 rfl) ?_
  refine g_Po_peer F h (by omega) k_143 d_Po_isFree_1 (fun ho1 => ?_) (fun y2 ho1 hy2 => ?_)
  · skip
    refine lv_ifnonnullN E1 E2 d_Po_isFree_4 ?_
    refine lv_aload_n E1 E2 d_Po_isFree_7 rfl (lv_at hl 0 rfl) ?_
    refine g_Po_station F h (by omega) k_146 d_Po_isFree_8 (fun ho3 => ?_) (fun y4 ho3 hy4 => ?_)
    · skip
      refine lv_ifnonnullN E1 E2 d_Po_isFree_11 ?_
      refine lv_iconst (v := 1) E1 E2 d_Po_isFree_14 (by decide) ?_
      refine lv_goto E1 E2 d_Po_isFree_15 rfl ?_
      have hq : r_Po_isFree N x = 1 := Eq.trans (bn_oc_n ho1) (bn_oc_n ho3)
      exact bn_pretz F hr rfl hk hq.symm d_Po_isFree_19
    · skip
      refine lv_ifnonnull E1 E2 d_Po_isFree_11 rfl ?_
      refine lv_iconst (v := 0) E1 E2 d_Po_isFree_18 (by decide) ?_
      have hq : r_Po_isFree N x = 0 := Eq.trans (bn_oc_n ho1) (bn_oc_s ho3)
      exact bn_pretz F hr rfl hk hq.symm d_Po_isFree_19
  · skip
    refine lv_ifnonnull E1 E2 d_Po_isFree_4 rfl ?_
    refine lv_iconst (v := 0) E1 E2 d_Po_isFree_18 (by decide) ?_
    have hq : r_Po_isFree N x = 0 := bn_oc_s ho1
    exact bn_pretz F hr rfl hk hq.symm d_Po_isFree_19
