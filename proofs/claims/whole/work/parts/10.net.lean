/-! contracts of the class, written by wip/whole/gen_class.py -/
def r_Ne_isBridge (N : bn_S) (ba : Int32) : Int32 := (if ba < 0 then 0 else (if 5 ≤ ba then 0 else 1))
set_option maxHeartbeats 4000000 in
set_option maxRecDepth 100000 in
theorem c_Ne_isBridge (l : Launch) (D : va_G) (ar : Nat → ClassId) (ad : Nat → Nat → Nat) (nf : Nat) (N : bn_S) (ba : Int32) : bn_I l y_Ne_isBridge w_Ne_isBridge { frames := 0, cells := 0, slots := 0, locals := 0 } (bn_y D ar ad nf) N [.int ba] (r_Ne_isBridge N ba) N := by
  intro sz
  refine bn_start (cc := b_Ne_isBridge) (maxL := 1) (ret := (Option.some Jvm.ClassFile.FieldType.boolean)) (by decide) rfl (Nat.le_of_ble_eq_true rfl) ?_
  intro p e s m args below meth c ls hsz F hml hr hk hl h
  subst hsz
  have E1 := F.1
  have E2 := F.2.1
  have hl : lv_has ls 1 [(0, .int ba)] := hl
  refine lv_iload_n E1 E2 d_Ne_isBridge_0 rfl (lv_at hl 0 rfl) ?_
  refine lv_if_lt E1 E2 d_Ne_isBridge_1 rfl (fun h1 => ?_) (fun h1 => ?_)
  · have h1 : ba < 0 := h1
    refine lv_iconst (v := 0) E1 E2 d_Ne_isBridge_13 (by decide) ?_
    have hq : r_Ne_isBridge N ba = 0 := if_pos h1
    exact bn_retz F hr rfl hk h hq.symm rfl d_Ne_isBridge_14
  · have h1 : ¬ (ba < 0) := h1
    refine lv_iload_n E1 E2 d_Ne_isBridge_4 rfl (lv_at hl 0 rfl) ?_
    refine lv_iconst (v := 5) E1 E2 d_Ne_isBridge_5 (by decide) ?_
    refine lv_icmp_ge E1 E2 d_Ne_isBridge_6 rfl (fun h2 => ?_) (fun h2 => ?_)
    · have h2 : 5 ≤ ba := h2
      refine lv_iconst (v := 0) E1 E2 d_Ne_isBridge_13 (by decide) ?_
      have hq : r_Ne_isBridge N ba = 0 := Eq.trans (if_neg h1) (if_pos h2)
      exact bn_retz F hr rfl hk h hq.symm rfl d_Ne_isBridge_14
    · have h2 : ¬ (5 ≤ ba) := h2
      refine lv_iconst (v := 1) E1 E2 d_Ne_isBridge_9 (by decide) ?_
      refine lv_goto E1 E2 d_Ne_isBridge_10 rfl ?_
      have hq : r_Ne_isBridge N ba = 1 := Eq.trans (if_neg h1) (if_neg h2)
      exact bn_retz F hr rfl hk h hq.symm rfl d_Ne_isBridge_14
theorem bn_isB {N : bn_S} {b : Int32} (h : ¬ r_Ne_isBridge N b = 0) : b = nI b.toNatClampNeg ∧ b.toNatClampNeg < 5 := by
  unfold r_Ne_isBridge at h
  split at h
  · exact absurd rfl h
  · rename_i h0
    split at h
    · exact absurd rfl h
    · rename_i h1
      exact bn_natle (n := 5) h0 h1 (by decide)
def r_Ne_isVlan (N : bn_S) (va : Int32) : Int32 := (if va < 1 then 0 else (if 2 < va then 0 else 1))
set_option maxHeartbeats 4000000 in
set_option maxRecDepth 100000 in
theorem c_Ne_isVlan (l : Launch) (D : va_G) (ar : Nat → ClassId) (ad : Nat → Nat → Nat) (nf : Nat) (N : bn_S) (va : Int32) : bn_I l y_Ne_isVlan w_Ne_isVlan { frames := 0, cells := 0, slots := 0, locals := 0 } (bn_y D ar ad nf) N [.int va] (r_Ne_isVlan N va) N := by
  intro sz
  refine bn_start (cc := b_Ne_isVlan) (maxL := 1) (ret := (Option.some Jvm.ClassFile.FieldType.boolean)) (by decide) rfl (Nat.le_of_ble_eq_true rfl) ?_
  intro p e s m args below meth c ls hsz F hml hr hk hl h
  subst hsz
  have E1 := F.1
  have E2 := F.2.1
  have hl : lv_has ls 1 [(0, .int va)] := hl
  refine lv_iload_n E1 E2 d_Ne_isVlan_0 rfl (lv_at hl 0 rfl) ?_
  refine lv_iconst (v := 1) E1 E2 d_Ne_isVlan_1 (by decide) ?_
  refine lv_icmp_lt E1 E2 d_Ne_isVlan_2 rfl (fun h1 => ?_) (fun h1 => ?_)
  · have h1 : va < 1 := h1
    refine lv_iconst (v := 0) E1 E2 d_Ne_isVlan_14 (by decide) ?_
    have hq : r_Ne_isVlan N va = 0 := if_pos h1
    exact bn_retz F hr rfl hk h hq.symm rfl d_Ne_isVlan_15
  · have h1 : ¬ (va < 1) := h1
    refine lv_iload_n E1 E2 d_Ne_isVlan_5 rfl (lv_at hl 0 rfl) ?_
    refine lv_iconst (v := 2) E1 E2 d_Ne_isVlan_6 (by decide) ?_
    refine lv_icmp_gt E1 E2 d_Ne_isVlan_7 rfl (fun h2 => ?_) (fun h2 => ?_)
    · have h2 : 2 < va := h2
      refine lv_iconst (v := 0) E1 E2 d_Ne_isVlan_14 (by decide) ?_
      have hq : r_Ne_isVlan N va = 0 := Eq.trans (if_neg h1) (if_pos h2)
      exact bn_retz F hr rfl hk h hq.symm rfl d_Ne_isVlan_15
    · have h2 : ¬ (2 < va) := h2
      refine lv_iconst (v := 1) E1 E2 d_Ne_isVlan_10 (by decide) ?_
      refine lv_goto E1 E2 d_Ne_isVlan_11 rfl ?_
      have hq : r_Ne_isVlan N va = 1 := Eq.trans (if_neg h1) (if_neg h2)
      exact bn_retz F hr rfl hk h hq.symm rfl d_Ne_isVlan_15
theorem bn_isV {N : bn_S} {v : Int32} (h : ¬ r_Ne_isVlan N v = 0) : v = nI v.toNatClampNeg ∧ v.toNatClampNeg < 3 ∧ 1 ≤ v.toNatClampNeg := by
  unfold r_Ne_isVlan at h
  split at h
  · exact absurd rfl h
  · rename_i h0
    split at h
    · exact absurd rfl h
    · rename_i h1
      exact bn_natlt1 (n := 2) h0 h1 (by decide)
def r_Ne_findPort (N : bn_S) (ba : Int32) (pa : Int32) : Option Nat := (if r_Ne_isBridge N ba = 0 then none else (if pa < 0 then none else (if 4 ≤ pa then none else some (4 * (ba.toNatClampNeg) + (pa.toNatClampNeg)))))
set_option maxHeartbeats 4000000 in
set_option maxRecDepth 100000 in
theorem c_Ne_findPort (l : Launch) (D : va_G) (ar : Nat → ClassId) (ad : Nat → Nat → Nat) (nf : Nat) (N : bn_S)  (ba : Int32) (pa : Int32) : bn_R l y_Ne_findPort w_Ne_findPort { frames := 1, cells := 0, slots := 0, locals := 20 } (bn_y D ar ad nf) N [.ref (ad 0 0), .int ba, .int pa] ((r_Ne_findPort N ba pa).map (ad 6)) N := by
  intro sz
  refine bn_start (cc := b_Ne_findPort) (maxL := 3) (ret := (Option.some (Jvm.ClassFile.FieldType.object "BridgeNet$Port"))) (by decide) rfl (Nat.le_of_ble_eq_true rfl) ?_
  intro p e s m args below meth c ls hsz F hml hr hk hl h
  subst hsz
  have E1 := F.1
  have E2 := F.2.1
  have hl : lv_has ls 3 [(0, .ref (ad 0 0)), (1, .int ba), (2, .int pa)] := hl
  refine lv_iload_n E1 E2 d_Ne_findPort_0 rfl (lv_at hl 1 rfl) ?_
  refine bn_calli F h (bn_runS (n := 1) (As := [.int ba]) (rest := []) F hml hl.1 h (c_Ne_isBridge l D ar ad nf N ba _) (bn_goodS k_233 k_234 k_1 k_235) rfl rfl (by decide) ⟨by decide, by decide⟩ rfl rfl (Nat.le_of_ble_eq_true rfl) d_Ne_findPort_1 ⟨Nat.zero_le _, Nat.zero_le _⟩) (fun H locs h => ?_)
  refine lv_if_eq E1 E2 d_Ne_findPort_4 rfl (fun h1 => ?_) (fun h1 => ?_)
  · have h1 : r_Ne_isBridge N ba = 0 := h1
    refine lv_null E1 E2 d_Ne_findPort_30 ?_
    have hq : r_Ne_findPort N ba pa = none := if_pos h1
    exact bn_retq F (v := none) hr hk h (by rw [hq]; rfl) rfl d_Ne_findPort_31
  · have h1 : ¬ (r_Ne_isBridge N ba = 0) := h1
    refine lv_iload_n E1 E2 d_Ne_findPort_7 rfl (lv_at hl 2 rfl) ?_
    refine lv_if_lt E1 E2 d_Ne_findPort_8 rfl (fun h2 => ?_) (fun h2 => ?_)
    · have h2 : pa < 0 := h2
      refine lv_null E1 E2 d_Ne_findPort_30 ?_
      have hq : r_Ne_findPort N ba pa = none := Eq.trans (if_neg h1) (if_pos h2)
      exact bn_retq F (v := none) hr hk h (by rw [hq]; rfl) rfl d_Ne_findPort_31
    · have h2 : ¬ (pa < 0) := h2
      refine lv_iload_n E1 E2 d_Ne_findPort_11 rfl (lv_at hl 2 rfl) ?_
      refine lv_iconst (v := 4) E1 E2 d_Ne_findPort_12 (by decide) ?_
      refine lv_icmp_ge E1 E2 d_Ne_findPort_13 rfl (fun h3 => ?_) (fun h3 => ?_)
      · have h3 : 4 ≤ pa := h3
        refine lv_null E1 E2 d_Ne_findPort_30 ?_
        have hq : r_Ne_findPort N ba pa = none := Eq.trans (if_neg h1) (Eq.trans (if_neg h2) (if_pos h3))
        exact bn_retq F (v := none) hr hk h (by rw [hq]; rfl) rfl d_Ne_findPort_31
      · have h3 : ¬ (4 ≤ pa) := h3
        refine lv_aload_n E1 E2 d_Ne_findPort_16 rfl (lv_at hl 0 rfl) ?_
        refine g_Ne_bridges F h k_219 d_Ne_findPort_17 ?_
        refine lv_iload_n E1 E2 d_Ne_findPort_20 rfl (lv_at hl 1 rfl) ?_
        have hn_ba := bn_isB h1
        have hn_ba2 := hn_ba.2
        refine bn_ti hn_ba.1 ?_
        refine al_bridges F h (i := ba.toNatClampNeg) (by omega) d_Ne_findPort_21 ?_
        refine g_Br_ports F h (by omega) k_39 d_Ne_findPort_22 ?_
        refine lv_iload_n E1 E2 d_Ne_findPort_25 rfl (lv_at hl 2 rfl) ?_
        have hn_pa := bn_natle (n := 4) h2 h3 (by decide)
        have hn_pa2 := hn_pa.2
        refine bn_ti hn_pa.1 ?_
        refine al_ports F h (by omega) (i := pa.toNatClampNeg) (by omega) d_Ne_findPort_26 ?_
        refine lv_goto E1 E2 d_Ne_findPort_27 rfl ?_
        have hq : r_Ne_findPort N ba pa = some (4 * (ba.toNatClampNeg) + (pa.toNatClampNeg)) := Eq.trans (if_neg h1) (Eq.trans (if_neg h2) (if_neg h3))
        exact bn_retq F (v := (some (ad 6 (4 * (ba.toNatClampNeg) + (pa.toNatClampNeg))))) hr hk h (by rw [hq]; rfl) rfl d_Ne_findPort_31
theorem lt_Ne_findPort {N : bn_S} {b a : Int32} {y : Nat} (h : r_Ne_findPort N b a = some y) : y < 20 := by
  unfold r_Ne_findPort at h
  split at h
  · cases h
  · rename_i h0
    split at h
    · cases h
    · rename_i h1
      split at h
      · cases h
      · rename_i h2
        have h3 := (bn_isB h0).2
        have h4 := (bn_natle (n := 4) h1 h2 (by decide)).2
        cases h
        omega
def r_Ne_findStation (N : bn_S) (sa : Int32) : Option Nat := (if sa < 0 then none else (if 8 ≤ sa then none else some (sa.toNatClampNeg)))
set_option maxHeartbeats 4000000 in
set_option maxRecDepth 100000 in
theorem c_Ne_findStation (l : Launch) (D : va_G) (ar : Nat → ClassId) (ad : Nat → Nat → Nat) (nf : Nat) (N : bn_S)  (sa : Int32) : bn_R l y_Ne_findStation w_Ne_findStation { frames := 0, cells := 0, slots := 0, locals := 0 } (bn_y D ar ad nf) N [.ref (ad 0 0), .int sa] ((r_Ne_findStation N sa).map (ad 11)) N := by
  intro sz
  refine bn_start (cc := b_Ne_findStation) (maxL := 2) (ret := (Option.some (Jvm.ClassFile.FieldType.object "BridgeNet$Station"))) (by decide) rfl (Nat.le_of_ble_eq_true rfl) ?_
  intro p e s m args below meth c ls hsz F hml hr hk hl h
  subst hsz
  have E1 := F.1
  have E2 := F.2.1
  have hl : lv_has ls 2 [(0, .ref (ad 0 0)), (1, .int sa)] := hl
  refine lv_iload_n E1 E2 d_Ne_findStation_0 rfl (lv_at hl 1 rfl) ?_
  refine lv_if_lt E1 E2 d_Ne_findStation_1 rfl (fun h1 => ?_) (fun h1 => ?_)
  · have h1 : sa < 0 := h1
    refine lv_null E1 E2 d_Ne_findStation_19 ?_
    have hq : r_Ne_findStation N sa = none := if_pos h1
    exact bn_retq F (v := none) hr hk h (by rw [hq]; rfl) rfl d_Ne_findStation_20
  · have h1 : ¬ (sa < 0) := h1
    refine lv_iload_n E1 E2 d_Ne_findStation_4 rfl (lv_at hl 1 rfl) ?_
    refine lv_bipush (v := 8) E1 E2 d_Ne_findStation_5 (by decide) ?_
    refine lv_icmp_ge E1 E2 d_Ne_findStation_7 rfl (fun h2 => ?_) (fun h2 => ?_)
    · have h2 : 8 ≤ sa := h2
      refine lv_null E1 E2 d_Ne_findStation_19 ?_
      have hq : r_Ne_findStation N sa = none := Eq.trans (if_neg h1) (if_pos h2)
      exact bn_retq F (v := none) hr hk h (by rw [hq]; rfl) rfl d_Ne_findStation_20
    · have h2 : ¬ (8 ≤ sa) := h2
      refine lv_aload_n E1 E2 d_Ne_findStation_10 rfl (lv_at hl 0 rfl) ?_
      refine g_Ne_stations F h k_220 d_Ne_findStation_11 ?_
      refine lv_iload_n E1 E2 d_Ne_findStation_14 rfl (lv_at hl 1 rfl) ?_
      have hn_sa := bn_natle (n := 8) h1 h2 (by decide)
      have hn_sa2 := hn_sa.2
      refine bn_ti hn_sa.1 ?_
      refine al_stations F h (i := sa.toNatClampNeg) (by omega) d_Ne_findStation_15 ?_
      refine lv_goto E1 E2 d_Ne_findStation_16 rfl ?_
      have hq : r_Ne_findStation N sa = some (sa.toNatClampNeg) := Eq.trans (if_neg h1) (if_neg h2)
      exact bn_retq F (v := (some (ad 11 (sa.toNatClampNeg)))) hr hk h (by rw [hq]; rfl) rfl d_Ne_findStation_20
theorem bn_isS {N : bn_S} {a : Int32} {y : Nat} (h : r_Ne_findStation N a = some y) : a = nI a.toNatClampNeg ∧ a.toNatClampNeg < 8 ∧ y = a.toNatClampNeg := by
  unfold r_Ne_findStation at h
  split at h
  · cases h
  · rename_i h0
    split at h
    · cases h
    · rename_i h1
      obtain ⟨h2, h3⟩ := bn_natle (n := 8) h0 h1 (by decide)
      cases h
      exact ⟨h2, h3, rfl⟩
theorem lt_Ne_findStation {N : bn_S} {a : Int32} {y : Nat} (h : r_Ne_findStation N a = some y) : y < 8 := by
  obtain ⟨-, h1, rfl⟩ := bn_isS h
  exact h1
def o_Ne_priority (N : bn_S) (ba : Int32) (pr : Int32) : Int32 × bn_S := (if r_Ne_isBridge N ba = 0 then (0, N) else (if pr < 0 then (0, N) else (if 15 < pr then (0, N) else (if r_Br_isUnused N (ba.toNatClampNeg) = 0 then (0, N) else (1, (o_Br_compute (o_Br_rank N (ba.toNatClampNeg) (nI (pr.toNatClampNeg))) (ba.toNatClampNeg)))))))
set_option maxHeartbeats 4000000 in
set_option maxRecDepth 100000 in
theorem c_Ne_priority (l : Launch) (D : va_G) (ar : Nat → ClassId) (ad : Nat → Nat → Nat) (nf : Nat) (N : bn_S)  (ba : Int32) (pr : Int32) : bn_I l y_Ne_priority w_Ne_priority { frames := 5, cells := 0, slots := 0, locals := 118 } (bn_y D ar ad nf) N [.ref (ad 0 0), .int ba, .int pr] (o_Ne_priority N ba pr).1 (o_Ne_priority N ba pr).2 := by
  intro sz
  refine bn_start (cc := b_Ne_priority) (maxL := 3) (ret := (Option.some Jvm.ClassFile.FieldType.boolean)) (by decide) rfl (Nat.le_of_ble_eq_true rfl) ?_
  intro p e s m args below meth c ls hsz F hml hr hk hl h
  subst hsz
  have E1 := F.1
  have E2 := F.2.1
  have hl : lv_has ls 3 [(0, .ref (ad 0 0)), (1, .int ba), (2, .int pr)] := hl
  refine lv_iload_n E1 E2 d_Ne_priority_0 rfl (lv_at hl 1 rfl) ?_
  refine bn_calli F h (bn_runS (n := 1) (As := [.int ba]) (rest := []) F hml hl.1 h (c_Ne_isBridge l D ar ad nf N ba _) (bn_goodS k_233 k_234 k_1 k_235) rfl rfl (by decide) ⟨by decide, by decide⟩ rfl rfl (Nat.le_of_ble_eq_true rfl) d_Ne_priority_1 ⟨Nat.zero_le _, Nat.zero_le _⟩) (fun H locs h => ?_)
  refine lv_if_eq E1 E2 d_Ne_priority_4 rfl (fun h1 => ?_) (fun h1 => ?_)
  · have h1 : r_Ne_isBridge N ba = 0 := h1
    refine lv_iconst (v := 0) E1 E2 d_Ne_priority_29 (by decide) ?_
    have hq : o_Ne_priority N ba pr = (0, N) := if_pos h1
    exact bn_retz2 F hr rfl hk h hq d_Ne_priority_30
  · have h1 : ¬ (r_Ne_isBridge N ba = 0) := h1
    refine lv_iload_n E1 E2 d_Ne_priority_7 rfl (lv_at hl 2 rfl) ?_
    refine lv_if_lt E1 E2 d_Ne_priority_8 rfl (fun h2 => ?_) (fun h2 => ?_)
    · have h2 : pr < 0 := h2
      refine lv_iconst (v := 0) E1 E2 d_Ne_priority_29 (by decide) ?_
      have hq : o_Ne_priority N ba pr = (0, N) := Eq.trans (if_neg h1) (if_pos h2)
      exact bn_retz2 F hr rfl hk h hq d_Ne_priority_30
    · have h2 : ¬ (pr < 0) := h2
      refine lv_iload_n E1 E2 d_Ne_priority_11 rfl (lv_at hl 2 rfl) ?_
      refine lv_bipush (v := 15) E1 E2 d_Ne_priority_12 (by decide) ?_
      refine lv_icmp_gt E1 E2 d_Ne_priority_14 rfl (fun h3 => ?_) (fun h3 => ?_)
      · have h3 : 15 < pr := h3
        refine lv_iconst (v := 0) E1 E2 d_Ne_priority_29 (by decide) ?_
        have hq : o_Ne_priority N ba pr = (0, N) := Eq.trans (if_neg h1) (Eq.trans (if_neg h2) (if_pos h3))
        exact bn_retz2 F hr rfl hk h hq d_Ne_priority_30
      · have h3 : ¬ (15 < pr) := h3
        refine lv_aload_n E1 E2 d_Ne_priority_17 rfl (lv_at hl 0 rfl) ?_
        refine g_Ne_bridges F h k_219 d_Ne_priority_18 ?_
        refine lv_iload_n E1 E2 d_Ne_priority_21 rfl (lv_at hl 1 rfl) ?_
        have hn_ba := bn_isB h1
        have hn_ba2 := hn_ba.2
        refine bn_ti hn_ba.1 ?_
        refine al_bridges F h (i := ba.toNatClampNeg) (by omega) d_Ne_priority_22 ?_
        refine bn_calli F h (bn_runV (n := 0) (As := []) (rest := []) F hml hl.1 h (mm_2 (by omega)) rfl rfl (c_Br_isUnused l D ar ad nf N (ba.toNatClampNeg) (by omega) _) (bn_goodV k_236 k_237 k_238 k_2 k_239) rfl rfl (by decide) ⟨by decide, by decide⟩ rfl rfl (Nat.le_of_ble_eq_true rfl) d_Ne_priority_23 ⟨Nat.zero_le _, Nat.zero_le _⟩) (fun H locs h => ?_)
        refine lv_if_ne E1 E2 d_Ne_priority_26 rfl (fun h4 => ?_) (fun h4 => ?_)
        · have h4 : ¬ (r_Br_isUnused N (ba.toNatClampNeg) = 0) := h4
          refine lv_aload_n E1 E2 d_Ne_priority_31 rfl (lv_at hl 0 rfl) ?_
          refine g_Ne_bridges F h k_219 d_Ne_priority_32 ?_
          refine lv_iload_n E1 E2 d_Ne_priority_35 rfl (lv_at hl 1 rfl) ?_
          refine bn_ti hn_ba.1 ?_
          refine al_bridges F h (i := ba.toNatClampNeg) (by omega) d_Ne_priority_36 ?_
          refine lv_iload_n E1 E2 d_Ne_priority_37 rfl (lv_at hl 2 rfl) ?_
          have hn_pr := bn_natlt (n := 15) h2 h3 (by decide)
          have hn_pr2 := hn_pr.2
          refine bn_ti hn_pr.1 ?_
          refine bn_callv F h (bn_runV (n := 1) (As := [.int (nI (pr.toNatClampNeg))]) (rest := []) F hml hl.1 h (mm_2 (by omega)) rfl rfl (c_Br_rank l D ar ad nf N (ba.toNatClampNeg) (by omega) (nI (pr.toNatClampNeg)) _) (bn_goodV k_244 k_245 k_246 k_2 k_247) rfl rfl (by decide) ⟨by decide, by decide⟩ rfl rfl (Nat.le_of_ble_eq_true rfl) d_Ne_priority_38 ⟨Nat.zero_le _, Nat.zero_le _⟩) (fun H locs h => ?_)
          have h : bn_H (bn_y D ar ad nf) s.heap H locs (o_Br_rank N (ba.toNatClampNeg) (nI (pr.toNatClampNeg))) := h
          refine lv_aload_n E1 E2 d_Ne_priority_41 rfl (lv_at hl 0 rfl) ?_
          refine g_Ne_bridges F h k_219 d_Ne_priority_42 ?_
          refine lv_iload_n E1 E2 d_Ne_priority_45 rfl (lv_at hl 1 rfl) ?_
          refine bn_ti hn_ba.1 ?_
          refine al_bridges F h (i := ba.toNatClampNeg) (by omega) d_Ne_priority_46 ?_
          refine bn_callv F h (bn_runV (n := 0) (As := []) (rest := []) F hml hl.1 h (mm_2 (by omega)) rfl rfl (c_Br_compute l D ar ad nf (o_Br_rank N (ba.toNatClampNeg) (nI (pr.toNatClampNeg))) (ba.toNatClampNeg) (by omega) _) (bn_goodV k_248 k_249 k_250 k_2 k_251) rfl rfl (by decide) ⟨by decide, by decide⟩ rfl rfl (Nat.le_of_ble_eq_true rfl) d_Ne_priority_47 ⟨Nat.zero_le _, Nat.zero_le _⟩) (fun H locs h => ?_)
          have h : bn_H (bn_y D ar ad nf) s.heap H locs (o_Br_compute (o_Br_rank N (ba.toNatClampNeg) (nI (pr.toNatClampNeg))) (ba.toNatClampNeg)) := h
          refine lv_iconst (v := 1) E1 E2 d_Ne_priority_50 (by decide) ?_
          have hq : o_Ne_priority N ba pr = (1, (o_Br_compute (o_Br_rank N (ba.toNatClampNeg) (nI (pr.toNatClampNeg))) (ba.toNatClampNeg))) := Eq.trans (if_neg h1) (Eq.trans (if_neg h2) (Eq.trans (if_neg h3) (if_neg h4)))
          exact bn_retz2 F hr rfl hk h hq d_Ne_priority_51
        · have h4 : r_Br_isUnused N (ba.toNatClampNeg) = 0 := h4
          refine lv_iconst (v := 0) E1 E2 d_Ne_priority_29 (by decide) ?_
          have hq : o_Ne_priority N ba pr = (0, N) := Eq.trans (if_neg h1) (Eq.trans (if_neg h2) (Eq.trans (if_neg h3) (if_pos h4)))
          exact bn_retz2 F hr rfl hk h hq d_Ne_priority_30
def o_Ne_set (N : bn_S) (ba : Int32) (pa : Int32) (co : Int32) (vl : Int32) : Int32 × bn_S := (bn_oc (r_Ne_findPort N ba pa) (0, N) (fun y2 => (if co < 1 then (0, N) else (if 50 < co then (0, N) else (if vl < 1 then (0, N) else (if vl ≤ 3 then (1, (o_Br_compute (sI (sI N 5 y2 (nI (co.toNatClampNeg))) 6 y2 vl) (y2 / 4))) else (0, N)))))))
set_option maxHeartbeats 4000000 in
set_option maxRecDepth 100000 in
theorem c_Ne_set (l : Launch) (D : va_G) (ar : Nat → ClassId) (ad : Nat → Nat → Nat) (nf : Nat) (N : bn_S)  (ba : Int32) (pa : Int32) (co : Int32) (vl : Int32) : bn_I l y_Ne_set w_Ne_set { frames := 5, cells := 0, slots := 0, locals := 118 } (bn_y D ar ad nf) N [.ref (ad 0 0), .int ba, .int pa, .int co, .int vl] (o_Ne_set N ba pa co vl).1 (o_Ne_set N ba pa co vl).2 := by
  intro sz
  refine bn_start (cc := b_Ne_set) (maxL := 6) (ret := (Option.some Jvm.ClassFile.FieldType.boolean)) (by decide) rfl (Nat.le_of_ble_eq_true rfl) ?_
  intro p e s m args below meth c ls hsz F hml hr hk hl h
  subst hsz
  have E1 := F.1
  have E2 := F.2.1
  have hl : lv_has ls 6 [(0, .ref (ad 0 0)), (1, .int ba), (2, .int pa), (3, .int co), (4, .int vl)] := hl
  refine lv_aload_n E1 E2 d_Ne_set_0 rfl (lv_at hl 0 rfl) ?_
  refine lv_iload_n E1 E2 d_Ne_set_1 rfl (lv_at hl 1 rfl) ?_
  refine lv_iload_n E1 E2 d_Ne_set_2 rfl (lv_at hl 2 rfl) ?_
  have hwf := h.2.2.2
  refine bn_callq F h (bn_runV (n := 2) (As := [.int ba, .int pa]) (rest := []) F hml hl.1 h mm_0 rfl rfl (c_Ne_findPort l D ar ad nf N ba pa _) (bn_goodV k_321 k_323 ks_Ne_findPort k_1 k_324) rfl rfl (by decide) ⟨by decide, by decide⟩ rfl rfl (Nat.le_of_ble_eq_true rfl) d_Ne_set_3 ⟨Nat.zero_le _, Nat.zero_le _⟩) (fun H locs h => ?_)
  refine bn_oq (f := ad 6) (o := r_Ne_findPort N ba pa) (fun ho1 => ?_) (fun y2 ho1 => ?_)
  · skip
    refine lv_astoreN E1 E2 d_Ne_set_6 hl (by decide) rfl (fun ls hl => ?_)
    have hl : lv_has ls 6 [(5, .null), (0, .ref (ad 0 0)), (1, .int ba), (2, .int pa), (3, .int co), (4, .int vl)] := hl
    refine lv_aloadN E1 E2 d_Ne_set_8 (lv_at hl 0 rfl) ?_
    refine lv_ifnullN E1 E2 d_Ne_set_10 rfl ?_
    refine lv_iconst (v := 0) E1 E2 d_Ne_set_36 (by decide) ?_
    have hq : o_Ne_set N ba pa co vl = (0, N) := bn_oc_n ho1
    exact bn_retz2 F hr rfl hk h hq d_Ne_set_37
  · have hy2 := lt_Ne_findPort ho1
    refine lv_astore E1 E2 d_Ne_set_6 hl (by decide) rfl (fun ls hl => ?_)
    have hl : lv_has ls 6 [(5, .ref (ad 6 y2)), (0, .ref (ad 0 0)), (1, .int ba), (2, .int pa), (3, .int co), (4, .int vl)] := hl
    refine lv_aload E1 E2 d_Ne_set_8 (lv_at hl 0 rfl) ?_
    refine lv_ifnull E1 E2 d_Ne_set_10 ?_
    refine lv_iload_n E1 E2 d_Ne_set_13 rfl (lv_at hl 4 rfl) ?_
    refine lv_iconst (v := 1) E1 E2 d_Ne_set_14 (by decide) ?_
    refine lv_icmp_lt E1 E2 d_Ne_set_15 rfl (fun h3 => ?_) (fun h3 => ?_)
    · have h3 : co < 1 := h3
      refine lv_iconst (v := 0) E1 E2 d_Ne_set_36 (by decide) ?_
      have hq : o_Ne_set N ba pa co vl = (0, N) := Eq.trans (bn_oc_s ho1) (if_pos h3)
      exact bn_retz2 F hr rfl hk h hq d_Ne_set_37
    · have h3 : ¬ (co < 1) := h3
      refine lv_iload_n E1 E2 d_Ne_set_18 rfl (lv_at hl 4 rfl) ?_
      refine lv_bipush (v := 50) E1 E2 d_Ne_set_19 (by decide) ?_
      refine lv_icmp_gt E1 E2 d_Ne_set_21 rfl (fun h4 => ?_) (fun h4 => ?_)
      · have h4 : 50 < co := h4
        refine lv_iconst (v := 0) E1 E2 d_Ne_set_36 (by decide) ?_
        have hq : o_Ne_set N ba pa co vl = (0, N) := Eq.trans (bn_oc_s ho1) (Eq.trans (if_neg h3) (if_pos h4))
        exact bn_retz2 F hr rfl hk h hq d_Ne_set_37
      · have h4 : ¬ (50 < co) := h4
        refine lv_iload E1 E2 d_Ne_set_24 (lv_at hl 5 rfl) ?_
        refine lv_iconst (v := 1) E1 E2 d_Ne_set_26 (by decide) ?_
        refine lv_icmp_lt E1 E2 d_Ne_set_27 rfl (fun h5 => ?_) (fun h5 => ?_)
        · have h5 : vl < 1 := h5
          refine lv_iconst (v := 0) E1 E2 d_Ne_set_36 (by decide) ?_
          have hq : o_Ne_set N ba pa co vl = (0, N) := Eq.trans (bn_oc_s ho1) (Eq.trans (if_neg h3) (Eq.trans (if_neg h4) (if_pos h5)))
          exact bn_retz2 F hr rfl hk h hq d_Ne_set_37
        · have h5 : ¬ (vl < 1) := h5
          refine lv_iload E1 E2 d_Ne_set_30 (lv_at hl 5 rfl) ?_
          refine lv_iconst (v := 3) E1 E2 d_Ne_set_32 (by decide) ?_
          refine lv_icmp_le E1 E2 d_Ne_set_33 rfl (fun h6 => ?_) (fun h6 => ?_)
          · have h6 : vl ≤ 3 := h6
            refine lv_aload E1 E2 d_Ne_set_38 (lv_at hl 0 rfl) ?_
            refine lv_iload_n E1 E2 d_Ne_set_40 rfl (lv_at hl 4 rfl) ?_
            have hn_co := bn_natlt1 (n := 50) h3 h4 (by decide)
            have hn_co2 := hn_co.2
            refine bn_ti hn_co.1 ?_
            refine p_Po_cost F h (by omega) k_139 d_Ne_set_41 (fun H locs h => ?_)
            have h : bn_H (bn_y D ar ad nf) s.heap H locs (sI N 5 y2 (nI (co.toNatClampNeg))) := h
            refine lv_aload E1 E2 d_Ne_set_44 (lv_at hl 0 rfl) ?_
            refine lv_iload E1 E2 d_Ne_set_46 (lv_at hl 5 rfl) ?_
            refine p_Po_vlans F h (by omega) k_142 d_Ne_set_48 (fun H locs h => ?_)
            have h : bn_H (bn_y D ar ad nf) s.heap H locs (sI (sI N 5 y2 (nI (co.toNatClampNeg))) 6 y2 vl) := h
            refine lv_aload E1 E2 d_Ne_set_51 (lv_at hl 0 rfl) ?_
            refine g_Po_owner F h (by omega) k_132 d_Ne_set_53 ?_
            refine bn_callv F h (bn_runV (n := 0) (As := []) (rest := []) F hml hl.1 h (mm_2 (by omega)) rfl rfl (c_Br_compute l D ar ad nf (sI (sI N 5 y2 (nI (co.toNatClampNeg))) 6 y2 vl) (y2 / 4) (by omega) _) (bn_goodV k_248 k_249 k_250 k_2 k_251) rfl rfl (by decide) ⟨by decide, by decide⟩ rfl rfl (Nat.le_of_ble_eq_true rfl) d_Ne_set_56 ⟨Nat.zero_le _, Nat.zero_le _⟩) (fun H locs h => ?_)
            have h : bn_H (bn_y D ar ad nf) s.heap H locs (o_Br_compute (sI (sI N 5 y2 (nI (co.toNatClampNeg))) 6 y2 vl) (y2 / 4)) := h
            refine lv_iconst (v := 1) E1 E2 d_Ne_set_59 (by decide) ?_
            have hq : o_Ne_set N ba pa co vl = (1, (o_Br_compute (sI (sI N 5 y2 (nI (co.toNatClampNeg))) 6 y2 vl) (y2 / 4))) := Eq.trans (bn_oc_s ho1) (Eq.trans (if_neg h3) (Eq.trans (if_neg h4) (Eq.trans (if_neg h5) (if_pos h6))))
            exact bn_retz2 F hr rfl hk h hq d_Ne_set_60
          · have h6 : ¬ (vl ≤ 3) := h6
            refine lv_iconst (v := 0) E1 E2 d_Ne_set_36 (by decide) ?_
            have hq : o_Ne_set N ba pa co vl = (0, N) := Eq.trans (bn_oc_s ho1) (Eq.trans (if_neg h3) (Eq.trans (if_neg h4) (Eq.trans (if_neg h5) (if_neg h6))))
            exact bn_retz2 F hr rfl hk h hq d_Ne_set_37
def o_Ne_link (N : bn_S) (ba : Int32) (pa : Int32) (ca : Int32) (qa : Int32) : Int32 × bn_S := (bn_oc (r_Ne_findPort N ba pa) (bn_oc (r_Ne_findPort N ca qa) (0, N) (fun y4 => (0, N))) (fun y2 => (bn_oc (r_Ne_findPort N ca qa) (0, N) (fun y6 => (if ba = ca then (0, N) else (if r_Po_isFree N y2 = 0 then (0, N) else (if r_Po_isFree N y6 = 0 then (0, N) else (1, (o_Br_compute (o_Br_compute (o_Po_join (o_Po_join N y2 (some y6) none) y6 (some y2) none) (y2 / 4)) (y6 / 4))))))))))
set_option maxHeartbeats 4000000 in
set_option maxRecDepth 100000 in
theorem c_Ne_link (l : Launch) (D : va_G) (ar : Nat → ClassId) (ad : Nat → Nat → Nat) (nf : Nat) (N : bn_S)  (ba : Int32) (pa : Int32) (ca : Int32) (qa : Int32) : bn_I l y_Ne_link w_Ne_link { frames := 5, cells := 0, slots := 0, locals := 118 } (bn_y D ar ad nf) N [.ref (ad 0 0), .int ba, .int pa, .int ca, .int qa] (o_Ne_link N ba pa ca qa).1 (o_Ne_link N ba pa ca qa).2 := by
  intro sz
  refine bn_start (cc := b_Ne_link) (maxL := 7) (ret := (Option.some Jvm.ClassFile.FieldType.boolean)) (by decide) rfl (Nat.le_of_ble_eq_true rfl) ?_
  intro p e s m args below meth c ls hsz F hml hr hk hl h
  subst hsz
  have E1 := F.1
  have E2 := F.2.1
  have hl : lv_has ls 7 [(0, .ref (ad 0 0)), (1, .int ba), (2, .int pa), (3, .int ca), (4, .int qa)] := hl
  refine lv_aload_n E1 E2 d_Ne_link_0 rfl (lv_at hl 0 rfl) ?_
  refine lv_iload_n E1 E2 d_Ne_link_1 rfl (lv_at hl 1 rfl) ?_
  refine lv_iload_n E1 E2 d_Ne_link_2 rfl (lv_at hl 2 rfl) ?_
  have hwf := h.2.2.2
  refine bn_callq F h (bn_runV (n := 2) (As := [.int ba, .int pa]) (rest := []) F hml hl.1 h mm_0 rfl rfl (c_Ne_findPort l D ar ad nf N ba pa _) (bn_goodV k_321 k_323 ks_Ne_findPort k_1 k_324) rfl rfl (by decide) ⟨by decide, by decide⟩ rfl rfl (Nat.le_of_ble_eq_true rfl) d_Ne_link_3 ⟨Nat.zero_le _, Nat.zero_le _⟩) (fun H locs h => ?_)
  refine bn_oq (f := ad 6) (o := r_Ne_findPort N ba pa) (fun ho1 => ?_) (fun y2 ho1 => ?_)
  · skip
    refine lv_astoreN E1 E2 d_Ne_link_6 hl (by decide) rfl (fun ls hl => ?_)
    have hl : lv_has ls 7 [(5, .null), (0, .ref (ad 0 0)), (1, .int ba), (2, .int pa), (3, .int ca), (4, .int qa)] := hl
    refine lv_aload_n E1 E2 d_Ne_link_8 rfl (lv_at hl 1 rfl) ?_
    refine lv_iload_n E1 E2 d_Ne_link_9 rfl (lv_at hl 4 rfl) ?_
    refine lv_iload E1 E2 d_Ne_link_10 (lv_at hl 5 rfl) ?_
    have hwf := h.2.2.2
    refine bn_callq F h (bn_runV (n := 2) (As := [.int ca, .int qa]) (rest := []) F hml hl.1 h mm_0 rfl rfl (c_Ne_findPort l D ar ad nf N ca qa _) (bn_goodV k_321 k_323 ks_Ne_findPort k_1 k_324) rfl rfl (by decide) ⟨by decide, by decide⟩ rfl rfl (Nat.le_of_ble_eq_true rfl) d_Ne_link_12 ⟨Nat.zero_le _, Nat.zero_le _⟩) (fun H locs h => ?_)
    refine bn_oq (f := ad 6) (o := r_Ne_findPort N ca qa) (fun ho3 => ?_) (fun y4 ho3 => ?_)
    · skip
      refine lv_astoreN E1 E2 d_Ne_link_15 hl (by decide) rfl (fun ls hl => ?_)
      have hl : lv_has ls 7 [(6, .null), (5, .null), (0, .ref (ad 0 0)), (1, .int ba), (2, .int pa), (3, .int ca), (4, .int qa)] := hl
      refine lv_aloadN E1 E2 d_Ne_link_17 (lv_at hl 1 rfl) ?_
      refine lv_ifnullN E1 E2 d_Ne_link_19 rfl ?_
      refine lv_iconst (v := 0) E1 E2 d_Ne_link_48 (by decide) ?_
      have hq : o_Ne_link N ba pa ca qa = (0, N) := Eq.trans (bn_oc_n ho1) (bn_oc_n ho3)
      exact bn_retz2 F hr rfl hk h hq d_Ne_link_49
    · have hy4 := lt_Ne_findPort ho3
      refine lv_astore E1 E2 d_Ne_link_15 hl (by decide) rfl (fun ls hl => ?_)
      have hl : lv_has ls 7 [(6, .ref (ad 6 y4)), (5, .null), (0, .ref (ad 0 0)), (1, .int ba), (2, .int pa), (3, .int ca), (4, .int qa)] := hl
      refine lv_aloadN E1 E2 d_Ne_link_17 (lv_at hl 1 rfl) ?_
      refine lv_ifnullN E1 E2 d_Ne_link_19 rfl ?_
      refine lv_iconst (v := 0) E1 E2 d_Ne_link_48 (by decide) ?_
      have hq : o_Ne_link N ba pa ca qa = (0, N) := Eq.trans (bn_oc_n ho1) (bn_oc_s ho3)
      exact bn_retz2 F hr rfl hk h hq d_Ne_link_49
  · have hy2 := lt_Ne_findPort ho1
    refine lv_astore E1 E2 d_Ne_link_6 hl (by decide) rfl (fun ls hl => ?_)
    have hl : lv_has ls 7 [(5, .ref (ad 6 y2)), (0, .ref (ad 0 0)), (1, .int ba), (2, .int pa), (3, .int ca), (4, .int qa)] := hl
    refine lv_aload_n E1 E2 d_Ne_link_8 rfl (lv_at hl 1 rfl) ?_
    refine lv_iload_n E1 E2 d_Ne_link_9 rfl (lv_at hl 4 rfl) ?_
    refine lv_iload E1 E2 d_Ne_link_10 (lv_at hl 5 rfl) ?_
    have hwf := h.2.2.2
    refine bn_callq F h (bn_runV (n := 2) (As := [.int ca, .int qa]) (rest := []) F hml hl.1 h mm_0 rfl rfl (c_Ne_findPort l D ar ad nf N ca qa _) (bn_goodV k_321 k_323 ks_Ne_findPort k_1 k_324) rfl rfl (by decide) ⟨by decide, by decide⟩ rfl rfl (Nat.le_of_ble_eq_true rfl) d_Ne_link_12 ⟨Nat.zero_le _, Nat.zero_le _⟩) (fun H locs h => ?_)
    refine bn_oq (f := ad 6) (o := r_Ne_findPort N ca qa) (fun ho5 => ?_) (fun y6 ho5 => ?_)
    · skip
      refine lv_astoreN E1 E2 d_Ne_link_15 hl (by decide) rfl (fun ls hl => ?_)
      have hl : lv_has ls 7 [(6, .null), (5, .ref (ad 6 y2)), (0, .ref (ad 0 0)), (1, .int ba), (2, .int pa), (3, .int ca), (4, .int qa)] := hl
      refine lv_aload E1 E2 d_Ne_link_17 (lv_at hl 1 rfl) ?_
      refine lv_ifnull E1 E2 d_Ne_link_19 ?_
      refine lv_aloadN E1 E2 d_Ne_link_22 (lv_at hl 0 rfl) ?_
      refine lv_ifnullN E1 E2 d_Ne_link_24 rfl ?_
      refine lv_iconst (v := 0) E1 E2 d_Ne_link_48 (by decide) ?_
      have hq : o_Ne_link N ba pa ca qa = (0, N) := Eq.trans (bn_oc_s ho1) (bn_oc_n ho5)
      exact bn_retz2 F hr rfl hk h hq d_Ne_link_49
    · have hy6 := lt_Ne_findPort ho5
      refine lv_astore E1 E2 d_Ne_link_15 hl (by decide) rfl (fun ls hl => ?_)
      have hl : lv_has ls 7 [(6, .ref (ad 6 y6)), (5, .ref (ad 6 y2)), (0, .ref (ad 0 0)), (1, .int ba), (2, .int pa), (3, .int ca), (4, .int qa)] := hl
      refine lv_aload E1 E2 d_Ne_link_17 (lv_at hl 1 rfl) ?_
      refine lv_ifnull E1 E2 d_Ne_link_19 ?_
      refine lv_aload E1 E2 d_Ne_link_22 (lv_at hl 0 rfl) ?_
      refine lv_ifnull E1 E2 d_Ne_link_24 ?_
      refine lv_iload_n E1 E2 d_Ne_link_27 rfl (lv_at hl 3 rfl) ?_
      refine lv_iload_n E1 E2 d_Ne_link_28 rfl (lv_at hl 5 rfl) ?_
      refine lv_icmp_eq E1 E2 d_Ne_link_29 rfl (fun h7 => ?_) (fun h7 => ?_)
      · have h7 : ba = ca := h7
        refine lv_iconst (v := 0) E1 E2 d_Ne_link_48 (by decide) ?_
        have hq : o_Ne_link N ba pa ca qa = (0, N) := Eq.trans (bn_oc_s ho1) (Eq.trans (bn_oc_s ho5) (if_pos h7))
        exact bn_retz2 F hr rfl hk h hq d_Ne_link_49
      · have h7 : ¬ (ba = ca) := h7
        refine lv_aload E1 E2 d_Ne_link_32 (lv_at hl 1 rfl) ?_
        refine bn_calli F h (bn_runV (n := 0) (As := []) (rest := []) F hml hl.1 h (mm_6 (by omega)) rfl rfl (c_Po_isFree l D ar ad nf N y2 (by omega) _) (bn_goodV k_329 k_241 k_242 k_3 k_243) rfl rfl (by decide) ⟨by decide, by decide⟩ rfl rfl (Nat.le_of_ble_eq_true rfl) d_Ne_link_34 ⟨Nat.zero_le _, Nat.zero_le _⟩) (fun H locs h => ?_)
        refine lv_if_eq E1 E2 d_Ne_link_37 rfl (fun h8 => ?_) (fun h8 => ?_)
        · have h8 : r_Po_isFree N y2 = 0 := h8
          refine lv_iconst (v := 0) E1 E2 d_Ne_link_48 (by decide) ?_
          have hq : o_Ne_link N ba pa ca qa = (0, N) := Eq.trans (bn_oc_s ho1) (Eq.trans (bn_oc_s ho5) (Eq.trans (if_neg h7) (if_pos h8)))
          exact bn_retz2 F hr rfl hk h hq d_Ne_link_49
        · have h8 : ¬ (r_Po_isFree N y2 = 0) := h8
          refine lv_aload E1 E2 d_Ne_link_40 (lv_at hl 0 rfl) ?_
          refine bn_calli F h (bn_runV (n := 0) (As := []) (rest := []) F hml hl.1 h (mm_6 (by omega)) rfl rfl (c_Po_isFree l D ar ad nf N y6 (by omega) _) (bn_goodV k_329 k_241 k_242 k_3 k_243) rfl rfl (by decide) ⟨by decide, by decide⟩ rfl rfl (Nat.le_of_ble_eq_true rfl) d_Ne_link_42 ⟨Nat.zero_le _, Nat.zero_le _⟩) (fun H locs h => ?_)
          refine lv_if_ne E1 E2 d_Ne_link_45 rfl (fun h9 => ?_) (fun h9 => ?_)
          · have h9 : ¬ (r_Po_isFree N y6 = 0) := h9
            refine lv_aload E1 E2 d_Ne_link_50 (lv_at hl 1 rfl) ?_
            refine lv_aload E1 E2 d_Ne_link_52 (lv_at hl 0 rfl) ?_
            refine lv_null E1 E2 d_Ne_link_54 ?_
            refine bn_callv F h (bn_runV (n := 2) (As := [.ref (ad 6 y6), .null]) (rest := []) F hml hl.1 h (mm_6 (by omega)) rfl rfl (c_Po_join l D ar ad nf N y2 (by omega) (some y6) (fun _ hz => by cases hz; omega) none (fun _ hz => by cases hz) _) (bn_goodV k_330 k_331 k_332 k_3 k_333) rfl rfl (by decide) ⟨by decide, by decide⟩ rfl rfl (Nat.le_of_ble_eq_true rfl) d_Ne_link_55 ⟨Nat.zero_le _, Nat.zero_le _⟩) (fun H locs h => ?_)
            have h : bn_H (bn_y D ar ad nf) s.heap H locs (o_Po_join N y2 (some y6) none) := h
            refine lv_aload E1 E2 d_Ne_link_58 (lv_at hl 0 rfl) ?_
            refine lv_aload E1 E2 d_Ne_link_60 (lv_at hl 1 rfl) ?_
            refine lv_null E1 E2 d_Ne_link_62 ?_
            refine bn_callv F h (bn_runV (n := 2) (As := [.ref (ad 6 y2), .null]) (rest := []) F hml hl.1 h (mm_6 (by omega)) rfl rfl (c_Po_join l D ar ad nf (o_Po_join N y2 (some y6) none) y6 (by omega) (some y2) (fun _ hz => by cases hz; omega) none (fun _ hz => by cases hz) _) (bn_goodV k_330 k_331 k_332 k_3 k_333) rfl rfl (by decide) ⟨by decide, by decide⟩ rfl rfl (Nat.le_of_ble_eq_true rfl) d_Ne_link_63 ⟨Nat.zero_le _, Nat.zero_le _⟩) (fun H locs h => ?_)
            have h : bn_H (bn_y D ar ad nf) s.heap H locs (o_Po_join (o_Po_join N y2 (some y6) none) y6 (some y2) none) := h
            refine lv_aload E1 E2 d_Ne_link_66 (lv_at hl 1 rfl) ?_
            refine g_Po_owner F h (by omega) k_132 d_Ne_link_68 ?_
            refine bn_callv F h (bn_runV (n := 0) (As := []) (rest := []) F hml hl.1 h (mm_2 (by omega)) rfl rfl (c_Br_compute l D ar ad nf (o_Po_join (o_Po_join N y2 (some y6) none) y6 (some y2) none) (y2 / 4) (by omega) _) (bn_goodV k_248 k_249 k_250 k_2 k_251) rfl rfl (by decide) ⟨by decide, by decide⟩ rfl rfl (Nat.le_of_ble_eq_true rfl) d_Ne_link_71 ⟨Nat.zero_le _, Nat.zero_le _⟩) (fun H locs h => ?_)
            have h : bn_H (bn_y D ar ad nf) s.heap H locs (o_Br_compute (o_Po_join (o_Po_join N y2 (some y6) none) y6 (some y2) none) (y2 / 4)) := h
            refine lv_aload E1 E2 d_Ne_link_74 (lv_at hl 0 rfl) ?_
            refine g_Po_owner F h (by omega) k_132 d_Ne_link_76 ?_
            refine bn_callv F h (bn_runV (n := 0) (As := []) (rest := []) F hml hl.1 h (mm_2 (by omega)) rfl rfl (c_Br_compute l D ar ad nf (o_Br_compute (o_Po_join (o_Po_join N y2 (some y6) none) y6 (some y2) none) (y2 / 4)) (y6 / 4) (by omega) _) (bn_goodV k_248 k_249 k_250 k_2 k_251) rfl rfl (by decide) ⟨by decide, by decide⟩ rfl rfl (Nat.le_of_ble_eq_true rfl) d_Ne_link_79 ⟨Nat.zero_le _, Nat.zero_le _⟩) (fun H locs h => ?_)
            have h : bn_H (bn_y D ar ad nf) s.heap H locs (o_Br_compute (o_Br_compute (o_Po_join (o_Po_join N y2 (some y6) none) y6 (some y2) none) (y2 / 4)) (y6 / 4)) := h
            refine lv_iconst (v := 1) E1 E2 d_Ne_link_82 (by decide) ?_
            have hq : o_Ne_link N ba pa ca qa = (1, (o_Br_compute (o_Br_compute (o_Po_join (o_Po_join N y2 (some y6) none) y6 (some y2) none) (y2 / 4)) (y6 / 4))) := Eq.trans (bn_oc_s ho1) (Eq.trans (bn_oc_s ho5) (Eq.trans (if_neg h7) (Eq.trans (if_neg h8) (if_neg h9))))
            exact bn_retz2 F hr rfl hk h hq d_Ne_link_83
          · have h9 : r_Po_isFree N y6 = 0 := h9
            refine lv_iconst (v := 0) E1 E2 d_Ne_link_48 (by decide) ?_
            have hq : o_Ne_link N ba pa ca qa = (0, N) := Eq.trans (bn_oc_s ho1) (Eq.trans (bn_oc_s ho5) (Eq.trans (if_neg h7) (Eq.trans (if_neg h8) (if_pos h9))))
            exact bn_retz2 F hr rfl hk h hq d_Ne_link_49
def o_Ne_cut (N : bn_S) (ba : Int32) (pa : Int32) : Int32 × bn_S := (bn_oc (r_Ne_findPort N ba pa) (0, N) (fun y2 => (bn_oc (N.2.2.2 2 y2) (0, N) (fun y4 => (1, (o_Br_compute (o_Br_compute (o_Po_join (o_Po_join N y2 none none) y4 none none) (y2 / 4)) (y4 / 4)))))))
set_option maxHeartbeats 4000000 in
set_option maxRecDepth 100000 in
theorem c_Ne_cut (l : Launch) (D : va_G) (ar : Nat → ClassId) (ad : Nat → Nat → Nat) (nf : Nat) (N : bn_S)  (ba : Int32) (pa : Int32) : bn_I l y_Ne_cut w_Ne_cut { frames := 5, cells := 0, slots := 0, locals := 118 } (bn_y D ar ad nf) N [.ref (ad 0 0), .int ba, .int pa] (o_Ne_cut N ba pa).1 (o_Ne_cut N ba pa).2 := by
  intro sz
  refine bn_start (cc := b_Ne_cut) (maxL := 5) (ret := (Option.some Jvm.ClassFile.FieldType.boolean)) (by decide) rfl (Nat.le_of_ble_eq_true rfl) ?_
  intro p e s m args below meth c ls hsz F hml hr hk hl h
  subst hsz
  have E1 := F.1
  have E2 := F.2.1
  have hl : lv_has ls 5 [(0, .ref (ad 0 0)), (1, .int ba), (2, .int pa)] := hl
  refine lv_aload_n E1 E2 d_Ne_cut_0 rfl (lv_at hl 0 rfl) ?_
  refine lv_iload_n E1 E2 d_Ne_cut_1 rfl (lv_at hl 1 rfl) ?_
  refine lv_iload_n E1 E2 d_Ne_cut_2 rfl (lv_at hl 2 rfl) ?_
  have hwf := h.2.2.2
  refine bn_callq F h (bn_runV (n := 2) (As := [.int ba, .int pa]) (rest := []) F hml hl.1 h mm_0 rfl rfl (c_Ne_findPort l D ar ad nf N ba pa _) (bn_goodV k_321 k_323 ks_Ne_findPort k_1 k_324) rfl rfl (by decide) ⟨by decide, by decide⟩ rfl rfl (Nat.le_of_ble_eq_true rfl) d_Ne_cut_3 ⟨Nat.zero_le _, Nat.zero_le _⟩) (fun H locs h => ?_)
  refine bn_oq (f := ad 6) (o := r_Ne_findPort N ba pa) (fun ho1 => ?_) (fun y2 ho1 => ?_)
  · skip
    refine lv_astore_nN E1 E2 d_Ne_cut_6 rfl hl (by decide) rfl (fun ls hl => ?_)
    have hl : lv_has ls 5 [(3, .null), (0, .ref (ad 0 0)), (1, .int ba), (2, .int pa)] := hl
    refine lv_aload_nN E1 E2 d_Ne_cut_7 rfl (lv_at hl 0 rfl) ?_
    refine lv_ifnullN E1 E2 d_Ne_cut_8 rfl ?_
    refine lv_iconst (v := 0) E1 E2 d_Ne_cut_18 (by decide) ?_
    have hq : o_Ne_cut N ba pa = (0, N) := bn_oc_n ho1
    exact bn_retz2 F hr rfl hk h hq d_Ne_cut_19
  · have hy2 := lt_Ne_findPort ho1
    refine lv_astore_n E1 E2 d_Ne_cut_6 rfl hl (by decide) rfl (fun ls hl => ?_)
    have hl : lv_has ls 5 [(3, .ref (ad 6 y2)), (0, .ref (ad 0 0)), (1, .int ba), (2, .int pa)] := hl
    refine lv_aload_n E1 E2 d_Ne_cut_7 rfl (lv_at hl 0 rfl) ?_
    refine lv_ifnull E1 E2 d_Ne_cut_8 ?_
    refine lv_aload_n E1 E2 d_Ne_cut_11 rfl (lv_at hl 0 rfl) ?_
    refine g_Po_peer F h (by omega) k_144 d_Ne_cut_12 (fun ho3 => ?_) (fun y4 ho3 hy4 => ?_)
    · skip
      refine lv_ifnonnullN E1 E2 d_Ne_cut_15 ?_
      refine lv_iconst (v := 0) E1 E2 d_Ne_cut_18 (by decide) ?_
      have hq : o_Ne_cut N ba pa = (0, N) := Eq.trans (bn_oc_s ho1) (bn_oc_n ho3)
      exact bn_retz2 F hr rfl hk h hq d_Ne_cut_19
    · skip
      refine lv_ifnonnull E1 E2 d_Ne_cut_15 rfl ?_
      refine lv_aload_n E1 E2 d_Ne_cut_20 rfl (lv_at hl 0 rfl) ?_
      refine g_Po_peer_s F h (by omega) k_144 ho3 d_Ne_cut_21 ?_
      refine lv_astore E1 E2 d_Ne_cut_24 hl (by decide) rfl (fun ls hl => ?_)
      have hl : lv_has ls 5 [(4, .ref (ad 6 y4)), (3, .ref (ad 6 y2)), (0, .ref (ad 0 0)), (1, .int ba), (2, .int pa)] := hl
      refine lv_aload_n E1 E2 d_Ne_cut_26 rfl (lv_at hl 1 rfl) ?_
      refine lv_null E1 E2 d_Ne_cut_27 ?_
      refine lv_null E1 E2 d_Ne_cut_28 ?_
      refine bn_callv F h (bn_runV (n := 2) (As := [.null, .null]) (rest := []) F hml hl.1 h (mm_6 (by omega)) rfl rfl (c_Po_join l D ar ad nf N y2 (by omega) none (fun _ hz => by cases hz) none (fun _ hz => by cases hz) _) (bn_goodV k_330 k_331 k_332 k_3 k_333) rfl rfl (by decide) ⟨by decide, by decide⟩ rfl rfl (Nat.le_of_ble_eq_true rfl) d_Ne_cut_29 ⟨Nat.zero_le _, Nat.zero_le _⟩) (fun H locs h => ?_)
      have h : bn_H (bn_y D ar ad nf) s.heap H locs (o_Po_join N y2 none none) := h
      refine lv_aload E1 E2 d_Ne_cut_32 (lv_at hl 0 rfl) ?_
      refine lv_null E1 E2 d_Ne_cut_34 ?_
      refine lv_null E1 E2 d_Ne_cut_35 ?_
      refine bn_callv F h (bn_runV (n := 2) (As := [.null, .null]) (rest := []) F hml hl.1 h (mm_6 (by omega)) rfl rfl (c_Po_join l D ar ad nf (o_Po_join N y2 none none) y4 (by omega) none (fun _ hz => by cases hz) none (fun _ hz => by cases hz) _) (bn_goodV k_330 k_331 k_332 k_3 k_333) rfl rfl (by decide) ⟨by decide, by decide⟩ rfl rfl (Nat.le_of_ble_eq_true rfl) d_Ne_cut_36 ⟨Nat.zero_le _, Nat.zero_le _⟩) (fun H locs h => ?_)
      have h : bn_H (bn_y D ar ad nf) s.heap H locs (o_Po_join (o_Po_join N y2 none none) y4 none none) := h
      refine lv_aload_n E1 E2 d_Ne_cut_39 rfl (lv_at hl 1 rfl) ?_
      refine g_Po_owner F h (by omega) k_132 d_Ne_cut_40 ?_
      refine bn_callv F h (bn_runV (n := 0) (As := []) (rest := []) F hml hl.1 h (mm_2 (by omega)) rfl rfl (c_Br_compute l D ar ad nf (o_Po_join (o_Po_join N y2 none none) y4 none none) (y2 / 4) (by omega) _) (bn_goodV k_248 k_249 k_250 k_2 k_251) rfl rfl (by decide) ⟨by decide, by decide⟩ rfl rfl (Nat.le_of_ble_eq_true rfl) d_Ne_cut_43 ⟨Nat.zero_le _, Nat.zero_le _⟩) (fun H locs h => ?_)
      have h : bn_H (bn_y D ar ad nf) s.heap H locs (o_Br_compute (o_Po_join (o_Po_join N y2 none none) y4 none none) (y2 / 4)) := h
      refine lv_aload E1 E2 d_Ne_cut_46 (lv_at hl 0 rfl) ?_
      refine g_Po_owner F h (by omega) k_132 d_Ne_cut_48 ?_
      refine bn_callv F h (bn_runV (n := 0) (As := []) (rest := []) F hml hl.1 h (mm_2 (by omega)) rfl rfl (c_Br_compute l D ar ad nf (o_Br_compute (o_Po_join (o_Po_join N y2 none none) y4 none none) (y2 / 4)) (y4 / 4) (by omega) _) (bn_goodV k_248 k_249 k_250 k_2 k_251) rfl rfl (by decide) ⟨by decide, by decide⟩ rfl rfl (Nat.le_of_ble_eq_true rfl) d_Ne_cut_51 ⟨Nat.zero_le _, Nat.zero_le _⟩) (fun H locs h => ?_)
      have h : bn_H (bn_y D ar ad nf) s.heap H locs (o_Br_compute (o_Br_compute (o_Po_join (o_Po_join N y2 none none) y4 none none) (y2 / 4)) (y4 / 4)) := h
      refine lv_iconst (v := 1) E1 E2 d_Ne_cut_54 (by decide) ?_
      have hq : o_Ne_cut N ba pa = (1, (o_Br_compute (o_Br_compute (o_Po_join (o_Po_join N y2 none none) y4 none none) (y2 / 4)) (y4 / 4))) := Eq.trans (bn_oc_s ho1) (bn_oc_s ho3)
      exact bn_retz2 F hr rfl hk h hq d_Ne_cut_55
def o_Ne_lose (N : bn_S) (ba : Int32) (pa : Int32) : Int32 × bn_S := (bn_oc (r_Ne_findPort N ba pa) (0, N) (fun y2 => (bn_oc ((o_Li_takeFirst N y2).1) (0, (o_Li_takeFirst N y2).2) (fun y4 => (1, (o_Li_takeFirst N y2).2)))))
set_option maxHeartbeats 4000000 in
set_option maxRecDepth 100000 in
theorem c_Ne_lose (l : Launch) (D : va_G) (ar : Nat → ClassId) (ad : Nat → Nat → Nat) (nf : Nat) (N : bn_S)  (ba : Int32) (pa : Int32) : bn_I l y_Ne_lose w_Ne_lose { frames := 2, cells := 0, slots := 0, locals := 42 } (bn_y D ar ad nf) N [.ref (ad 0 0), .int ba, .int pa] (o_Ne_lose N ba pa).1 (o_Ne_lose N ba pa).2 := by
  intro sz
  refine bn_start (cc := b_Ne_lose) (maxL := 4) (ret := (Option.some Jvm.ClassFile.FieldType.boolean)) (by decide) rfl (Nat.le_of_ble_eq_true rfl) ?_
  intro p e s m args below meth c ls hsz F hml hr hk hl h
  subst hsz
  have E1 := F.1
  have E2 := F.2.1
  have hl : lv_has ls 4 [(0, .ref (ad 0 0)), (1, .int ba), (2, .int pa)] := hl
  refine lv_aload_n E1 E2 d_Ne_lose_0 rfl (lv_at hl 0 rfl) ?_
  refine lv_iload_n E1 E2 d_Ne_lose_1 rfl (lv_at hl 1 rfl) ?_
  refine lv_iload_n E1 E2 d_Ne_lose_2 rfl (lv_at hl 2 rfl) ?_
  have hwf := h.2.2.2
  refine bn_callq F h (bn_runV (n := 2) (As := [.int ba, .int pa]) (rest := []) F hml hl.1 h mm_0 rfl rfl (c_Ne_findPort l D ar ad nf N ba pa _) (bn_goodV k_321 k_323 ks_Ne_findPort k_1 k_324) rfl rfl (by decide) ⟨by decide, by decide⟩ rfl rfl (Nat.le_of_ble_eq_true rfl) d_Ne_lose_3 ⟨Nat.zero_le _, Nat.zero_le _⟩) (fun H locs h => ?_)
  refine bn_oq (f := ad 6) (o := r_Ne_findPort N ba pa) (fun ho1 => ?_) (fun y2 ho1 => ?_)
  · skip
    refine lv_astore_nN E1 E2 d_Ne_lose_6 rfl hl (by decide) rfl (fun ls hl => ?_)
    have hl : lv_has ls 4 [(3, .null), (0, .ref (ad 0 0)), (1, .int ba), (2, .int pa)] := hl
    refine lv_aload_nN E1 E2 d_Ne_lose_7 rfl (lv_at hl 0 rfl) ?_
    refine lv_ifnullN E1 E2 d_Ne_lose_8 rfl ?_
    refine lv_iconst (v := 0) E1 E2 d_Ne_lose_25 (by decide) ?_
    have hq : o_Ne_lose N ba pa = (0, N) := bn_oc_n ho1
    exact bn_retz2 F hr rfl hk h hq d_Ne_lose_26
  · have hy2 := lt_Ne_findPort ho1
    refine lv_astore_n E1 E2 d_Ne_lose_6 rfl hl (by decide) rfl (fun ls hl => ?_)
    have hl : lv_has ls 4 [(3, .ref (ad 6 y2)), (0, .ref (ad 0 0)), (1, .int ba), (2, .int pa)] := hl
    refine lv_aload_n E1 E2 d_Ne_lose_7 rfl (lv_at hl 0 rfl) ?_
    refine lv_ifnull E1 E2 d_Ne_lose_8 ?_
    refine lv_aload_n E1 E2 d_Ne_lose_11 rfl (lv_at hl 0 rfl) ?_
    refine g_Po_line F h (by omega) k_136 d_Ne_lose_12 ?_
    have hwf := h.2.2.2
    refine bn_callq F h (bn_runV (n := 0) (As := []) (rest := []) F hml hl.1 h (mm_7 (by omega)) rfl rfl (c_Li_takeFirst l D ar ad nf N y2 (by omega) _) (bn_goodV k_351 k_352 k_353 k_4 k_354) rfl rfl (by decide) ⟨by decide, by decide⟩ rfl rfl (Nat.le_of_ble_eq_true rfl) d_Ne_lose_15 ⟨Nat.zero_le _, Nat.zero_le _⟩) (fun H locs h => ?_)
    have h : bn_H (bn_y D ar ad nf) s.heap H locs (o_Li_takeFirst N y2).2 := h
    refine bn_oq (f := ad 9) (o := (o_Li_takeFirst N y2).1) (fun ho3 => ?_) (fun y4 ho3 => ?_)
    · skip
      refine lv_ifnullN E1 E2 d_Ne_lose_18 rfl ?_
      refine lv_iconst (v := 0) E1 E2 d_Ne_lose_25 (by decide) ?_
      have hq : o_Ne_lose N ba pa = (0, (o_Li_takeFirst N y2).2) := Eq.trans (bn_oc_s ho1) (bn_oc_n ho3)
      exact bn_retz2 F hr rfl hk h hq d_Ne_lose_26
    · have hy4 := lt_Li_takeFirst hwf (by omega) ho3
      refine lv_ifnull E1 E2 d_Ne_lose_18 ?_
      refine lv_iconst (v := 1) E1 E2 d_Ne_lose_21 (by decide) ?_
      refine lv_goto E1 E2 d_Ne_lose_22 rfl ?_
      have hq : o_Ne_lose N ba pa = (1, (o_Li_takeFirst N y2).2) := Eq.trans (bn_oc_s ho1) (bn_oc_s ho3)
      exact bn_retz2 F hr rfl hk h hq d_Ne_lose_26
def bd_Ne_tick  (k : Nat) (q : bn_S) : bn_S := (if ((o_Br_age q k).2.1 1 0) = 0 then (o_Br_age q k) else (o_Br_tellOnAll (o_Br_age q k) k))
def it_Ne_tick  (q0 : bn_S) : Nat → bn_S
  | 0 => q0
  | k + 1 => bd_Ne_tick  k (it_Ne_tick  q0 k)
theorem it_Ne_tick_s  (q0 : bn_S) (k : Nat) : bd_Ne_tick  k (it_Ne_tick  q0 k) = it_Ne_tick  q0 (k + 1) := rfl
def o_Ne_tick (N : bn_S)  : bn_S := (if ((it_Ne_tick  N 5).2.1 1 0) = 0 then (sU (it_Ne_tick  N 5) 1 0 1) else (sU (it_Ne_tick  N 5) 1 0 0))
set_option maxHeartbeats 4000000 in
set_option maxRecDepth 100000 in
theorem c_Ne_tick (l : Launch) (D : va_G) (ar : Nat → ClassId) (ad : Nat → Nat → Nat) (nf : Nat) (N : bn_S)  : bn_V l y_Ne_tick w_Ne_tick { frames := 6, cells := 0, slots := 0, locals := 142 } (bn_y D ar ad nf) N [.ref (ad 0 0)] (o_Ne_tick N) := by
  intro sz
  refine bn_start (cc := b_Ne_tick) (maxL := 2) (ret := (Option.none : Option Jvm.ClassFile.FieldType)) (by decide) rfl (Nat.le_of_ble_eq_true rfl) ?_
  intro p e s m args below meth c ls hsz F hml hr hk hl h
  subst hsz
  have E1 := F.1
  have E2 := F.2.1
  have hl : lv_has ls 2 [(0, .ref (ad 0 0))] := hl
  refine lv_iconst (v := 0) E1 E2 d_Ne_tick_0 (by decide) ?_
  refine lv_istore_n E1 E2 d_Ne_tick_1 rfl hl (by decide) rfl (fun ls hl => ?_)
  have hl : lv_has ls 2 [(1, .int 0), (0, .ref (ad 0 0))] := hl
  have hs2 : ∀ (Q0 : State → Prop) (k : Nat), k < 5 → ∀ (q : bn_S) (H : Heap) (locs : List Loc) (ls : Array Slot), lv_has ls 2 [(0, .ref (ad 0 0)), (1, .int (nI k))] → bn_H (bn_y D ar ad nf) s.heap H locs q → (∀ (H : Heap) (locs : List Loc) (ls : Array Slot), lv_has ls 2 [(0, .ref (ad 0 0)), (1, .int (nI (k + 1)))] → bn_H (bn_y D ar ad nf) s.heap H locs (bd_Ne_tick  k q) → W p l e { frames := 6, cells := 0, slots := 0, locals := 142 } s m args below meth c H locs 0 0 Q0 (F0 m 2 ls [])) → W p l e { frames := 6, cells := 0, slots := 0, locals := 142 } s m args below meth c H locs 0 0 Q0 (F0 m 2 ls []) := by
    intro Q0 k hkk q H locs ls hl h kk
    refine lv_iload_n E1 E2 d_Ne_tick_2 rfl (lv_at hl 1 rfl) ?_
    refine lv_iconst (v := 5) E1 E2 d_Ne_tick_3 (by decide) ?_
    refine lv_icmp_ge E1 E2 d_Ne_tick_4 rfl (fun hz => absurd ((nI_leI (a := 5) (b := k) (by omega) (by omega)).mp hz) (by omega)) (fun _ => ?_)
    refine lv_aload_n E1 E2 d_Ne_tick_7 rfl (lv_at hl 0 rfl) ?_
    refine g_Ne_bridges F h k_219 d_Ne_tick_8 ?_
    refine lv_iload_n E1 E2 d_Ne_tick_11 rfl (lv_at hl 1 rfl) ?_
    refine al_bridges F h (i := k) (by omega) d_Ne_tick_12 ?_
    refine bn_callv F h (bn_runV (n := 0) (As := []) (rest := []) F hml hl.1 h (mm_2 (by omega)) rfl rfl (c_Br_age l D ar ad nf q k (by omega) _) (bn_goodV k_359 k_360 k_361 k_2 k_362) rfl rfl (by decide) ⟨by decide, by decide⟩ rfl rfl (Nat.le_of_ble_eq_true rfl) d_Ne_tick_13 ⟨Nat.zero_le _, Nat.zero_le _⟩) (fun H locs h => ?_)
    have h : bn_H (bn_y D ar ad nf) s.heap H locs (o_Br_age q k) := h
    refine lv_aload_n E1 E2 d_Ne_tick_16 rfl (lv_at hl 0 rfl) ?_
    refine g_Ne_tellsAtNextTick F h k_221 (v := (o_Br_age q k).2.1 1 0) rfl d_Ne_tick_17 ?_
    have hwtells : (o_Br_age q k).2.1 1 0 < 2 := wf_tells h.2.2.2 0
    refine lv_if_eq E1 E2 d_Ne_tick_20 rfl (fun h1 => ?_) (fun h1 => ?_)
    · have h1 : ((o_Br_age q k).2.1 1 0) = 0 := ((nI_eq (a := (o_Br_age q k).2.1 1 0) (b := 0) (by omega) (by omega)).mp h1)
      refine lv_iinc (v := (nI (k + 1))) E1 E2 d_Ne_tick_32 hl (k := 1) rfl (nI_1 _) (by decide) rfl (fun ls hl => ?_)
      have hl : lv_has ls 2 [(1, .int (nI (k + 1))), (0, .ref (ad 0 0))] := hl
      refine lv_goto E1 E2 d_Ne_tick_35 rfl ?_
      have hq : (bd_Ne_tick  k q) = (o_Br_age q k) := if_pos h1
      rw [hq] at kk
      exact kk _ _ ls (lv_sub hl [1, 0] rfl) h
    · have h1 : ¬ (((o_Br_age q k).2.1 1 0) = 0) := (fun hw => h1 ((nI_eq (a := (o_Br_age q k).2.1 1 0) (b := 0) (by omega) (by omega)).mpr hw))
      refine lv_aload_n E1 E2 d_Ne_tick_23 rfl (lv_at hl 0 rfl) ?_
      refine g_Ne_bridges F h k_219 d_Ne_tick_24 ?_
      refine lv_iload_n E1 E2 d_Ne_tick_27 rfl (lv_at hl 1 rfl) ?_
      refine al_bridges F h (i := k) (by omega) d_Ne_tick_28 ?_
      refine bn_callv F h (bn_runV (n := 0) (As := []) (rest := []) F hml hl.1 h (mm_2 (by omega)) rfl rfl (c_Br_tellOnAll l D ar ad nf (o_Br_age q k) k (by omega) _) (bn_goodV k_380 k_297 k_298 k_2 k_299) rfl rfl (by decide) ⟨by decide, by decide⟩ rfl rfl (Nat.le_of_ble_eq_true rfl) d_Ne_tick_29 ⟨Nat.zero_le _, Nat.zero_le _⟩) (fun H locs h => ?_)
      have h : bn_H (bn_y D ar ad nf) s.heap H locs (o_Br_tellOnAll (o_Br_age q k) k) := h
      refine lv_iinc (v := (nI (k + 1))) E1 E2 d_Ne_tick_32 hl (k := 1) rfl (nI_1 _) (by decide) rfl (fun ls hl => ?_)
      have hl : lv_has ls 2 [(1, .int (nI (k + 1))), (0, .ref (ad 0 0))] := hl
      refine lv_goto E1 E2 d_Ne_tick_35 rfl ?_
      have hq : (bd_Ne_tick  k q) = (o_Br_tellOnAll (o_Br_age q k) k) := if_neg h1
      rw [hq] at kk
      exact kk _ _ ls (lv_sub hl [1, 0] rfl) h
  refine hs2 _ 0 (by decide) (it_Ne_tick  N 0) _ _ ls (lv_sub hl [1, 0] rfl) h (fun H locs ls hl h => ?_)
  rw [it_Ne_tick_s] at h
  refine hs2 _ 1 (by decide) (it_Ne_tick  N 1) _ _ ls hl h (fun H locs ls hl h => ?_)
  rw [it_Ne_tick_s] at h
  refine hs2 _ 2 (by decide) (it_Ne_tick  N 2) _ _ ls hl h (fun H locs ls hl h => ?_)
  rw [it_Ne_tick_s] at h
  refine hs2 _ 3 (by decide) (it_Ne_tick  N 3) _ _ ls hl h (fun H locs ls hl h => ?_)
  rw [it_Ne_tick_s] at h
  refine hs2 _ 4 (by decide) (it_Ne_tick  N 4) _ _ ls hl h (fun H locs ls hl h => ?_)
  rw [it_Ne_tick_s] at h
  have hl : lv_has ls 2 [(0, .ref (ad 0 0)), (1, .int (nI 5))] := hl
  have h : bn_H (bn_y D ar ad nf) s.heap H locs (it_Ne_tick  N 5) := h
  refine lv_iload_n E1 E2 d_Ne_tick_2 rfl (lv_at hl 1 rfl) ?_
  refine lv_iconst (v := 5) E1 E2 d_Ne_tick_3 (by decide) ?_
  refine lv_icmp_ge E1 E2 d_Ne_tick_4 rfl (fun _ => ?_) (fun hz => absurd ((nI_leI (a := 5) (b := 5) (by omega) (by omega)).mpr (by omega)) hz)
  refine lv_aload_n E1 E2 d_Ne_tick_38 rfl (lv_at hl 0 rfl) ?_
  refine lv_aload_n E1 E2 d_Ne_tick_39 rfl (lv_at hl 0 rfl) ?_
  refine g_Ne_tellsAtNextTick F h k_221 (v := (it_Ne_tick  N 5).2.1 1 0) rfl d_Ne_tick_40 ?_
  have hwtells : (it_Ne_tick  N 5).2.1 1 0 < 2 := wf_tells h.2.2.2 0
  refine lv_if_ne E1 E2 d_Ne_tick_43 rfl (fun h2 => ?_) (fun h2 => ?_)
  · have h2 : ¬ (((it_Ne_tick  N 5).2.1 1 0) = 0) := (fun hw => h2 ((nI_eq (a := (it_Ne_tick  N 5).2.1 1 0) (b := 0) (by omega) (by omega)).mpr hw))
    refine lv_iconst (v := 0) E1 E2 d_Ne_tick_50 (by decide) ?_
    refine p_Ne_tellsAtNextTick F h k_221 (v := 0) (by omega) d_Ne_tick_51 (fun H locs h => ?_)
    have h : bn_H (bn_y D ar ad nf) s.heap H locs (sU (it_Ne_tick  N 5) 1 0 0) := h
    have hq : o_Ne_tick N = (sU (it_Ne_tick  N 5) 1 0 0) := if_neg h2
    exact bn_retv F hr hk h hq.symm d_Ne_tick_54
  · have h2 : ((it_Ne_tick  N 5).2.1 1 0) = 0 := ((nI_eq (a := (it_Ne_tick  N 5).2.1 1 0) (b := 0) (by omega) (by omega)).mp h2)
    refine lv_iconst (v := 1) E1 E2 d_Ne_tick_46 (by decide) ?_
    refine lv_goto E1 E2 d_Ne_tick_47 rfl ?_
    refine p_Ne_tellsAtNextTick F h k_221 (v := 1) (by omega) d_Ne_tick_51 (fun H locs h => ?_)
    have h : bn_H (bn_y D ar ad nf) s.heap H locs (sU (it_Ne_tick  N 5) 1 0 1) := h
    have hq : o_Ne_tick N = (sU (it_Ne_tick  N 5) 1 0 1) := if_pos h2
    exact bn_retv F hr hk h hq.symm d_Ne_tick_54
def r_Ne_port (N : bn_S) (ba : Int32) (pa : Int32) : Int32 := (bn_oc (r_Ne_findPort N ba pa) (-1) (fun y2 => r_Po_summary N y2))
set_option maxHeartbeats 4000000 in
set_option maxRecDepth 100000 in
theorem c_Ne_port (l : Launch) (D : va_G) (ar : Nat → ClassId) (ad : Nat → Nat → Nat) (nf : Nat) (N : bn_S)  (ba : Int32) (pa : Int32) : bn_I l y_Ne_port w_Ne_port { frames := 2, cells := 0, slots := 0, locals := 42 } (bn_y D ar ad nf) N [.ref (ad 0 0), .int ba, .int pa] (r_Ne_port N ba pa) N := by
  intro sz
  refine bn_start (cc := b_Ne_port) (maxL := 4) (ret := (Option.some Jvm.ClassFile.FieldType.int)) (by decide) rfl (Nat.le_of_ble_eq_true rfl) ?_
  intro p e s m args below meth c ls hsz F hml hr hk hl h
  subst hsz
  have E1 := F.1
  have E2 := F.2.1
  have hl : lv_has ls 4 [(0, .ref (ad 0 0)), (1, .int ba), (2, .int pa)] := hl
  refine lv_aload_n E1 E2 d_Ne_port_0 rfl (lv_at hl 0 rfl) ?_
  refine lv_iload_n E1 E2 d_Ne_port_1 rfl (lv_at hl 1 rfl) ?_
  refine lv_iload_n E1 E2 d_Ne_port_2 rfl (lv_at hl 2 rfl) ?_
  have hwf := h.2.2.2
  refine bn_callq F h (bn_runV (n := 2) (As := [.int ba, .int pa]) (rest := []) F hml hl.1 h mm_0 rfl rfl (c_Ne_findPort l D ar ad nf N ba pa _) (bn_goodV k_321 k_323 ks_Ne_findPort k_1 k_324) rfl rfl (by decide) ⟨by decide, by decide⟩ rfl rfl (Nat.le_of_ble_eq_true rfl) d_Ne_port_3 ⟨Nat.zero_le _, Nat.zero_le _⟩) (fun H locs h => ?_)
  refine bn_oq (f := ad 6) (o := r_Ne_findPort N ba pa) (fun ho1 => ?_) (fun y2 ho1 => ?_)
  · skip
    refine lv_astore_nN E1 E2 d_Ne_port_6 rfl hl (by decide) rfl (fun ls hl => ?_)
    have hl : lv_has ls 4 [(3, .null), (0, .ref (ad 0 0)), (1, .int ba), (2, .int pa)] := hl
    refine lv_aload_nN E1 E2 d_Ne_port_7 rfl (lv_at hl 0 rfl) ?_
    refine lv_ifnonnullN E1 E2 d_Ne_port_8 ?_
    refine lv_iconst (v := (-1)) E1 E2 d_Ne_port_11 (by decide) ?_
    refine lv_goto E1 E2 d_Ne_port_12 rfl ?_
    have hq : r_Ne_port N ba pa = (-1) := bn_oc_n ho1
    exact bn_reti F hr hk h hq.symm rfl d_Ne_port_19
  · have hy2 := lt_Ne_findPort ho1
    refine lv_astore_n E1 E2 d_Ne_port_6 rfl hl (by decide) rfl (fun ls hl => ?_)
    have hl : lv_has ls 4 [(3, .ref (ad 6 y2)), (0, .ref (ad 0 0)), (1, .int ba), (2, .int pa)] := hl
    refine lv_aload_n E1 E2 d_Ne_port_7 rfl (lv_at hl 0 rfl) ?_
    refine lv_ifnonnull E1 E2 d_Ne_port_8 rfl ?_
    refine lv_aload_n E1 E2 d_Ne_port_15 rfl (lv_at hl 0 rfl) ?_
    refine bn_calli F h (bn_runV (n := 0) (As := []) (rest := []) F hml hl.1 h (mm_6 (by omega)) rfl rfl (c_Po_summary l D ar ad nf N y2 (by omega) _) (bn_goodV k_385 k_386 k_387 k_3 k_388) rfl rfl (by decide) ⟨by decide, by decide⟩ rfl rfl (Nat.le_of_ble_eq_true rfl) d_Ne_port_16 ⟨Nat.zero_le _, Nat.zero_le _⟩) (fun H locs h => ?_)
    have hq : r_Ne_port N ba pa = r_Po_summary N y2 := bn_oc_s ho1
    exact bn_reti F hr hk h hq.symm rfl d_Ne_port_19
def r_Ne_root (N : bn_S) (ba : Int32) : Int64 := (if r_Ne_isBridge N ba = 0 then -1 else r_Br_summary N (ba.toNatClampNeg))
set_option maxHeartbeats 4000000 in
set_option maxRecDepth 100000 in
theorem c_Ne_root (l : Launch) (D : va_G) (ar : Nat → ClassId) (ad : Nat → Nat → Nat) (nf : Nat) (N : bn_S)  (ba : Int32) : bn_L l y_Ne_root w_Ne_root { frames := 1, cells := 0, slots := 0, locals := 20 } (bn_y D ar ad nf) N [.ref (ad 0 0), .int ba] (r_Ne_root N ba) N := by
  intro sz
  refine bn_start (cc := b_Ne_root) (maxL := 2) (ret := (Option.some Jvm.ClassFile.FieldType.long)) (by decide) rfl (Nat.le_of_ble_eq_true rfl) ?_
  intro p e s m args below meth c ls hsz F hml hr hk hl h
  subst hsz
  have E1 := F.1
  have E2 := F.2.1
  have hl : lv_has ls 2 [(0, .ref (ad 0 0)), (1, .int ba)] := hl
  refine lv_iload_n E1 E2 d_Ne_root_0 rfl (lv_at hl 1 rfl) ?_
  refine bn_calli F h (bn_runS (n := 1) (As := [.int ba]) (rest := []) F hml hl.1 h (c_Ne_isBridge l D ar ad nf N ba _) (bn_goodS k_233 k_234 k_1 k_235) rfl rfl (by decide) ⟨by decide, by decide⟩ rfl rfl (Nat.le_of_ble_eq_true rfl) d_Ne_root_1 ⟨Nat.zero_le _, Nat.zero_le _⟩) (fun H locs h => ?_)
  refine lv_if_eq E1 E2 d_Ne_root_4 rfl (fun h1 => ?_) (fun h1 => ?_)
  · have h1 : r_Ne_isBridge N ba = 0 := h1
    refine lv_ldc2 (own := "BridgeNet") E1 E2 F.2.2.1 (F.2.2.2.1 _ k_397) d_Ne_root_19 ?_
    have hq : r_Ne_root N ba = -1 := if_pos h1
    exact bn_retl F hr hk h hq.symm rfl d_Ne_root_22
  · have h1 : ¬ (r_Ne_isBridge N ba = 0) := h1
    refine lv_aload_n E1 E2 d_Ne_root_7 rfl (lv_at hl 0 rfl) ?_
    refine g_Ne_bridges F h k_219 d_Ne_root_8 ?_
    refine lv_iload_n E1 E2 d_Ne_root_11 rfl (lv_at hl 1 rfl) ?_
    have hn_ba := bn_isB h1
    have hn_ba2 := hn_ba.2
    refine bn_ti hn_ba.1 ?_
    refine al_bridges F h (i := ba.toNatClampNeg) (by omega) d_Ne_root_12 ?_
    refine bn_calll F h (bn_runV (n := 0) (As := []) (rest := []) F hml hl.1 h (mm_2 (by omega)) rfl rfl (c_Br_summary l D ar ad nf N (ba.toNatClampNeg) (by omega) _) (bn_goodV k_393 k_394 k_395 k_2 k_396) rfl rfl (by decide) ⟨by decide, by decide⟩ rfl rfl (Nat.le_of_ble_eq_true rfl) d_Ne_root_13 ⟨Nat.zero_le _, Nat.zero_le _⟩) (fun H locs h => ?_)
    refine lv_goto E1 E2 d_Ne_root_16 rfl ?_
    have hq : r_Ne_root N ba = r_Br_summary N (ba.toNatClampNeg) := if_neg h1
    exact bn_retl F hr hk h hq.symm rfl d_Ne_root_22
def r_Ne_info (N : bn_S) (ba : Int32) (pa : Int32) : Int64 := (bn_oc (r_Ne_findPort N ba pa) (-1) (fun y2 => (if (N.2.1 2 y2) = 0 then -1 else r_Po_infoSummary N y2)))
set_option maxHeartbeats 4000000 in
set_option maxRecDepth 100000 in
theorem c_Ne_info (l : Launch) (D : va_G) (ar : Nat → ClassId) (ad : Nat → Nat → Nat) (nf : Nat) (N : bn_S)  (ba : Int32) (pa : Int32) : bn_L l y_Ne_info w_Ne_info { frames := 2, cells := 0, slots := 0, locals := 42 } (bn_y D ar ad nf) N [.ref (ad 0 0), .int ba, .int pa] (r_Ne_info N ba pa) N := by
  intro sz
  refine bn_start (cc := b_Ne_info) (maxL := 4) (ret := (Option.some Jvm.ClassFile.FieldType.long)) (by decide) rfl (Nat.le_of_ble_eq_true rfl) ?_
  intro p e s m args below meth c ls hsz F hml hr hk hl h
  subst hsz
  have E1 := F.1
  have E2 := F.2.1
  have hl : lv_has ls 4 [(0, .ref (ad 0 0)), (1, .int ba), (2, .int pa)] := hl
  refine lv_aload_n E1 E2 d_Ne_info_0 rfl (lv_at hl 0 rfl) ?_
  refine lv_iload_n E1 E2 d_Ne_info_1 rfl (lv_at hl 1 rfl) ?_
  refine lv_iload_n E1 E2 d_Ne_info_2 rfl (lv_at hl 2 rfl) ?_
  have hwf := h.2.2.2
  refine bn_callq F h (bn_runV (n := 2) (As := [.int ba, .int pa]) (rest := []) F hml hl.1 h mm_0 rfl rfl (c_Ne_findPort l D ar ad nf N ba pa _) (bn_goodV k_321 k_323 ks_Ne_findPort k_1 k_324) rfl rfl (by decide) ⟨by decide, by decide⟩ rfl rfl (Nat.le_of_ble_eq_true rfl) d_Ne_info_3 ⟨Nat.zero_le _, Nat.zero_le _⟩) (fun H locs h => ?_)
  refine bn_oq (f := ad 6) (o := r_Ne_findPort N ba pa) (fun ho1 => ?_) (fun y2 ho1 => ?_)
  · skip
    refine lv_astore_nN E1 E2 d_Ne_info_6 rfl hl (by decide) rfl (fun ls hl => ?_)
    have hl : lv_has ls 4 [(3, .null), (0, .ref (ad 0 0)), (1, .int ba), (2, .int pa)] := hl
    refine lv_aload_nN E1 E2 d_Ne_info_7 rfl (lv_at hl 0 rfl) ?_
    refine lv_ifnullN E1 E2 d_Ne_info_8 rfl ?_
    refine lv_ldc2 (own := "BridgeNet") E1 E2 F.2.2.1 (F.2.2.2.1 _ k_397) d_Ne_info_18 ?_
    refine lv_goto E1 E2 d_Ne_info_21 rfl ?_
    have hq : r_Ne_info N ba pa = -1 := bn_oc_n ho1
    exact bn_retl F hr hk h hq.symm rfl d_Ne_info_28
  · have hy2 := lt_Ne_findPort ho1
    refine lv_astore_n E1 E2 d_Ne_info_6 rfl hl (by decide) rfl (fun ls hl => ?_)
    have hl : lv_has ls 4 [(3, .ref (ad 6 y2)), (0, .ref (ad 0 0)), (1, .int ba), (2, .int pa)] := hl
    refine lv_aload_n E1 E2 d_Ne_info_7 rfl (lv_at hl 0 rfl) ?_
    refine lv_ifnull E1 E2 d_Ne_info_8 ?_
    refine lv_aload_n E1 E2 d_Ne_info_11 rfl (lv_at hl 0 rfl) ?_
    refine g_Po_hasInfo F h (by omega) k_150 (v := N.2.1 2 y2) rfl d_Ne_info_12 ?_
    have hwhasInfo : N.2.1 2 y2 < 2 := wf_hasInfo h.2.2.2 y2
    refine lv_if_ne E1 E2 d_Ne_info_15 rfl (fun h3 => ?_) (fun h3 => ?_)
    · have h3 : ¬ ((N.2.1 2 y2) = 0) := (fun hw => h3 ((nI_eq (a := N.2.1 2 y2) (b := 0) (by omega) (by omega)).mpr hw))
      refine lv_aload_n E1 E2 d_Ne_info_24 rfl (lv_at hl 0 rfl) ?_
      refine bn_calll F h (bn_runV (n := 0) (As := []) (rest := []) F hml hl.1 h (mm_6 (by omega)) rfl rfl (c_Po_infoSummary l D ar ad nf N y2 (by omega) _) (bn_goodV k_402 k_403 k_404 k_3 k_405) rfl rfl (by decide) ⟨by decide, by decide⟩ rfl rfl (Nat.le_of_ble_eq_true rfl) d_Ne_info_25 ⟨Nat.zero_le _, Nat.zero_le _⟩) (fun H locs h => ?_)
      have hq : r_Ne_info N ba pa = r_Po_infoSummary N y2 := Eq.trans (bn_oc_s ho1) (if_neg h3)
      exact bn_retl F hr hk h hq.symm rfl d_Ne_info_28
    · have h3 : (N.2.1 2 y2) = 0 := ((nI_eq (a := N.2.1 2 y2) (b := 0) (by omega) (by omega)).mp h3)
      refine lv_ldc2 (own := "BridgeNet") E1 E2 F.2.2.1 (F.2.2.2.1 _ k_397) d_Ne_info_18 ?_
      refine lv_goto E1 E2 d_Ne_info_21 rfl ?_
      have hq : r_Ne_info N ba pa = -1 := Eq.trans (bn_oc_s ho1) (if_pos h3)
      exact bn_retl F hr hk h hq.symm rfl d_Ne_info_28
def r_Ne_learned (N : bn_S) (ba : Int32) (sa : Int32) (va : Int32) : Int32 := (if r_Ne_isBridge N ba = 0 then (-1) else (bn_oc (r_Ne_findStation N sa) (-1) (fun y3 => (if r_Ne_isVlan N va = 0 then (-1) else r_Br_placeOf N (ba.toNatClampNeg) (sa.toNatClampNeg) (va.toNatClampNeg)))))
set_option maxHeartbeats 4000000 in
set_option maxRecDepth 100000 in
theorem c_Ne_learned (l : Launch) (D : va_G) (ar : Nat → ClassId) (ad : Nat → Nat → Nat) (nf : Nat) (N : bn_S)  (ba : Int32) (sa : Int32) (va : Int32) : bn_I l y_Ne_learned w_Ne_learned { frames := 2, cells := 0, slots := 0, locals := 44 } (bn_y D ar ad nf) N [.ref (ad 0 0), .int ba, .int sa, .int va] (r_Ne_learned N ba sa va) N := by
  intro sz
  refine bn_start (cc := b_Ne_learned) (maxL := 4) (ret := (Option.some Jvm.ClassFile.FieldType.int)) (by decide) rfl (Nat.le_of_ble_eq_true rfl) ?_
  intro p e s m args below meth c ls hsz F hml hr hk hl h
  subst hsz
  have E1 := F.1
  have E2 := F.2.1
  have hl : lv_has ls 4 [(0, .ref (ad 0 0)), (1, .int ba), (2, .int sa), (3, .int va)] := hl
  refine lv_iload_n E1 E2 d_Ne_learned_0 rfl (lv_at hl 1 rfl) ?_
  refine bn_calli F h (bn_runS (n := 1) (As := [.int ba]) (rest := []) F hml hl.1 h (c_Ne_isBridge l D ar ad nf N ba _) (bn_goodS k_233 k_234 k_1 k_235) rfl rfl (by decide) ⟨by decide, by decide⟩ rfl rfl (Nat.le_of_ble_eq_true rfl) d_Ne_learned_1 ⟨Nat.zero_le _, Nat.zero_le _⟩) (fun H locs h => ?_)
  refine lv_if_eq E1 E2 d_Ne_learned_4 rfl (fun h1 => ?_) (fun h1 => ?_)
  · have h1 : r_Ne_isBridge N ba = 0 := h1
    refine lv_iconst (v := (-1)) E1 E2 d_Ne_learned_22 (by decide) ?_
    have hq : r_Ne_learned N ba sa va = (-1) := if_pos h1
    exact bn_reti F hr hk h hq.symm rfl d_Ne_learned_23
  · have h1 : ¬ (r_Ne_isBridge N ba = 0) := h1
    refine lv_aload_n E1 E2 d_Ne_learned_7 rfl (lv_at hl 0 rfl) ?_
    refine lv_iload_n E1 E2 d_Ne_learned_8 rfl (lv_at hl 2 rfl) ?_
    have hwf := h.2.2.2
    refine bn_callq F h (bn_runV (n := 1) (As := [.int sa]) (rest := []) F hml hl.1 h mm_0 rfl rfl (c_Ne_findStation l D ar ad nf N sa _) (bn_goodV k_416 k_418 ks_Ne_findStation k_1 k_419) rfl rfl (by decide) ⟨by decide, by decide⟩ rfl rfl (Nat.le_of_ble_eq_true rfl) d_Ne_learned_9 ⟨Nat.zero_le _, Nat.zero_le _⟩) (fun H locs h => ?_)
    refine bn_oq (f := ad 11) (o := r_Ne_findStation N sa) (fun ho2 => ?_) (fun y3 ho2 => ?_)
    · skip
      refine lv_ifnullN E1 E2 d_Ne_learned_12 rfl ?_
      refine lv_iconst (v := (-1)) E1 E2 d_Ne_learned_22 (by decide) ?_
      have hq : r_Ne_learned N ba sa va = (-1) := Eq.trans (if_neg h1) (bn_oc_n ho2)
      exact bn_reti F hr hk h hq.symm rfl d_Ne_learned_23
    · have hy3 := lt_Ne_findStation ho2
      refine lv_ifnull E1 E2 d_Ne_learned_12 ?_
      refine lv_iload_n E1 E2 d_Ne_learned_15 rfl (lv_at hl 3 rfl) ?_
      refine bn_calli F h (bn_runS (n := 1) (As := [.int va]) (rest := []) F hml hl.1 h (c_Ne_isVlan l D ar ad nf N va _) (bn_goodS k_420 k_421 k_1 k_422) rfl rfl (by decide) ⟨by decide, by decide⟩ rfl rfl (Nat.le_of_ble_eq_true rfl) d_Ne_learned_16 ⟨Nat.zero_le _, Nat.zero_le _⟩) (fun H locs h => ?_)
      refine lv_if_ne E1 E2 d_Ne_learned_19 rfl (fun h4 => ?_) (fun h4 => ?_)
      · have h4 : ¬ (r_Ne_isVlan N va = 0) := h4
        refine lv_aload_n E1 E2 d_Ne_learned_24 rfl (lv_at hl 0 rfl) ?_
        refine g_Ne_bridges F h k_219 d_Ne_learned_25 ?_
        refine lv_iload_n E1 E2 d_Ne_learned_28 rfl (lv_at hl 1 rfl) ?_
        have hn_ba := bn_isB h1
        have hn_ba2 := hn_ba.2
        refine bn_ti hn_ba.1 ?_
        refine al_bridges F h (i := ba.toNatClampNeg) (by omega) d_Ne_learned_29 ?_
        refine lv_iload_n E1 E2 d_Ne_learned_30 rfl (lv_at hl 2 rfl) ?_
        have hn_sa := bn_isS ho2
        have hn_sa2 := hn_sa.2
        refine bn_ti hn_sa.1 ?_
        refine lv_iload_n E1 E2 d_Ne_learned_31 rfl (lv_at hl 3 rfl) ?_
        have hn_va := bn_isV h4
        have hn_va2 := hn_va.2
        refine bn_ti hn_va.1 ?_
        refine bn_calli F h (bn_runV (n := 2) (As := [.int (nI (sa.toNatClampNeg)), .int (nI (va.toNatClampNeg))]) (rest := []) F hml hl.1 h (mm_2 (by omega)) rfl rfl (c_Br_placeOf l D ar ad nf N (ba.toNatClampNeg) (by omega) (sa.toNatClampNeg) (by omega) (va.toNatClampNeg) (by omega) (by omega) _) (bn_goodV k_423 k_424 k_425 k_2 k_426) rfl rfl (by decide) ⟨by decide, by decide⟩ rfl rfl (Nat.le_of_ble_eq_true rfl) d_Ne_learned_32 ⟨Nat.zero_le _, Nat.zero_le _⟩) (fun H locs h => ?_)
        have hq : r_Ne_learned N ba sa va = r_Br_placeOf N (ba.toNatClampNeg) (sa.toNatClampNeg) (va.toNatClampNeg) := Eq.trans (if_neg h1) (Eq.trans (bn_oc_s ho2) (if_neg h4))
        exact bn_reti F hr hk h hq.symm rfl d_Ne_learned_35
      · have h4 : r_Ne_isVlan N va = 0 := h4
        refine lv_iconst (v := (-1)) E1 E2 d_Ne_learned_22 (by decide) ?_
        have hq : r_Ne_learned N ba sa va = (-1) := Eq.trans (if_neg h1) (Eq.trans (bn_oc_s ho2) (if_pos h4))
        exact bn_reti F hr hk h hq.symm rfl d_Ne_learned_23
def r_Ne_inbox (N : bn_S) (sa : Int32) (ka : Int32) : Int64 := (bn_oc (r_Ne_findStation N sa) (-1) (fun y2 => (if ka = (-1) then Int32.toInt64 (nI (N.2.1 9 y2)) else r_St_kept N y2 ka)))
set_option maxHeartbeats 4000000 in
set_option maxRecDepth 100000 in
theorem c_Ne_inbox (l : Launch) (D : va_G) (ar : Nat → ClassId) (ad : Nat → Nat → Nat) (nf : Nat) (N : bn_S)  (sa : Int32) (ka : Int32) : bn_L l y_Ne_inbox w_Ne_inbox { frames := 1, cells := 0, slots := 0, locals := 21 } (bn_y D ar ad nf) N [.ref (ad 0 0), .int sa, .int ka] (r_Ne_inbox N sa ka) N := by
  intro sz
  refine bn_start (cc := b_Ne_inbox) (maxL := 4) (ret := (Option.some Jvm.ClassFile.FieldType.long)) (by decide) rfl (Nat.le_of_ble_eq_true rfl) ?_
  intro p e s m args below meth c ls hsz F hml hr hk hl h
  subst hsz
  have E1 := F.1
  have E2 := F.2.1
  have hl : lv_has ls 4 [(0, .ref (ad 0 0)), (1, .int sa), (2, .int ka)] := hl
  refine lv_aload_n E1 E2 d_Ne_inbox_0 rfl (lv_at hl 0 rfl) ?_
  refine lv_iload_n E1 E2 d_Ne_inbox_1 rfl (lv_at hl 1 rfl) ?_
  have hwf := h.2.2.2
  refine bn_callq F h (bn_runV (n := 1) (As := [.int sa]) (rest := []) F hml hl.1 h mm_0 rfl rfl (c_Ne_findStation l D ar ad nf N sa _) (bn_goodV k_416 k_418 ks_Ne_findStation k_1 k_419) rfl rfl (by decide) ⟨by decide, by decide⟩ rfl rfl (Nat.le_of_ble_eq_true rfl) d_Ne_inbox_2 ⟨Nat.zero_le _, Nat.zero_le _⟩) (fun H locs h => ?_)
  refine bn_oq (f := ad 11) (o := r_Ne_findStation N sa) (fun ho1 => ?_) (fun y2 ho1 => ?_)
  · skip
    refine lv_astore_nN E1 E2 d_Ne_inbox_5 rfl hl (by decide) rfl (fun ls hl => ?_)
    have hl : lv_has ls 4 [(3, .null), (0, .ref (ad 0 0)), (1, .int sa), (2, .int ka)] := hl
    refine lv_aload_nN E1 E2 d_Ne_inbox_6 rfl (lv_at hl 0 rfl) ?_
    refine lv_ifnonnullN E1 E2 d_Ne_inbox_7 ?_
    refine lv_ldc2 (own := "BridgeNet") E1 E2 F.2.2.1 (F.2.2.2.1 _ k_397) d_Ne_inbox_10 ?_
    have hq : r_Ne_inbox N sa ka = -1 := bn_oc_n ho1
    exact bn_retl F hr hk h hq.symm rfl d_Ne_inbox_13
  · have hy2 := lt_Ne_findStation ho1
    refine lv_astore_n E1 E2 d_Ne_inbox_5 rfl hl (by decide) rfl (fun ls hl => ?_)
    have hl : lv_has ls 4 [(3, .ref (ad 11 y2)), (0, .ref (ad 0 0)), (1, .int sa), (2, .int ka)] := hl
    refine lv_aload_n E1 E2 d_Ne_inbox_6 rfl (lv_at hl 0 rfl) ?_
    refine lv_ifnonnull E1 E2 d_Ne_inbox_7 rfl ?_
    refine lv_iload_n E1 E2 d_Ne_inbox_14 rfl (lv_at hl 3 rfl) ?_
    refine lv_iconst (v := (-1)) E1 E2 d_Ne_inbox_15 (by decide) ?_
    refine lv_icmp_ne E1 E2 d_Ne_inbox_16 rfl (fun h3 => ?_) (fun h3 => ?_)
    · have h3 : ¬ (ka = (-1)) := h3
      refine lv_aload_n E1 E2 d_Ne_inbox_27 rfl (lv_at hl 0 rfl) ?_
      refine lv_iload_n E1 E2 d_Ne_inbox_28 rfl (lv_at hl 3 rfl) ?_
      refine bn_calll F h (bn_runV (n := 1) (As := [.int ka]) (rest := []) F hml hl.1 h (mm_11 (by omega)) rfl rfl (c_St_kept l D ar ad nf N y2 (by omega) ka _) (bn_goodV k_434 k_435 k_436 k_6 k_437) rfl rfl (by decide) ⟨by decide, by decide⟩ rfl rfl (Nat.le_of_ble_eq_true rfl) d_Ne_inbox_29 ⟨Nat.zero_le _, Nat.zero_le _⟩) (fun H locs h => ?_)
      have hq : r_Ne_inbox N sa ka = r_St_kept N y2 ka := Eq.trans (bn_oc_s ho1) (if_neg h3)
      exact bn_retl F hr hk h hq.symm rfl d_Ne_inbox_32
    · have h3 : ka = (-1) := h3
      refine lv_aload_n E1 E2 d_Ne_inbox_19 rfl (lv_at hl 0 rfl) ?_
      refine g_St_count F h (by omega) k_208 (v := N.2.1 9 y2) rfl d_Ne_inbox_20 ?_
      refine lv_i2l (v := Int32.toInt64 (nI (N.2.1 9 y2))) E1 E2 d_Ne_inbox_23 rfl ?_
      refine lv_goto E1 E2 d_Ne_inbox_24 rfl ?_
      have hq : r_Ne_inbox N sa ka = Int32.toInt64 (nI (N.2.1 9 y2)) := Eq.trans (bn_oc_s ho1) (if_pos h3)
      exact bn_retl F hr hk h hq.symm rfl d_Ne_inbox_32
def r_Ne_line (N : bn_S) (ba : Int32) (pa : Int32) : Int32 := (bn_oc (r_Ne_findPort N ba pa) (-1) (fun y2 => nI (N.2.1 7 y2)))
set_option maxHeartbeats 4000000 in
set_option maxRecDepth 100000 in
theorem c_Ne_line (l : Launch) (D : va_G) (ar : Nat → ClassId) (ad : Nat → Nat → Nat) (nf : Nat) (N : bn_S)  (ba : Int32) (pa : Int32) : bn_I l y_Ne_line w_Ne_line { frames := 2, cells := 0, slots := 0, locals := 42 } (bn_y D ar ad nf) N [.ref (ad 0 0), .int ba, .int pa] (r_Ne_line N ba pa) N := by
  intro sz
  refine bn_start (cc := b_Ne_line) (maxL := 4) (ret := (Option.some Jvm.ClassFile.FieldType.int)) (by decide) rfl (Nat.le_of_ble_eq_true rfl) ?_
  intro p e s m args below meth c ls hsz F hml hr hk hl h
  subst hsz
  have E1 := F.1
  have E2 := F.2.1
  have hl : lv_has ls 4 [(0, .ref (ad 0 0)), (1, .int ba), (2, .int pa)] := hl
  refine lv_aload_n E1 E2 d_Ne_line_0 rfl (lv_at hl 0 rfl) ?_
  refine lv_iload_n E1 E2 d_Ne_line_1 rfl (lv_at hl 1 rfl) ?_
  refine lv_iload_n E1 E2 d_Ne_line_2 rfl (lv_at hl 2 rfl) ?_
  have hwf := h.2.2.2
  refine bn_callq F h (bn_runV (n := 2) (As := [.int ba, .int pa]) (rest := []) F hml hl.1 h mm_0 rfl rfl (c_Ne_findPort l D ar ad nf N ba pa _) (bn_goodV k_321 k_323 ks_Ne_findPort k_1 k_324) rfl rfl (by decide) ⟨by decide, by decide⟩ rfl rfl (Nat.le_of_ble_eq_true rfl) d_Ne_line_3 ⟨Nat.zero_le _, Nat.zero_le _⟩) (fun H locs h => ?_)
  refine bn_oq (f := ad 6) (o := r_Ne_findPort N ba pa) (fun ho1 => ?_) (fun y2 ho1 => ?_)
  · skip
    refine lv_astore_nN E1 E2 d_Ne_line_6 rfl hl (by decide) rfl (fun ls hl => ?_)
    have hl : lv_has ls 4 [(3, .null), (0, .ref (ad 0 0)), (1, .int ba), (2, .int pa)] := hl
    refine lv_aload_nN E1 E2 d_Ne_line_7 rfl (lv_at hl 0 rfl) ?_
    refine lv_ifnonnullN E1 E2 d_Ne_line_8 ?_
    refine lv_iconst (v := (-1)) E1 E2 d_Ne_line_11 (by decide) ?_
    refine lv_goto E1 E2 d_Ne_line_12 rfl ?_
    have hq : r_Ne_line N ba pa = (-1) := bn_oc_n ho1
    exact bn_reti F hr hk h hq.symm rfl d_Ne_line_22
  · have hy2 := lt_Ne_findPort ho1
    refine lv_astore_n E1 E2 d_Ne_line_6 rfl hl (by decide) rfl (fun ls hl => ?_)
    have hl : lv_has ls 4 [(3, .ref (ad 6 y2)), (0, .ref (ad 0 0)), (1, .int ba), (2, .int pa)] := hl
    refine lv_aload_n E1 E2 d_Ne_line_7 rfl (lv_at hl 0 rfl) ?_
    refine lv_ifnonnull E1 E2 d_Ne_line_8 rfl ?_
    refine lv_aload_n E1 E2 d_Ne_line_15 rfl (lv_at hl 0 rfl) ?_
    refine g_Po_line F h (by omega) k_136 d_Ne_line_16 ?_
    refine g_Li_count F h (by omega) k_122 (v := N.2.1 7 y2) rfl d_Ne_line_19 ?_
    have hq : r_Ne_line N ba pa = nI (N.2.1 7 y2) := bn_oc_s ho1
    exact bn_reti F hr hk h hq.symm rfl d_Ne_line_22
def r_Ne_message (N : bn_S) (ba : Int32) (pa : Int32) (ka : Int32) : Int64 := (bn_oc (r_Ne_findPort N ba pa) 0 (fun y2 => (bn_oc (r_Li_at N y2 ka) 0 (fun y4 => r_Ms_summary N y4))))
set_option maxHeartbeats 4000000 in
set_option maxRecDepth 100000 in
theorem c_Ne_message (l : Launch) (D : va_G) (ar : Nat → ClassId) (ad : Nat → Nat → Nat) (nf : Nat) (N : bn_S)  (ba : Int32) (pa : Int32) (ka : Int32) : bn_L l y_Ne_message w_Ne_message { frames := 2, cells := 0, slots := 0, locals := 42 } (bn_y D ar ad nf) N [.ref (ad 0 0), .int ba, .int pa, .int ka] (r_Ne_message N ba pa ka) N := by
  intro sz
  refine bn_start (cc := b_Ne_message) (maxL := 6) (ret := (Option.some Jvm.ClassFile.FieldType.long)) (by decide) rfl (Nat.le_of_ble_eq_true rfl) ?_
  intro p e s m args below meth c ls hsz F hml hr hk hl h
  subst hsz
  have E1 := F.1
  have E2 := F.2.1
  have hl : lv_has ls 6 [(0, .ref (ad 0 0)), (1, .int ba), (2, .int pa), (3, .int ka)] := hl
  refine lv_aload_n E1 E2 d_Ne_message_0 rfl (lv_at hl 0 rfl) ?_
  refine lv_iload_n E1 E2 d_Ne_message_1 rfl (lv_at hl 1 rfl) ?_
  refine lv_iload_n E1 E2 d_Ne_message_2 rfl (lv_at hl 2 rfl) ?_
  have hwf := h.2.2.2
  refine bn_callq F h (bn_runV (n := 2) (As := [.int ba, .int pa]) (rest := []) F hml hl.1 h mm_0 rfl rfl (c_Ne_findPort l D ar ad nf N ba pa _) (bn_goodV k_321 k_323 ks_Ne_findPort k_1 k_324) rfl rfl (by decide) ⟨by decide, by decide⟩ rfl rfl (Nat.le_of_ble_eq_true rfl) d_Ne_message_3 ⟨Nat.zero_le _, Nat.zero_le _⟩) (fun H locs h => ?_)
  refine bn_oq (f := ad 6) (o := r_Ne_findPort N ba pa) (fun ho1 => ?_) (fun y2 ho1 => ?_)
  · skip
    refine lv_astoreN E1 E2 d_Ne_message_6 hl (by decide) rfl (fun ls hl => ?_)
    have hl : lv_has ls 6 [(4, .null), (0, .ref (ad 0 0)), (1, .int ba), (2, .int pa), (3, .int ka)] := hl
    refine lv_aloadN E1 E2 d_Ne_message_8 (lv_at hl 0 rfl) ?_
    refine lv_ifnonnullN E1 E2 d_Ne_message_10 ?_
    refine lv_lconst (v := 0) E1 E2 d_Ne_message_13 (by decide) ?_
    have hq : r_Ne_message N ba pa ka = 0 := bn_oc_n ho1
    exact bn_retl F hr hk h hq.symm rfl d_Ne_message_14
  · have hy2 := lt_Ne_findPort ho1
    refine lv_astore E1 E2 d_Ne_message_6 hl (by decide) rfl (fun ls hl => ?_)
    have hl : lv_has ls 6 [(4, .ref (ad 6 y2)), (0, .ref (ad 0 0)), (1, .int ba), (2, .int pa), (3, .int ka)] := hl
    refine lv_aload E1 E2 d_Ne_message_8 (lv_at hl 0 rfl) ?_
    refine lv_ifnonnull E1 E2 d_Ne_message_10 rfl ?_
    refine lv_aload E1 E2 d_Ne_message_15 (lv_at hl 0 rfl) ?_
    refine g_Po_line F h (by omega) k_136 d_Ne_message_17 ?_
    refine lv_iload_n E1 E2 d_Ne_message_20 rfl (lv_at hl 4 rfl) ?_
    have hwf := h.2.2.2
    refine bn_callq F h (bn_runV (n := 1) (As := [.int ka]) (rest := []) F hml hl.1 h (mm_7 (by omega)) rfl rfl (c_Li_at l D ar ad nf N y2 (by omega) ka _) (bn_goodV k_447 k_448 k_449 k_4 k_450) rfl rfl (by decide) ⟨by decide, by decide⟩ rfl rfl (Nat.le_of_ble_eq_true rfl) d_Ne_message_21 ⟨Nat.zero_le _, Nat.zero_le _⟩) (fun H locs h => ?_)
    refine bn_oq (f := ad 9) (o := r_Li_at N y2 ka) (fun ho3 => ?_) (fun y4 ho3 => ?_)
    · skip
      refine lv_astoreN E1 E2 d_Ne_message_24 hl (by decide) rfl (fun ls hl => ?_)
      have hl : lv_has ls 6 [(5, .null), (4, .ref (ad 6 y2)), (0, .ref (ad 0 0)), (1, .int ba), (2, .int pa), (3, .int ka)] := hl
      refine lv_aloadN E1 E2 d_Ne_message_26 (lv_at hl 0 rfl) ?_
      refine lv_ifnonnullN E1 E2 d_Ne_message_28 ?_
      refine lv_lconst (v := 0) E1 E2 d_Ne_message_31 (by decide) ?_
      refine lv_goto E1 E2 d_Ne_message_32 rfl ?_
      have hq : r_Ne_message N ba pa ka = 0 := Eq.trans (bn_oc_s ho1) (bn_oc_n ho3)
      exact bn_retl F hr hk h hq.symm rfl d_Ne_message_40
    · have hy4 := lt_Li_at (by omega) ho3
      refine lv_astore E1 E2 d_Ne_message_24 hl (by decide) rfl (fun ls hl => ?_)
      have hl : lv_has ls 6 [(5, .ref (ad 9 y4)), (4, .ref (ad 6 y2)), (0, .ref (ad 0 0)), (1, .int ba), (2, .int pa), (3, .int ka)] := hl
      refine lv_aload E1 E2 d_Ne_message_26 (lv_at hl 0 rfl) ?_
      refine lv_ifnonnull E1 E2 d_Ne_message_28 rfl ?_
      refine lv_aload E1 E2 d_Ne_message_35 (lv_at hl 0 rfl) ?_
      refine bn_calll F h (bn_runV (n := 0) (As := []) (rest := []) F hml hl.1 h (mm_9 (by omega)) rfl rfl (c_Ms_summary l D ar ad nf N y4 (by omega) _) (bn_goodV k_451 k_452 k_453 k_5 k_454) rfl rfl (by decide) ⟨by decide, by decide⟩ rfl rfl (Nat.le_of_ble_eq_true rfl) d_Ne_message_37 ⟨Nat.zero_le _, Nat.zero_le _⟩) (fun H locs h => ?_)
      have hq : r_Ne_message N ba pa ka = r_Ms_summary N y4 := Eq.trans (bn_oc_s ho1) (bn_oc_s ho3)
      exact bn_retl F hr hk h hq.symm rfl d_Ne_message_40
