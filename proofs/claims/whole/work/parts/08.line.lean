/-! contracts of the class, written by wip/whole/gen_class.py -/
theorem bn_natle {t : Int32} {n : Nat} (h0 : ¬ t < 0) (h1 : ¬ nI n ≤ t) (hn : n < 2 ^ 31) : t = nI t.toNatClampNeg ∧ t.toNatClampNeg < n := by
  obtain ⟨j, hj, rfl, -, h2, -⟩ := pk_mu h0 h1 hn
  rw [h2]
  exact ⟨rfl, hj⟩
theorem bn_natlt {t : Int32} {n : Nat} (h0 : ¬ t < 0) (h1 : ¬ nI n < t) (hn : n + 1 < 2 ^ 31) : t = nI t.toNatClampNeg ∧ t.toNatClampNeg < n + 1 := by
  obtain ⟨j, hj, rfl⟩ := nI_of h0
  rw [nI_clamp hj]
  refine ⟨rfl, ?_⟩
  have h2 : ¬ n < j := fun h => h1 ((nI_ltI (by omega) (by omega)).mpr h)
  omega
theorem bn_natlt1 {t : Int32} {n : Nat} (h0 : ¬ t < 1) (h1 : ¬ nI n < t) (hn : n + 1 < 2 ^ 31) : t = nI t.toNatClampNeg ∧ t.toNatClampNeg < n + 1 ∧ 1 ≤ t.toNatClampNeg := by
  have h2 : ¬ t < 0 := fun h => h0 (by
    rw [Int32.lt_iff_toInt_lt] at h ⊢
    have e0 : (0 : Int32).toInt = 0 := by decide
    have e1 : (1 : Int32).toInt = 1 := by decide
    omega)
  obtain ⟨h3, h4⟩ := bn_natlt h2 h1 hn
  refine ⟨h3, h4, ?_⟩
  have h5 : ¬ t.toNatClampNeg < 1 := fun h => h0 (by
    rw [h3]
    exact (nI_ltI (a := t.toNatClampNeg) (b := 1) (by omega) (by omega)).mpr h)
  omega
theorem bn_ge0 {t : Int32} (h : 0 ≤ t) : ¬ t < 0 := Int32.not_lt.mpr h
def r_Fr_inboxEntry (N : bn_S) (f : Nat) : Int64 := (((Int32.toInt64 (N.1 15 f)) &&& 4294967295) + ((Int32.toInt64 (nI (N.2.1 10 f))) <<< (Int32.toInt64 32 &&& 63))) + ((Int32.toInt64 (nI (N.2.1 11 f))) <<< (Int32.toInt64 36 &&& 63))
set_option maxHeartbeats 4000000 in
set_option maxRecDepth 100000 in
theorem c_Fr_inboxEntry (l : Launch) (D : va_G) (ar : Nat → ClassId) (ad : Nat → Nat → Nat) (nf : Nat) (N : bn_S) (f : Nat) (hf : f < nf) : bn_L l y_Fr_inboxEntry w_Fr_inboxEntry { frames := 0, cells := 0, slots := 0, locals := 0 } (bn_y D ar ad nf) N [.ref (ad 13 f)] (r_Fr_inboxEntry N f) N := by
  intro sz
  refine bn_start (cc := b_Fr_inboxEntry) (maxL := 1) (ret := (Option.some Jvm.ClassFile.FieldType.long)) (by decide) rfl (Nat.le_of_ble_eq_true rfl) ?_
  intro p e s m args below meth c ls hsz F hml hr hk hl h
  subst hsz
  have E1 := F.1
  have E2 := F.2.1
  have hl : lv_has ls 1 [(0, .ref (ad 13 f))] := hl
  refine lv_aload_n E1 E2 d_Fr_inboxEntry_0 rfl (lv_at hl 0 rfl) ?_
  refine g_Fr_value F h (by omega) k_602 (v := N.1 15 f) rfl d_Fr_inboxEntry_1 ?_
  refine lv_i2l (v := Int32.toInt64 (N.1 15 f)) E1 E2 d_Fr_inboxEntry_4 rfl ?_
  refine lv_ldc2 (own := "BridgeNet$Frame") E1 E2 F.2.2.1 (F.2.2.2.1 _ k_646) d_Fr_inboxEntry_5 ?_
  refine lv_land E1 E2 d_Fr_inboxEntry_8 ?_
  refine lv_aload_n E1 E2 d_Fr_inboxEntry_9 rfl (lv_at hl 0 rfl) ?_
  refine g_Fr_source F h (by omega) k_593 (v := N.2.1 10 f) rfl d_Fr_inboxEntry_10 ?_
  refine lv_i2l (v := Int32.toInt64 (nI (N.2.1 10 f))) E1 E2 d_Fr_inboxEntry_13 rfl ?_
  refine lv_bipush (v := 32) E1 E2 d_Fr_inboxEntry_14 (by decide) ?_
  refine lv_lshl (v := (Int32.toInt64 (nI (N.2.1 10 f))) <<< (Int32.toInt64 32 &&& 63)) E1 E2 d_Fr_inboxEntry_16 rfl ?_
  refine lv_ladd E1 E2 d_Fr_inboxEntry_17 ?_
  refine lv_aload_n E1 E2 d_Fr_inboxEntry_18 rfl (lv_at hl 0 rfl) ?_
  refine g_Fr_destination F h (by omega) k_595 (v := N.2.1 11 f) rfl d_Fr_inboxEntry_19 ?_
  refine lv_i2l (v := Int32.toInt64 (nI (N.2.1 11 f))) E1 E2 d_Fr_inboxEntry_22 rfl ?_
  refine lv_bipush (v := 36) E1 E2 d_Fr_inboxEntry_23 (by decide) ?_
  refine lv_lshl (v := (Int32.toInt64 (nI (N.2.1 11 f))) <<< (Int32.toInt64 36 &&& 63)) E1 E2 d_Fr_inboxEntry_25 rfl ?_
  refine lv_ladd E1 E2 d_Fr_inboxEntry_26 ?_
  have hq : r_Fr_inboxEntry N f = (((Int32.toInt64 (N.1 15 f)) &&& 4294967295) + ((Int32.toInt64 (nI (N.2.1 10 f))) <<< (Int32.toInt64 32 &&& 63))) + ((Int32.toInt64 (nI (N.2.1 11 f))) <<< (Int32.toInt64 36 &&& 63)) := rfl
  exact bn_retl F hr hk h hq.symm rfl d_Fr_inboxEntry_27
def r_Ms_summary (N : bn_S) (i : Nat) : Int64 := (bn_oc (N.2.2.2 5 i) ((Int32.toInt64 (N.1 12 i)) + (16 * (Int32.toInt64 (N.1 13 i)))) (fun y2 => ((Int32.toInt64 (N.1 12 i)) + (16 * (Int32.toInt64 (nI (N.2.1 11 y2))))) + (256 * (Int32.toInt64 (nI (N.2.1 12 y2))))))
set_option maxHeartbeats 4000000 in
set_option maxRecDepth 100000 in
theorem c_Ms_summary (l : Launch) (D : va_G) (ar : Nat → ClassId) (ad : Nat → Nat → Nat) (nf : Nat) (N : bn_S) (i : Nat) (hi : i < 240) : bn_L l y_Ms_summary w_Ms_summary { frames := 0, cells := 0, slots := 0, locals := 0 } (bn_y D ar ad nf) N [.ref (ad 9 i)] (r_Ms_summary N i) N := by
  intro sz
  refine bn_start (cc := b_Ms_summary) (maxL := 1) (ret := (Option.some Jvm.ClassFile.FieldType.long)) (by decide) rfl (Nat.le_of_ble_eq_true rfl) ?_
  intro p e s m args below meth c ls hsz F hml hr hk hl h
  subst hsz
  have E1 := F.1
  have E2 := F.2.1
  have hl : lv_has ls 1 [(0, .ref (ad 9 i))] := hl
  refine lv_aload_n E1 E2 d_Ms_summary_0 rfl (lv_at hl 0 rfl) ?_
  refine g_Ms_frame F h (by omega) k_103 d_Ms_summary_1 (fun ho1 => ?_) (fun y2 ho1 hy2 => ?_)
  · skip
    refine lv_ifnullN E1 E2 d_Ms_summary_4 rfl ?_
    refine lv_aload_n E1 E2 d_Ms_summary_39 rfl (lv_at hl 0 rfl) ?_
    refine g_Ms_kind F h (by omega) k_88 (v := N.1 12 i) rfl d_Ms_summary_40 ?_
    refine lv_i2l (v := Int32.toInt64 (N.1 12 i)) E1 E2 d_Ms_summary_43 rfl ?_
    refine lv_ldc2 (own := "BridgeNet$Message") E1 E2 F.2.2.1 (F.2.2.2.1 _ k_455) d_Ms_summary_44 ?_
    refine lv_aload_n E1 E2 d_Ms_summary_47 rfl (lv_at hl 0 rfl) ?_
    refine g_Ms_root F h (by omega) k_91 (v := N.1 13 i) rfl d_Ms_summary_48 ?_
    refine lv_i2l (v := Int32.toInt64 (N.1 13 i)) E1 E2 d_Ms_summary_51 rfl ?_
    refine lv_lmul E1 E2 d_Ms_summary_52 ?_
    refine lv_ladd E1 E2 d_Ms_summary_53 ?_
    have hq : r_Ms_summary N i = (Int32.toInt64 (N.1 12 i)) + (16 * (Int32.toInt64 (N.1 13 i))) := bn_oc_n ho1
    exact bn_retl F hr hk h hq.symm rfl d_Ms_summary_54
  · skip
    refine lv_ifnull E1 E2 d_Ms_summary_4 ?_
    refine lv_aload_n E1 E2 d_Ms_summary_7 rfl (lv_at hl 0 rfl) ?_
    refine g_Ms_kind F h (by omega) k_88 (v := N.1 12 i) rfl d_Ms_summary_8 ?_
    refine lv_i2l (v := Int32.toInt64 (N.1 12 i)) E1 E2 d_Ms_summary_11 rfl ?_
    refine lv_ldc2 (own := "BridgeNet$Message") E1 E2 F.2.2.1 (F.2.2.2.1 _ k_455) d_Ms_summary_12 ?_
    refine lv_aload_n E1 E2 d_Ms_summary_15 rfl (lv_at hl 0 rfl) ?_
    refine g_Ms_frame_s F h (by omega) k_103 ho1 d_Ms_summary_16 ?_
    refine g_Fr_destination F h (by omega) k_596 (v := N.2.1 11 y2) rfl d_Ms_summary_19 ?_
    refine lv_i2l (v := Int32.toInt64 (nI (N.2.1 11 y2))) E1 E2 d_Ms_summary_22 rfl ?_
    refine lv_lmul E1 E2 d_Ms_summary_23 ?_
    refine lv_ladd E1 E2 d_Ms_summary_24 ?_
    refine lv_ldc2 (own := "BridgeNet$Message") E1 E2 F.2.2.1 (F.2.2.2.1 _ k_456) d_Ms_summary_25 ?_
    refine lv_aload_n E1 E2 d_Ms_summary_28 rfl (lv_at hl 0 rfl) ?_
    refine g_Ms_frame_s F h (by omega) k_103 ho1 d_Ms_summary_29 ?_
    refine g_Fr_vlan F h (by omega) k_599 (v := N.2.1 12 y2) rfl d_Ms_summary_32 ?_
    refine lv_i2l (v := Int32.toInt64 (nI (N.2.1 12 y2))) E1 E2 d_Ms_summary_35 rfl ?_
    refine lv_lmul E1 E2 d_Ms_summary_36 ?_
    refine lv_ladd E1 E2 d_Ms_summary_37 ?_
    have hq : r_Ms_summary N i = ((Int32.toInt64 (N.1 12 i)) + (16 * (Int32.toInt64 (nI (N.2.1 11 y2))))) + (256 * (Int32.toInt64 (nI (N.2.1 12 y2)))) := bn_oc_s ho1
    exact bn_retl F hr hk h hq.symm rfl d_Ms_summary_38
def o_Li_empty (N : bn_S) (x : Nat) : bn_S := (sU N 7 x 0)
set_option maxHeartbeats 4000000 in
set_option maxRecDepth 100000 in
theorem c_Li_empty (l : Launch) (D : va_G) (ar : Nat → ClassId) (ad : Nat → Nat → Nat) (nf : Nat) (N : bn_S) (x : Nat) (hx : x < 20) : bn_V l y_Li_empty w_Li_empty { frames := 0, cells := 0, slots := 0, locals := 0 } (bn_y D ar ad nf) N [.ref (ad 7 x)] (o_Li_empty N x) := by
  intro sz
  refine bn_start (cc := b_Li_empty) (maxL := 1) (ret := (Option.none : Option Jvm.ClassFile.FieldType)) (by decide) rfl (Nat.le_of_ble_eq_true rfl) ?_
  intro p e s m args below meth c ls hsz F hml hr hk hl h
  subst hsz
  have E1 := F.1
  have E2 := F.2.1
  have hl : lv_has ls 1 [(0, .ref (ad 7 x))] := hl
  refine lv_aload_n E1 E2 d_Li_empty_0 rfl (lv_at hl 0 rfl) ?_
  refine lv_iconst (v := 0) E1 E2 d_Li_empty_1 (by decide) ?_
  refine p_Li_count F h (by omega) k_121 (v := 0) (by omega) d_Li_empty_2 (fun H locs h => ?_)
  have h : bn_H (bn_y D ar ad nf) s.heap H locs (sU N 7 x 0) := h
  have hq : o_Li_empty N x = (sU N 7 x 0) := rfl
  exact bn_retv F hr hk h hq.symm d_Li_empty_5
def r_Li_at (N : bn_S) (x : Nat) (k : Int32) : Option Nat := (if k < 0 then none else (if nI (N.2.1 7 x) ≤ k then none else some (12 * x + (((N.2.1 6 x) + (k.toNatClampNeg)) % 12))))
set_option maxHeartbeats 4000000 in
set_option maxRecDepth 100000 in
theorem c_Li_at (l : Launch) (D : va_G) (ar : Nat → ClassId) (ad : Nat → Nat → Nat) (nf : Nat) (N : bn_S) (x : Nat) (hx : x < 20) (k : Int32) : bn_R l y_Li_at w_Li_at { frames := 0, cells := 0, slots := 0, locals := 0 } (bn_y D ar ad nf) N [.ref (ad 7 x), .int k] ((r_Li_at N x k).map (ad 9)) N := by
  intro sz
  refine bn_start (cc := b_Li_at) (maxL := 2) (ret := (Option.some (Jvm.ClassFile.FieldType.object "BridgeNet$Message"))) (by decide) rfl (Nat.le_of_ble_eq_true rfl) ?_
  intro p e s m args below meth c ls hsz F hml hr hk hl h
  subst hsz
  have E1 := F.1
  have E2 := F.2.1
  have hl : lv_has ls 2 [(0, .ref (ad 7 x)), (1, .int k)] := hl
  refine lv_iload_n E1 E2 d_Li_at_0 rfl (lv_at hl 1 rfl) ?_
  refine lv_if_lt E1 E2 d_Li_at_1 rfl (fun h1 => ?_) (fun h1 => ?_)
  · have h1 : k < 0 := h1
    refine lv_null E1 E2 d_Li_at_29 ?_
    have hq : r_Li_at N x k = none := if_pos h1
    exact bn_retq F (v := none) hr hk h (by rw [hq]; rfl) rfl d_Li_at_30
  · have h1 : ¬ (k < 0) := h1
    refine lv_iload_n E1 E2 d_Li_at_4 rfl (lv_at hl 1 rfl) ?_
    refine lv_aload_n E1 E2 d_Li_at_5 rfl (lv_at hl 0 rfl) ?_
    refine g_Li_count F h (by omega) k_121 (v := N.2.1 7 x) rfl d_Li_at_6 ?_
    refine lv_icmp_ge E1 E2 d_Li_at_9 rfl (fun h2 => ?_) (fun h2 => ?_)
    · have h2 : nI (N.2.1 7 x) ≤ k := h2
      refine lv_null E1 E2 d_Li_at_29 ?_
      have hq : r_Li_at N x k = none := Eq.trans (if_neg h1) (if_pos h2)
      exact bn_retq F (v := none) hr hk h (by rw [hq]; rfl) rfl d_Li_at_30
    · have h2 : ¬ (nI (N.2.1 7 x) ≤ k) := h2
      refine lv_aload_n E1 E2 d_Li_at_12 rfl (lv_at hl 0 rfl) ?_
      refine g_Li_ring F h (by omega) k_119 d_Li_at_13 ?_
      refine lv_aload_n E1 E2 d_Li_at_16 rfl (lv_at hl 0 rfl) ?_
      refine g_Li_first F h (by omega) k_120 (v := N.2.1 6 x) rfl d_Li_at_17 ?_
      refine lv_iload_n E1 E2 d_Li_at_20 rfl (lv_at hl 1 rfl) ?_
      have hwcount : N.2.1 7 x < 13 := wf_count h.2.2.2 x
      have hn_k := bn_natle (n := (N.2.1 7 x)) h1 h2 (by omega)
      have hn_k2 := hn_k.2
      refine bn_ti hn_k.1 ?_
      refine lv_iadd E1 E2 d_Li_at_21 ?_
      have hwfirst : N.2.1 6 x < 12 := wf_first h.2.2.2 x
      refine bn_ti (y := nI ((N.2.1 6 x) + (k.toNatClampNeg))) (nI_add (N.2.1 6 x) (k.toNatClampNeg)) ?_
      refine lv_bipush (v := 12) E1 E2 d_Li_at_22 (by decide) ?_
      refine lv_irem E1 E2 d_Li_at_24 (by decide) ?_
      have hwfirst : N.2.1 6 x < 12 := wf_first h.2.2.2 x
      refine bn_ti (y := nI (((N.2.1 6 x) + (k.toNatClampNeg)) % 12)) (pk_rem (a := ((N.2.1 6 x) + (k.toNatClampNeg))) (d := 12) (by omega) (by omega) (by omega)) ?_
      have hwfirst : N.2.1 6 x < 12 := wf_first h.2.2.2 x
      refine al_ring F h (by omega) (i := ((N.2.1 6 x) + (k.toNatClampNeg)) % 12) (by omega) d_Li_at_25 ?_
      refine lv_goto E1 E2 d_Li_at_26 rfl ?_
      have hq : r_Li_at N x k = some (12 * x + (((N.2.1 6 x) + (k.toNatClampNeg)) % 12)) := Eq.trans (if_neg h1) (if_neg h2)
      exact bn_retq F (v := (some (ad 9 (12 * x + (((N.2.1 6 x) + (k.toNatClampNeg)) % 12))))) hr hk h (by rw [hq]; rfl) rfl d_Li_at_30
theorem lt_Li_at {N : bn_S} {x y : Nat} {k : Int32} (hx : x < 20) (h : r_Li_at N x k = some y) : y < 240 := by
  unfold r_Li_at at h
  split at h <;> (try split at h) <;> simp at h
  omega
def o_Li_takeFirst (N : bn_S) (x : Nat) : Option Nat × bn_S := (if (N.2.1 7 x) = 0 then (none, N) else (some (12 * x + (N.2.1 6 x)), (sU (sU N 6 x (((N.2.1 6 x) + 1) % 12)) 7 x ((N.2.1 7 x) - 1))))
set_option maxHeartbeats 4000000 in
set_option maxRecDepth 100000 in
theorem c_Li_takeFirst (l : Launch) (D : va_G) (ar : Nat → ClassId) (ad : Nat → Nat → Nat) (nf : Nat) (N : bn_S) (x : Nat) (hx : x < 20) : bn_R l y_Li_takeFirst w_Li_takeFirst { frames := 0, cells := 0, slots := 0, locals := 0 } (bn_y D ar ad nf) N [.ref (ad 7 x)] ((o_Li_takeFirst N x).1.map (ad 9)) (o_Li_takeFirst N x).2 := by
  intro sz
  refine bn_start (cc := b_Li_takeFirst) (maxL := 2) (ret := (Option.some (Jvm.ClassFile.FieldType.object "BridgeNet$Message"))) (by decide) rfl (Nat.le_of_ble_eq_true rfl) ?_
  intro p e s m args below meth c ls hsz F hml hr hk hl h
  subst hsz
  have E1 := F.1
  have E2 := F.2.1
  have hl : lv_has ls 2 [(0, .ref (ad 7 x))] := hl
  refine lv_aload_n E1 E2 d_Li_takeFirst_0 rfl (lv_at hl 0 rfl) ?_
  refine g_Li_count F h (by omega) k_121 (v := N.2.1 7 x) rfl d_Li_takeFirst_1 ?_
  have hwcount : N.2.1 7 x < 13 := wf_count h.2.2.2 x
  refine lv_if_ne E1 E2 d_Li_takeFirst_4 rfl (fun h1 => ?_) (fun h1 => ?_)
  · have h1 : ¬ ((N.2.1 7 x) = 0) := (fun hw => h1 ((nI_eq (a := N.2.1 7 x) (b := 0) (by omega) (by omega)).mpr hw))
    refine lv_aload_n E1 E2 d_Li_takeFirst_9 rfl (lv_at hl 0 rfl) ?_
    refine g_Li_ring F h (by omega) k_119 d_Li_takeFirst_10 ?_
    refine lv_aload_n E1 E2 d_Li_takeFirst_13 rfl (lv_at hl 0 rfl) ?_
    refine g_Li_first F h (by omega) k_120 (v := N.2.1 6 x) rfl d_Li_takeFirst_14 ?_
    have hwfirst : N.2.1 6 x < 12 := wf_first h.2.2.2 x
    refine al_ring F h (by omega) (i := N.2.1 6 x) (by omega) d_Li_takeFirst_17 ?_
    refine lv_astore_n E1 E2 d_Li_takeFirst_18 rfl hl (by decide) rfl (fun ls hl => ?_)
    have hl : lv_has ls 2 [(1, .ref (ad 9 (12 * x + (N.2.1 6 x)))), (0, .ref (ad 7 x))] := hl
    refine lv_aload_n E1 E2 d_Li_takeFirst_19 rfl (lv_at hl 1 rfl) ?_
    refine lv_aload_n E1 E2 d_Li_takeFirst_20 rfl (lv_at hl 1 rfl) ?_
    refine g_Li_first F h (by omega) k_120 (v := N.2.1 6 x) rfl d_Li_takeFirst_21 ?_
    refine lv_iconst (v := 1) E1 E2 d_Li_takeFirst_24 (by decide) ?_
    refine lv_iadd E1 E2 d_Li_takeFirst_25 ?_
    have hwfirst : N.2.1 6 x < 12 := wf_first h.2.2.2 x
    refine bn_ti (y := nI ((N.2.1 6 x) + 1)) (nI_add (N.2.1 6 x) 1) ?_
    refine lv_bipush (v := 12) E1 E2 d_Li_takeFirst_26 (by decide) ?_
    refine lv_irem E1 E2 d_Li_takeFirst_28 (by decide) ?_
    have hwfirst : N.2.1 6 x < 12 := wf_first h.2.2.2 x
    refine bn_ti (y := nI (((N.2.1 6 x) + 1) % 12)) (pk_rem (a := ((N.2.1 6 x) + 1)) (d := 12) (by omega) (by omega) (by omega)) ?_
    have hwfirst : N.2.1 6 x < 12 := wf_first h.2.2.2 x
    refine p_Li_first F h (by omega) k_120 (v := ((N.2.1 6 x) + 1) % 12) (by omega) d_Li_takeFirst_29 (fun H locs h => ?_)
    have h : bn_H (bn_y D ar ad nf) s.heap H locs (sU N 6 x (((N.2.1 6 x) + 1) % 12)) := h
    refine lv_aload_n E1 E2 d_Li_takeFirst_32 rfl (lv_at hl 1 rfl) ?_
    refine lv_dup E1 E2 d_Li_takeFirst_33 rfl ?_
    refine g_Li_count F h (by omega) k_121 (v := N.2.1 7 x) rfl d_Li_takeFirst_34 ?_
    refine lv_iconst (v := 1) E1 E2 d_Li_takeFirst_37 (by decide) ?_
    refine lv_isub E1 E2 d_Li_takeFirst_38 ?_
    have hwcount : N.2.1 7 x < 13 := wf_count h.2.2.2 x
    refine bn_ti (y := nI ((N.2.1 7 x) - 1)) (pk_sub (a := (N.2.1 7 x)) (b := 1) (by omega)) ?_
    have hwcount : N.2.1 7 x < 13 := wf_count h.2.2.2 x
    refine p_Li_count F h (by omega) k_121 (v := (N.2.1 7 x) - 1) (by omega) d_Li_takeFirst_39 (fun H locs h => ?_)
    have h : bn_H (bn_y D ar ad nf) s.heap H locs (sU (sU N 6 x (((N.2.1 6 x) + 1) % 12)) 7 x ((N.2.1 7 x) - 1)) := h
    refine lv_aload_n E1 E2 d_Li_takeFirst_42 rfl (lv_at hl 0 rfl) ?_
    have hq : o_Li_takeFirst N x = (some (12 * x + (N.2.1 6 x)), (sU (sU N 6 x (((N.2.1 6 x) + 1) % 12)) 7 x ((N.2.1 7 x) - 1))) := if_neg h1
    exact bn_retq F (v := (some (ad 9 (12 * x + (N.2.1 6 x))))) hr hk h (by rw [hq]; rfl) (congrArg Prod.snd hq).symm d_Li_takeFirst_43
  · have h1 : (N.2.1 7 x) = 0 := ((nI_eq (a := N.2.1 7 x) (b := 0) (by omega) (by omega)).mp h1)
    refine lv_null E1 E2 d_Li_takeFirst_7 ?_
    have hq : o_Li_takeFirst N x = (none, N) := if_pos h1
    exact bn_retq F (v := none) hr hk h (by rw [hq]; rfl) (congrArg Prod.snd hq).symm d_Li_takeFirst_8
theorem lt_Li_takeFirst {N : bn_S} {x y : Nat} {nf : Nat} (hN : bn_wf nf N) (hx : x < 20) (h : (o_Li_takeFirst N x).1 = some y) : y < 240 := by
  have := wf_first hN x
  unfold o_Li_takeFirst at h
  split at h <;> simp at h
  omega
def o_Li_put (N : bn_S) (x : Nat) (kd : Int32) (ro : Int32) (g : Option Nat) : Option Nat × bn_S := (bn_oc g (if (N.2.1 7 x) = 12 then (none, N) else (some (12 * x + (((N.2.1 6 x) + (N.2.1 7 x)) % 12)), (sO (sI (sI (sU N 7 x ((N.2.1 7 x) + 1)) 12 (12 * x + (((N.2.1 6 x) + (N.2.1 7 x)) % 12)) kd) 13 (12 * x + (((N.2.1 6 x) + (N.2.1 7 x)) % 12)) ro) 5 (12 * x + (((N.2.1 6 x) + (N.2.1 7 x)) % 12)) none))) (fun g_ => (if (N.2.1 7 x) = 12 then (none, N) else (some (12 * x + (((N.2.1 6 x) + (N.2.1 7 x)) % 12)), (sO (sI (sI (sU N 7 x ((N.2.1 7 x) + 1)) 12 (12 * x + (((N.2.1 6 x) + (N.2.1 7 x)) % 12)) kd) 13 (12 * x + (((N.2.1 6 x) + (N.2.1 7 x)) % 12)) ro) 5 (12 * x + (((N.2.1 6 x) + (N.2.1 7 x)) % 12)) (some g_))))))
set_option maxHeartbeats 4000000 in
set_option maxRecDepth 100000 in
theorem c_Li_put (l : Launch) (D : va_G) (ar : Nat → ClassId) (ad : Nat → Nat → Nat) (nf : Nat) (N : bn_S) (x : Nat) (hx : x < 20) (kd : Int32) (ro : Int32) (g : Option Nat) (hg : ∀ y, g = some y → y < nf) : bn_R l y_Li_put w_Li_put { frames := 0, cells := 0, slots := 0, locals := 0 } (bn_y D ar ad nf) N [.ref (ad 7 x), .int kd, .int ro, va_rf (g.map (ad 13))] ((o_Li_put N x kd ro g).1.map (ad 9)) (o_Li_put N x kd ro g).2 := by
  intro sz
  cases g with
  | none =>
    refine bn_start (cc := b_Li_put) (maxL := 5) (ret := (Option.some (Jvm.ClassFile.FieldType.object "BridgeNet$Message"))) (by decide) rfl (Nat.le_of_ble_eq_true rfl) ?_
    intro p e s m args below meth c ls hsz F hml hr hk hl h
    subst hsz
    have E1 := F.1
    have E2 := F.2.1
    have hl : lv_has ls 5 [(0, .ref (ad 7 x)), (1, .int kd), (2, .int ro), (3, .null)] := hl
    refine lv_aload_n E1 E2 d_Li_put_0 rfl (lv_at hl 0 rfl) ?_
    refine g_Li_count F h (by omega) k_121 (v := N.2.1 7 x) rfl d_Li_put_1 ?_
    refine lv_bipush (v := 12) E1 E2 d_Li_put_4 (by decide) ?_
    have hwcount : N.2.1 7 x < 13 := wf_count h.2.2.2 x
    refine lv_icmp_ne E1 E2 d_Li_put_6 rfl (fun h1 => ?_) (fun h1 => ?_)
    · have h1 : ¬ ((N.2.1 7 x) = 12) := (fun hw => h1 ((nI_eq (a := N.2.1 7 x) (b := 12) (by omega) (by omega)).mpr hw))
      refine lv_aload_n E1 E2 d_Li_put_11 rfl (lv_at hl 0 rfl) ?_
      refine g_Li_ring F h (by omega) k_119 d_Li_put_12 ?_
      refine lv_aload_n E1 E2 d_Li_put_15 rfl (lv_at hl 0 rfl) ?_
      refine g_Li_first F h (by omega) k_120 (v := N.2.1 6 x) rfl d_Li_put_16 ?_
      refine lv_aload_n E1 E2 d_Li_put_19 rfl (lv_at hl 0 rfl) ?_
      refine g_Li_count F h (by omega) k_121 (v := N.2.1 7 x) rfl d_Li_put_20 ?_
      refine lv_iadd E1 E2 d_Li_put_23 ?_
      have hwfirst : N.2.1 6 x < 12 := wf_first h.2.2.2 x
      have hwcount : N.2.1 7 x < 13 := wf_count h.2.2.2 x
      refine bn_ti (y := nI ((N.2.1 6 x) + (N.2.1 7 x))) (nI_add (N.2.1 6 x) (N.2.1 7 x)) ?_
      refine lv_bipush (v := 12) E1 E2 d_Li_put_24 (by decide) ?_
      refine lv_irem E1 E2 d_Li_put_26 (by decide) ?_
      have hwfirst : N.2.1 6 x < 12 := wf_first h.2.2.2 x
      have hwcount : N.2.1 7 x < 13 := wf_count h.2.2.2 x
      refine bn_ti (y := nI (((N.2.1 6 x) + (N.2.1 7 x)) % 12)) (pk_rem (a := ((N.2.1 6 x) + (N.2.1 7 x))) (d := 12) (by omega) (by omega) (by omega)) ?_
      have hwfirst : N.2.1 6 x < 12 := wf_first h.2.2.2 x
      have hwcount : N.2.1 7 x < 13 := wf_count h.2.2.2 x
      refine al_ring F h (by omega) (i := ((N.2.1 6 x) + (N.2.1 7 x)) % 12) (by omega) d_Li_put_27 ?_
      refine lv_astore E1 E2 d_Li_put_28 hl (by decide) rfl (fun ls hl => ?_)
      have hl : lv_has ls 5 [(4, .ref (ad 9 (12 * x + (((N.2.1 6 x) + (N.2.1 7 x)) % 12)))), (0, .ref (ad 7 x)), (1, .int kd), (2, .int ro), (3, .null)] := hl
      refine lv_aload_n E1 E2 d_Li_put_30 rfl (lv_at hl 1 rfl) ?_
      refine lv_dup E1 E2 d_Li_put_31 rfl ?_
      refine g_Li_count F h (by omega) k_121 (v := N.2.1 7 x) rfl d_Li_put_32 ?_
      refine lv_iconst (v := 1) E1 E2 d_Li_put_35 (by decide) ?_
      refine lv_iadd E1 E2 d_Li_put_36 ?_
      have hwcount : N.2.1 7 x < 13 := wf_count h.2.2.2 x
      refine bn_ti (y := nI ((N.2.1 7 x) + 1)) (nI_add (N.2.1 7 x) 1) ?_
      have hwcount : N.2.1 7 x < 13 := wf_count h.2.2.2 x
      refine p_Li_count F h (by omega) k_121 (v := (N.2.1 7 x) + 1) (by omega) d_Li_put_37 (fun H locs h => ?_)
      have h : bn_H (bn_y D ar ad nf) s.heap H locs (sU N 7 x ((N.2.1 7 x) + 1)) := h
      refine lv_aload E1 E2 d_Li_put_40 (lv_at hl 0 rfl) ?_
      refine lv_iload_n E1 E2 d_Li_put_42 rfl (lv_at hl 2 rfl) ?_
      refine p_Ms_kind F h (by omega) k_90 d_Li_put_43 (fun H locs h => ?_)
      have h : bn_H (bn_y D ar ad nf) s.heap H locs (sI (sU N 7 x ((N.2.1 7 x) + 1)) 12 (12 * x + (((N.2.1 6 x) + (N.2.1 7 x)) % 12)) kd) := h
      refine lv_aload E1 E2 d_Li_put_46 (lv_at hl 0 rfl) ?_
      refine lv_iload_n E1 E2 d_Li_put_48 rfl (lv_at hl 3 rfl) ?_
      refine p_Ms_root F h (by omega) k_92 d_Li_put_49 (fun H locs h => ?_)
      have h : bn_H (bn_y D ar ad nf) s.heap H locs (sI (sI (sU N 7 x ((N.2.1 7 x) + 1)) 12 (12 * x + (((N.2.1 6 x) + (N.2.1 7 x)) % 12)) kd) 13 (12 * x + (((N.2.1 6 x) + (N.2.1 7 x)) % 12)) ro) := h
      refine lv_aload E1 E2 d_Li_put_52 (lv_at hl 0 rfl) ?_
      refine lv_aload_nN E1 E2 d_Li_put_54 rfl (lv_at hl 4 rfl) ?_
      refine p_Ms_frame F h (by omega) k_104 (none) (fun _ hz => by cases hz) d_Li_put_55 (fun H locs h => ?_)
      have h : bn_H (bn_y D ar ad nf) s.heap H locs (sO (sI (sI (sU N 7 x ((N.2.1 7 x) + 1)) 12 (12 * x + (((N.2.1 6 x) + (N.2.1 7 x)) % 12)) kd) 13 (12 * x + (((N.2.1 6 x) + (N.2.1 7 x)) % 12)) ro) 5 (12 * x + (((N.2.1 6 x) + (N.2.1 7 x)) % 12)) none) := h
      refine lv_aload E1 E2 d_Li_put_58 (lv_at hl 0 rfl) ?_
      have hq : o_Li_put N x kd ro none = (some (12 * x + (((N.2.1 6 x) + (N.2.1 7 x)) % 12)), (sO (sI (sI (sU N 7 x ((N.2.1 7 x) + 1)) 12 (12 * x + (((N.2.1 6 x) + (N.2.1 7 x)) % 12)) kd) 13 (12 * x + (((N.2.1 6 x) + (N.2.1 7 x)) % 12)) ro) 5 (12 * x + (((N.2.1 6 x) + (N.2.1 7 x)) % 12)) none)) := Eq.trans (bn_oc_n rfl) (if_neg h1)
      exact bn_retq F (v := (some (ad 9 (12 * x + (((N.2.1 6 x) + (N.2.1 7 x)) % 12))))) hr hk h (by rw [hq]; rfl) (congrArg Prod.snd hq).symm d_Li_put_60
    · have h1 : (N.2.1 7 x) = 12 := ((nI_eq (a := N.2.1 7 x) (b := 12) (by omega) (by omega)).mp h1)
      refine lv_null E1 E2 d_Li_put_9 ?_
      have hq : o_Li_put N x kd ro none = (none, N) := Eq.trans (bn_oc_n rfl) (if_pos h1)
      exact bn_retq F (v := none) hr hk h (by rw [hq]; rfl) (congrArg Prod.snd hq).symm d_Li_put_10
  | some g_ =>
    have hg_ := hg g_ rfl
    refine bn_start (cc := b_Li_put) (maxL := 5) (ret := (Option.some (Jvm.ClassFile.FieldType.object "BridgeNet$Message"))) (by decide) rfl (Nat.le_of_ble_eq_true rfl) ?_
    intro p e s m args below meth c ls hsz F hml hr hk hl h
    subst hsz
    have E1 := F.1
    have E2 := F.2.1
    have hl : lv_has ls 5 [(0, .ref (ad 7 x)), (1, .int kd), (2, .int ro), (3, .ref (ad 13 g_))] := hl
    refine lv_aload_n E1 E2 d_Li_put_0 rfl (lv_at hl 0 rfl) ?_
    refine g_Li_count F h (by omega) k_121 (v := N.2.1 7 x) rfl d_Li_put_1 ?_
    refine lv_bipush (v := 12) E1 E2 d_Li_put_4 (by decide) ?_
    have hwcount : N.2.1 7 x < 13 := wf_count h.2.2.2 x
    refine lv_icmp_ne E1 E2 d_Li_put_6 rfl (fun h2 => ?_) (fun h2 => ?_)
    · have h2 : ¬ ((N.2.1 7 x) = 12) := (fun hw => h2 ((nI_eq (a := N.2.1 7 x) (b := 12) (by omega) (by omega)).mpr hw))
      refine lv_aload_n E1 E2 d_Li_put_11 rfl (lv_at hl 0 rfl) ?_
      refine g_Li_ring F h (by omega) k_119 d_Li_put_12 ?_
      refine lv_aload_n E1 E2 d_Li_put_15 rfl (lv_at hl 0 rfl) ?_
      refine g_Li_first F h (by omega) k_120 (v := N.2.1 6 x) rfl d_Li_put_16 ?_
      refine lv_aload_n E1 E2 d_Li_put_19 rfl (lv_at hl 0 rfl) ?_
      refine g_Li_count F h (by omega) k_121 (v := N.2.1 7 x) rfl d_Li_put_20 ?_
      refine lv_iadd E1 E2 d_Li_put_23 ?_
      have hwfirst : N.2.1 6 x < 12 := wf_first h.2.2.2 x
      have hwcount : N.2.1 7 x < 13 := wf_count h.2.2.2 x
      refine bn_ti (y := nI ((N.2.1 6 x) + (N.2.1 7 x))) (nI_add (N.2.1 6 x) (N.2.1 7 x)) ?_
      refine lv_bipush (v := 12) E1 E2 d_Li_put_24 (by decide) ?_
      refine lv_irem E1 E2 d_Li_put_26 (by decide) ?_
      have hwfirst : N.2.1 6 x < 12 := wf_first h.2.2.2 x
      have hwcount : N.2.1 7 x < 13 := wf_count h.2.2.2 x
      refine bn_ti (y := nI (((N.2.1 6 x) + (N.2.1 7 x)) % 12)) (pk_rem (a := ((N.2.1 6 x) + (N.2.1 7 x))) (d := 12) (by omega) (by omega) (by omega)) ?_
      have hwfirst : N.2.1 6 x < 12 := wf_first h.2.2.2 x
      have hwcount : N.2.1 7 x < 13 := wf_count h.2.2.2 x
      refine al_ring F h (by omega) (i := ((N.2.1 6 x) + (N.2.1 7 x)) % 12) (by omega) d_Li_put_27 ?_
      refine lv_astore E1 E2 d_Li_put_28 hl (by decide) rfl (fun ls hl => ?_)
      have hl : lv_has ls 5 [(4, .ref (ad 9 (12 * x + (((N.2.1 6 x) + (N.2.1 7 x)) % 12)))), (0, .ref (ad 7 x)), (1, .int kd), (2, .int ro), (3, .ref (ad 13 g_))] := hl
      refine lv_aload_n E1 E2 d_Li_put_30 rfl (lv_at hl 1 rfl) ?_
      refine lv_dup E1 E2 d_Li_put_31 rfl ?_
      refine g_Li_count F h (by omega) k_121 (v := N.2.1 7 x) rfl d_Li_put_32 ?_
      refine lv_iconst (v := 1) E1 E2 d_Li_put_35 (by decide) ?_
      refine lv_iadd E1 E2 d_Li_put_36 ?_
      have hwcount : N.2.1 7 x < 13 := wf_count h.2.2.2 x
      refine bn_ti (y := nI ((N.2.1 7 x) + 1)) (nI_add (N.2.1 7 x) 1) ?_
      have hwcount : N.2.1 7 x < 13 := wf_count h.2.2.2 x
      refine p_Li_count F h (by omega) k_121 (v := (N.2.1 7 x) + 1) (by omega) d_Li_put_37 (fun H locs h => ?_)
      have h : bn_H (bn_y D ar ad nf) s.heap H locs (sU N 7 x ((N.2.1 7 x) + 1)) := h
      refine lv_aload E1 E2 d_Li_put_40 (lv_at hl 0 rfl) ?_
      refine lv_iload_n E1 E2 d_Li_put_42 rfl (lv_at hl 2 rfl) ?_
      refine p_Ms_kind F h (by omega) k_90 d_Li_put_43 (fun H locs h => ?_)
      have h : bn_H (bn_y D ar ad nf) s.heap H locs (sI (sU N 7 x ((N.2.1 7 x) + 1)) 12 (12 * x + (((N.2.1 6 x) + (N.2.1 7 x)) % 12)) kd) := h
      refine lv_aload E1 E2 d_Li_put_46 (lv_at hl 0 rfl) ?_
      refine lv_iload_n E1 E2 d_Li_put_48 rfl (lv_at hl 3 rfl) ?_
      refine p_Ms_root F h (by omega) k_92 d_Li_put_49 (fun H locs h => ?_)
      have h : bn_H (bn_y D ar ad nf) s.heap H locs (sI (sI (sU N 7 x ((N.2.1 7 x) + 1)) 12 (12 * x + (((N.2.1 6 x) + (N.2.1 7 x)) % 12)) kd) 13 (12 * x + (((N.2.1 6 x) + (N.2.1 7 x)) % 12)) ro) := h
      refine lv_aload E1 E2 d_Li_put_52 (lv_at hl 0 rfl) ?_
      refine lv_aload_n E1 E2 d_Li_put_54 rfl (lv_at hl 4 rfl) ?_
      refine p_Ms_frame F h (by omega) k_104 (some g_) (fun _ hz => by cases hz; omega) d_Li_put_55 (fun H locs h => ?_)
      have h : bn_H (bn_y D ar ad nf) s.heap H locs (sO (sI (sI (sU N 7 x ((N.2.1 7 x) + 1)) 12 (12 * x + (((N.2.1 6 x) + (N.2.1 7 x)) % 12)) kd) 13 (12 * x + (((N.2.1 6 x) + (N.2.1 7 x)) % 12)) ro) 5 (12 * x + (((N.2.1 6 x) + (N.2.1 7 x)) % 12)) (some g_)) := h
      refine lv_aload E1 E2 d_Li_put_58 (lv_at hl 0 rfl) ?_
      have hq : o_Li_put N x kd ro (some g_) = (some (12 * x + (((N.2.1 6 x) + (N.2.1 7 x)) % 12)), (sO (sI (sI (sU N 7 x ((N.2.1 7 x) + 1)) 12 (12 * x + (((N.2.1 6 x) + (N.2.1 7 x)) % 12)) kd) 13 (12 * x + (((N.2.1 6 x) + (N.2.1 7 x)) % 12)) ro) 5 (12 * x + (((N.2.1 6 x) + (N.2.1 7 x)) % 12)) (some g_))) := Eq.trans (bn_oc_s rfl) (if_neg h2)
      exact bn_retq F (v := (some (ad 9 (12 * x + (((N.2.1 6 x) + (N.2.1 7 x)) % 12))))) hr hk h (by rw [hq]; rfl) (congrArg Prod.snd hq).symm d_Li_put_60
    · have h2 : (N.2.1 7 x) = 12 := ((nI_eq (a := N.2.1 7 x) (b := 12) (by omega) (by omega)).mp h2)
      refine lv_null E1 E2 d_Li_put_9 ?_
      have hq : o_Li_put N x kd ro (some g_) = (none, N) := Eq.trans (bn_oc_s rfl) (if_pos h2)
      exact bn_retq F (v := none) hr hk h (by rw [hq]; rfl) (congrArg Prod.snd hq).symm d_Li_put_10
theorem lt_Li_put {N : bn_S} {x y : Nat} {kd ro : Int32} {g : Option Nat} (hx : x < 20) (h : (o_Li_put N x kd ro g).1 = some y) : y < 240 := by
  unfold o_Li_put at h
  cases g <;> (simp only [bn_oc] at h; split at h <;> simp at h; omega)
def o_Li_putTell (N : bn_S) (x : Nat) (v : Int64) (ho : Int32) (pr : Nat) : bn_S := (bn_oc ((o_Li_put N x 1 (r_Ve_rootOf N v) none).1) ((o_Li_put N x 1 (r_Ve_rootOf N v) none).2) (fun y2 => (sU (sI (sJ ((o_Li_put N x 1 (r_Ve_rootOf N v) none).2) 2 y2 v) 14 y2 ho) 5 y2 pr)))
set_option maxHeartbeats 4000000 in
set_option maxRecDepth 100000 in
theorem c_Li_putTell (l : Launch) (D : va_G) (ar : Nat → ClassId) (ad : Nat → Nat → Nat) (nf : Nat) (N : bn_S) (x : Nat) (hx : x < 20) (v : Int64) (ho : Int32) (pr : Nat) (hpr : pr < 2) : bn_V l y_Li_putTell w_Li_putTell { frames := 1, cells := 0, slots := 0, locals := 24 } (bn_y D ar ad nf) N [.ref (ad 7 x), .long v, .int ho, .int (nI pr)] (o_Li_putTell N x v ho pr) := by
  intro sz
  refine bn_start (cc := b_Li_putTell) (maxL := 6) (ret := (Option.none : Option Jvm.ClassFile.FieldType)) (by decide) rfl (Nat.le_of_ble_eq_true rfl) ?_
  intro p e s m args below meth c ls hsz F hml hr hk hl h
  subst hsz
  have E1 := F.1
  have E2 := F.2.1
  have hl : lv_has ls 6 [(0, .ref (ad 7 x)), (1, .long v), (3, .int ho), (4, .int (nI pr))] := hl
  refine lv_aload_n E1 E2 d_Li_putTell_0 rfl (lv_at hl 0 rfl) ?_
  refine lv_iconst (v := 1) E1 E2 d_Li_putTell_1 (by decide) ?_
  refine lv_lload_n E1 E2 d_Li_putTell_2 rfl (lv_at hl 1 rfl) ?_
  refine bn_calli F h (bn_runS (n := 1) (As := [.long v]) (rest := [.int 1, .ref (ad 7 x)]) F hml hl.1 h (c_Ve_rootOf l D ar ad nf N v _) (bn_goodS k_312 k_270 k_8 k_271) rfl rfl (by decide) ⟨by decide, by decide⟩ rfl rfl (Nat.le_of_ble_eq_true rfl) d_Li_putTell_3 ⟨Nat.zero_le _, Nat.zero_le _⟩) (fun H locs h => ?_)
  refine lv_null E1 E2 d_Li_putTell_6 ?_
  have hwf := h.2.2.2
  refine bn_callq F h (bn_runV (n := 3) (As := [.int 1, .int (r_Ve_rootOf N v), .null]) (rest := []) F hml hl.1 h (mm_7 (by omega)) rfl rfl (c_Li_put l D ar ad nf N x (by omega) 1 (r_Ve_rootOf N v) none (fun _ hz => by cases hz) _) (bn_goodV k_313 k_315 ks_Li_put k_4 k_316) rfl rfl (by decide) ⟨by decide, by decide⟩ rfl rfl (Nat.le_of_ble_eq_true rfl) d_Li_putTell_7 ⟨Nat.zero_le _, Nat.zero_le _⟩) (fun H locs h => ?_)
  have h : bn_H (bn_y D ar ad nf) s.heap H locs (o_Li_put N x 1 (r_Ve_rootOf N v) none).2 := h
  refine bn_oq (f := ad 9) (o := (o_Li_put N x 1 (r_Ve_rootOf N v) none).1) (fun ho1 => ?_) (fun y2 ho1 => ?_)
  · skip
    refine lv_astoreN E1 E2 d_Li_putTell_10 hl (by decide) rfl (fun ls hl => ?_)
    have hl : lv_has ls 6 [(5, .null), (0, .ref (ad 7 x)), (1, .long v), (3, .int ho), (4, .int (nI pr))] := hl
    refine lv_aloadN E1 E2 d_Li_putTell_12 (lv_at hl 0 rfl) ?_
    refine lv_ifnullN E1 E2 d_Li_putTell_14 rfl ?_
    have hq : o_Li_putTell N x v ho pr = (o_Li_put N x 1 (r_Ve_rootOf N v) none).2 := bn_oc_n ho1
    exact bn_retv F hr hk h hq.symm d_Li_putTell_36
  · have hy2 := lt_Li_put (by omega) ho1
    refine lv_astore E1 E2 d_Li_putTell_10 hl (by decide) rfl (fun ls hl => ?_)
    have hl : lv_has ls 6 [(5, .ref (ad 9 y2)), (0, .ref (ad 7 x)), (1, .long v), (3, .int ho), (4, .int (nI pr))] := hl
    refine lv_aload E1 E2 d_Li_putTell_12 (lv_at hl 0 rfl) ?_
    refine lv_ifnull E1 E2 d_Li_putTell_14 ?_
    refine lv_aload E1 E2 d_Li_putTell_17 (lv_at hl 0 rfl) ?_
    refine lv_lload_n E1 E2 d_Li_putTell_19 rfl (lv_at hl 2 rfl) ?_
    refine p_Ms_vector F h (by omega) k_95 d_Li_putTell_20 (fun H locs h => ?_)
    have h : bn_H (bn_y D ar ad nf) s.heap H locs (sJ ((o_Li_put N x 1 (r_Ve_rootOf N v) none).2) 2 y2 v) := h
    refine lv_aload E1 E2 d_Li_putTell_23 (lv_at hl 0 rfl) ?_
    refine lv_iload_n E1 E2 d_Li_putTell_25 rfl (lv_at hl 3 rfl) ?_
    refine p_Ms_hops F h (by omega) k_98 d_Li_putTell_26 (fun H locs h => ?_)
    have h : bn_H (bn_y D ar ad nf) s.heap H locs (sI (sJ ((o_Li_put N x 1 (r_Ve_rootOf N v) none).2) 2 y2 v) 14 y2 ho) := h
    refine lv_aload E1 E2 d_Li_putTell_29 (lv_at hl 0 rfl) ?_
    refine lv_iload E1 E2 d_Li_putTell_31 (lv_at hl 4 rfl) ?_
    refine p_Ms_proposing F h (by omega) k_101 (v := pr) (by omega) d_Li_putTell_33 (fun H locs h => ?_)
    have h : bn_H (bn_y D ar ad nf) s.heap H locs (sU (sI (sJ ((o_Li_put N x 1 (r_Ve_rootOf N v) none).2) 2 y2 v) 14 y2 ho) 5 y2 pr) := h
    have hq : o_Li_putTell N x v ho pr = (sU (sI (sJ ((o_Li_put N x 1 (r_Ve_rootOf N v) none).2) 2 y2 v) 14 y2 ho) 5 y2 pr) := bn_oc_s ho1
    exact bn_retv F hr hk h hq.symm d_Li_putTell_36
def o_Li_putAgree (N : bn_S) (x : Nat) (ro : Int32) : bn_S := (bn_oc ((o_Li_put N x 2 ro none).1) ((o_Li_put N x 2 ro none).2) (fun y2 => (o_Li_put N x 2 ro none).2))
set_option maxHeartbeats 4000000 in
set_option maxRecDepth 100000 in
theorem c_Li_putAgree (l : Launch) (D : va_G) (ar : Nat → ClassId) (ad : Nat → Nat → Nat) (nf : Nat) (N : bn_S) (x : Nat) (hx : x < 20) (ro : Int32) : bn_V l y_Li_putAgree w_Li_putAgree { frames := 1, cells := 0, slots := 0, locals := 24 } (bn_y D ar ad nf) N [.ref (ad 7 x), .int ro] (o_Li_putAgree N x ro) := by
  intro sz
  refine bn_start (cc := b_Li_putAgree) (maxL := 2) (ret := (Option.none : Option Jvm.ClassFile.FieldType)) (by decide) rfl (Nat.le_of_ble_eq_true rfl) ?_
  intro p e s m args below meth c ls hsz F hml hr hk hl h
  subst hsz
  have E1 := F.1
  have E2 := F.2.1
  have hl : lv_has ls 2 [(0, .ref (ad 7 x)), (1, .int ro)] := hl
  refine lv_aload_n E1 E2 d_Li_putAgree_0 rfl (lv_at hl 0 rfl) ?_
  refine lv_iconst (v := 2) E1 E2 d_Li_putAgree_1 (by decide) ?_
  refine lv_iload_n E1 E2 d_Li_putAgree_2 rfl (lv_at hl 1 rfl) ?_
  refine lv_null E1 E2 d_Li_putAgree_3 ?_
  have hwf := h.2.2.2
  refine bn_callq F h (bn_runV (n := 3) (As := [.int 2, .int ro, .null]) (rest := []) F hml hl.1 h (mm_7 (by omega)) rfl rfl (c_Li_put l D ar ad nf N x (by omega) 2 ro none (fun _ hz => by cases hz) _) (bn_goodV k_313 k_315 ks_Li_put k_4 k_316) rfl rfl (by decide) ⟨by decide, by decide⟩ rfl rfl (Nat.le_of_ble_eq_true rfl) d_Li_putAgree_4 ⟨Nat.zero_le _, Nat.zero_le _⟩) (fun H locs h => ?_)
  have h : bn_H (bn_y D ar ad nf) s.heap H locs (o_Li_put N x 2 ro none).2 := h
  refine bn_oq (f := ad 9) (o := (o_Li_put N x 2 ro none).1) (fun ho1 => ?_) (fun y2 ho1 => ?_)
  · skip
    refine lv_pop E1 E2 d_Li_putAgree_7 rfl ?_
    have hq : o_Li_putAgree N x ro = (o_Li_put N x 2 ro none).2 := bn_oc_n ho1
    exact bn_retv F hr hk h hq.symm d_Li_putAgree_8
  · have hy2 := lt_Li_put (by omega) ho1
    refine lv_pop E1 E2 d_Li_putAgree_7 rfl ?_
    have hq : o_Li_putAgree N x ro = (o_Li_put N x 2 ro none).2 := bn_oc_s ho1
    exact bn_retv F hr hk h hq.symm d_Li_putAgree_8
def o_Li_putFrame (N : bn_S) (x : Nat) (f : Nat) : bn_S := (bn_oc ((o_Li_put N x 3 0 (some f)).1) ((o_Li_put N x 3 0 (some f)).2) (fun y2 => (o_Li_put N x 3 0 (some f)).2))
set_option maxHeartbeats 4000000 in
set_option maxRecDepth 100000 in
theorem c_Li_putFrame (l : Launch) (D : va_G) (ar : Nat → ClassId) (ad : Nat → Nat → Nat) (nf : Nat) (N : bn_S) (x : Nat) (hx : x < 20) (f : Nat) (hf : f < nf) : bn_V l y_Li_putFrame w_Li_putFrame { frames := 1, cells := 0, slots := 0, locals := 24 } (bn_y D ar ad nf) N [.ref (ad 7 x), .ref (ad 13 f)] (o_Li_putFrame N x f) := by
  intro sz
  refine bn_start (cc := b_Li_putFrame) (maxL := 2) (ret := (Option.none : Option Jvm.ClassFile.FieldType)) (by decide) rfl (Nat.le_of_ble_eq_true rfl) ?_
  intro p e s m args below meth c ls hsz F hml hr hk hl h
  subst hsz
  have E1 := F.1
  have E2 := F.2.1
  have hl : lv_has ls 2 [(0, .ref (ad 7 x)), (1, .ref (ad 13 f))] := hl
  refine lv_aload_n E1 E2 d_Li_putFrame_0 rfl (lv_at hl 0 rfl) ?_
  refine lv_iconst (v := 3) E1 E2 d_Li_putFrame_1 (by decide) ?_
  refine lv_iconst (v := 0) E1 E2 d_Li_putFrame_2 (by decide) ?_
  refine lv_aload_n E1 E2 d_Li_putFrame_3 rfl (lv_at hl 1 rfl) ?_
  have hwf := h.2.2.2
  refine bn_callq F h (bn_runV (n := 3) (As := [.int 3, .int 0, .ref (ad 13 f)]) (rest := []) F hml hl.1 h (mm_7 (by omega)) rfl rfl (c_Li_put l D ar ad nf N x (by omega) 3 0 (some f) (fun _ hz => by cases hz; omega) _) (bn_goodV k_313 k_315 ks_Li_put k_4 k_316) rfl rfl (by decide) ⟨by decide, by decide⟩ rfl rfl (Nat.le_of_ble_eq_true rfl) d_Li_putFrame_4 ⟨Nat.zero_le _, Nat.zero_le _⟩) (fun H locs h => ?_)
  have h : bn_H (bn_y D ar ad nf) s.heap H locs (o_Li_put N x 3 0 (some f)).2 := h
  refine bn_oq (f := ad 9) (o := (o_Li_put N x 3 0 (some f)).1) (fun ho1 => ?_) (fun y2 ho1 => ?_)
  · skip
    refine lv_pop E1 E2 d_Li_putFrame_7 rfl ?_
    have hq : o_Li_putFrame N x f = (o_Li_put N x 3 0 (some f)).2 := bn_oc_n ho1
    exact bn_retv F hr hk h hq.symm d_Li_putFrame_8
  · have hy2 := lt_Li_put (by omega) ho1
    refine lv_pop E1 E2 d_Li_putFrame_7 rfl ?_
    have hq : o_Li_putFrame N x f = (o_Li_put N x 3 0 (some f)).2 := bn_oc_s ho1
    exact bn_retv F hr hk h hq.symm d_Li_putFrame_8
def o_St_keep (N : bn_S) (t : Nat) (f : Nat) : bn_S := (if 40 ≤ (N.2.1 9 t) then N else (sU (sJ N (t + 20) (N.2.1 9 t) (r_Fr_inboxEntry N f)) 9 t ((N.2.1 9 t) + 1)))
set_option maxHeartbeats 4000000 in
set_option maxRecDepth 100000 in
theorem c_St_keep (l : Launch) (D : va_G) (ar : Nat → ClassId) (ad : Nat → Nat → Nat) (nf : Nat) (N : bn_S) (t : Nat) (ht : t < 8) (f : Nat) (hf : f < nf) : bn_V l y_St_keep w_St_keep { frames := 1, cells := 0, slots := 0, locals := 20 } (bn_y D ar ad nf) N [.ref (ad 11 t), .ref (ad 13 f)] (o_St_keep N t f) := by
  intro sz
  refine bn_start (cc := b_St_keep) (maxL := 2) (ret := (Option.none : Option Jvm.ClassFile.FieldType)) (by decide) rfl (Nat.le_of_ble_eq_true rfl) ?_
  intro p e s m args below meth c ls hsz F hml hr hk hl h
  subst hsz
  have E1 := F.1
  have E2 := F.2.1
  have hl : lv_has ls 2 [(0, .ref (ad 11 t)), (1, .ref (ad 13 f))] := hl
  refine lv_aload_n E1 E2 d_St_keep_0 rfl (lv_at hl 0 rfl) ?_
  refine g_St_count F h (by omega) k_207 (v := N.2.1 9 t) rfl d_St_keep_1 ?_
  refine lv_bipush (v := 40) E1 E2 d_St_keep_4 (by decide) ?_
  have hwscount : N.2.1 9 t < 41 := wf_scount h.2.2.2 t
  refine lv_icmp_ge E1 E2 d_St_keep_6 rfl (fun h1 => ?_) (fun h1 => ?_)
  · have h1 : 40 ≤ (N.2.1 9 t) := ((nI_leI (a := 40) (b := N.2.1 9 t) (by omega) (by omega)).mp h1)
    have hq : o_St_keep N t f = N := if_pos h1
    exact bn_retv F hr hk h hq.symm d_St_keep_32
  · have h1 : ¬ (40 ≤ (N.2.1 9 t)) := (fun hw => h1 ((nI_leI (a := 40) (b := N.2.1 9 t) (by omega) (by omega)).mpr hw))
    refine lv_aload_n E1 E2 d_St_keep_9 rfl (lv_at hl 0 rfl) ?_
    refine g_St_inbox F h (by omega) k_206 d_St_keep_10 ?_
    refine lv_aload_n E1 E2 d_St_keep_13 rfl (lv_at hl 0 rfl) ?_
    refine g_St_count F h (by omega) k_207 (v := N.2.1 9 t) rfl d_St_keep_14 ?_
    refine lv_aload_n E1 E2 d_St_keep_17 rfl (lv_at hl 1 rfl) ?_
    refine bn_calll F h (bn_runV (n := 0) (As := []) (rest := [.int (nI (N.2.1 9 t)), .ref (ad 12 t)]) F hml hl.1 h (mm_13 (by omega)) rfl rfl (c_Fr_inboxEntry l D ar ad nf N f (by omega) _) (bn_goodV k_642 k_643 k_644 k_15 k_645) rfl rfl (by decide) ⟨by decide, by decide⟩ rfl rfl (Nat.le_of_ble_eq_true rfl) d_St_keep_18 ⟨Nat.zero_le _, Nat.zero_le _⟩) (fun H locs h => ?_)
    have hwscount : N.2.1 9 t < 41 := wf_scount h.2.2.2 t
    refine as_inbox F h (by omega) (i := N.2.1 9 t) (v := r_Fr_inboxEntry N f) (by omega) d_St_keep_21 (fun H locs h => ?_)
    have h : bn_H (bn_y D ar ad nf) s.heap H locs (sJ N (t + 20) (N.2.1 9 t) (r_Fr_inboxEntry N f)) := h
    refine lv_aload_n E1 E2 d_St_keep_22 rfl (lv_at hl 0 rfl) ?_
    refine lv_dup E1 E2 d_St_keep_23 rfl ?_
    refine g_St_count F h (by omega) k_207 (v := N.2.1 9 t) rfl d_St_keep_24 ?_
    refine lv_iconst (v := 1) E1 E2 d_St_keep_27 (by decide) ?_
    refine lv_iadd E1 E2 d_St_keep_28 ?_
    have hwscount : N.2.1 9 t < 41 := wf_scount h.2.2.2 t
    refine bn_ti (y := nI ((N.2.1 9 t) + 1)) (nI_add (N.2.1 9 t) 1) ?_
    have hwscount : N.2.1 9 t < 41 := wf_scount h.2.2.2 t
    refine p_St_count F h (by omega) k_207 (v := (N.2.1 9 t) + 1) (by omega) d_St_keep_29 (fun H locs h => ?_)
    have h : bn_H (bn_y D ar ad nf) s.heap H locs (sU (sJ N (t + 20) (N.2.1 9 t) (r_Fr_inboxEntry N f)) 9 t ((N.2.1 9 t) + 1)) := h
    have hq : o_St_keep N t f = (sU (sJ N (t + 20) (N.2.1 9 t) (r_Fr_inboxEntry N f)) 9 t ((N.2.1 9 t) + 1)) := if_neg h1
    exact bn_retv F hr hk h hq.symm d_St_keep_32
def r_St_kept (N : bn_S) (t : Nat) (k : Int32) : Int64 := (if k < 0 then -1 else (if nI (N.2.1 9 t) ≤ k then -1 else N.2.2.1 (t + 20) (k.toNatClampNeg)))
set_option maxHeartbeats 4000000 in
set_option maxRecDepth 100000 in
theorem c_St_kept (l : Launch) (D : va_G) (ar : Nat → ClassId) (ad : Nat → Nat → Nat) (nf : Nat) (N : bn_S) (t : Nat) (ht : t < 8) (k : Int32) : bn_L l y_St_kept w_St_kept { frames := 0, cells := 0, slots := 0, locals := 0 } (bn_y D ar ad nf) N [.ref (ad 11 t), .int k] (r_St_kept N t k) N := by
  intro sz
  refine bn_start (cc := b_St_kept) (maxL := 2) (ret := (Option.some Jvm.ClassFile.FieldType.long)) (by decide) rfl (Nat.le_of_ble_eq_true rfl) ?_
  intro p e s m args below meth c ls hsz F hml hr hk hl h
  subst hsz
  have E1 := F.1
  have E2 := F.2.1
  have hl : lv_has ls 2 [(0, .ref (ad 11 t)), (1, .int k)] := hl
  refine lv_iload_n E1 E2 d_St_kept_0 rfl (lv_at hl 1 rfl) ?_
  refine lv_if_lt E1 E2 d_St_kept_1 rfl (fun h1 => ?_) (fun h1 => ?_)
  · have h1 : k < 0 := h1
    refine lv_ldc2 (own := "BridgeNet$Station") E1 E2 F.2.2.1 (F.2.2.2.1 _ k_438) d_St_kept_21 ?_
    have hq : r_St_kept N t k = -1 := if_pos h1
    exact bn_retl F hr hk h hq.symm rfl d_St_kept_24
  · have h1 : ¬ (k < 0) := h1
    refine lv_iload_n E1 E2 d_St_kept_4 rfl (lv_at hl 1 rfl) ?_
    refine lv_aload_n E1 E2 d_St_kept_5 rfl (lv_at hl 0 rfl) ?_
    refine g_St_count F h (by omega) k_207 (v := N.2.1 9 t) rfl d_St_kept_6 ?_
    refine lv_icmp_ge E1 E2 d_St_kept_9 rfl (fun h2 => ?_) (fun h2 => ?_)
    · have h2 : nI (N.2.1 9 t) ≤ k := h2
      refine lv_ldc2 (own := "BridgeNet$Station") E1 E2 F.2.2.1 (F.2.2.2.1 _ k_438) d_St_kept_21 ?_
      have hq : r_St_kept N t k = -1 := Eq.trans (if_neg h1) (if_pos h2)
      exact bn_retl F hr hk h hq.symm rfl d_St_kept_24
    · have h2 : ¬ (nI (N.2.1 9 t) ≤ k) := h2
      refine lv_aload_n E1 E2 d_St_kept_12 rfl (lv_at hl 0 rfl) ?_
      refine g_St_inbox F h (by omega) k_206 d_St_kept_13 ?_
      refine lv_iload_n E1 E2 d_St_kept_16 rfl (lv_at hl 1 rfl) ?_
      have hwscount : N.2.1 9 t < 41 := wf_scount h.2.2.2 t
      have hn_k := bn_natle (n := (N.2.1 9 t)) h1 h2 (by omega)
      have hn_k2 := hn_k.2
      refine bn_ti hn_k.1 ?_
      refine al_inbox F h (by omega) (i := k.toNatClampNeg) (v := N.2.2.1 (t + 20) (k.toNatClampNeg)) (by omega) rfl d_St_kept_17 ?_
      refine lv_goto E1 E2 d_St_kept_18 rfl ?_
      have hq : r_St_kept N t k = N.2.2.1 (t + 20) (k.toNatClampNeg) := Eq.trans (if_neg h1) (if_neg h2)
      exact bn_retl F hr hk h hq.symm rfl d_St_kept_24
def o_Po_letOut (N : bn_S) (x : Nat) (f : Nat) : Int32 × bn_S := (if N.1 10 x = 2 then (if r_Po_carries N x (nI (N.2.1 12 f)) = 0 then (0, N) else (bn_oc (N.2.2.2 2 x) (bn_oc (N.2.2.2 3 x) (1, N) (fun y6 => (if (N.2.1 8 y6) = (N.2.1 12 f) then (1, (o_St_keep N y6 f)) else (1, N)))) (fun y4 => (1, (o_Li_putFrame N y4 f))))) else (0, N))
set_option maxHeartbeats 4000000 in
set_option maxRecDepth 100000 in
theorem c_Po_letOut (l : Launch) (D : va_G) (ar : Nat → ClassId) (ad : Nat → Nat → Nat) (nf : Nat) (N : bn_S) (x : Nat) (hx : x < 20) (f : Nat) (hf : f < nf) : bn_I l y_Po_letOut w_Po_letOut { frames := 2, cells := 0, slots := 0, locals := 45 } (bn_y D ar ad nf) N [.ref (ad 6 x), .ref (ad 13 f)] (o_Po_letOut N x f).1 (o_Po_letOut N x f).2 := by
  intro sz
  refine bn_start (cc := b_Po_letOut) (maxL := 2) (ret := (Option.some Jvm.ClassFile.FieldType.boolean)) (by decide) rfl (Nat.le_of_ble_eq_true rfl) ?_
  intro p e s m args below meth c ls hsz F hml hr hk hl h
  subst hsz
  have E1 := F.1
  have E2 := F.2.1
  have hl : lv_has ls 2 [(0, .ref (ad 6 x)), (1, .ref (ad 13 f))] := hl
  refine lv_aload_n E1 E2 d_Po_letOut_0 rfl (lv_at hl 0 rfl) ?_
  refine g_Po_state F h (by omega) k_157 (v := N.1 10 x) rfl d_Po_letOut_1 ?_
  refine lv_iconst (v := 2) E1 E2 d_Po_letOut_4 (by decide) ?_
  refine lv_icmp_ne E1 E2 d_Po_letOut_5 rfl (fun h1 => ?_) (fun h1 => ?_)
  · have h1 : ¬ (N.1 10 x = 2) := h1
    refine lv_iconst (v := 0) E1 E2 d_Po_letOut_19 (by decide) ?_
    have hq : o_Po_letOut N x f = (0, N) := if_neg h1
    exact bn_retz2 F hr rfl hk h hq d_Po_letOut_20
  · have h1 : N.1 10 x = 2 := h1
    refine lv_aload_n E1 E2 d_Po_letOut_8 rfl (lv_at hl 0 rfl) ?_
    refine lv_aload_n E1 E2 d_Po_letOut_9 rfl (lv_at hl 1 rfl) ?_
    refine g_Fr_vlan F h (by omega) k_600 (v := N.2.1 12 f) rfl d_Po_letOut_10 ?_
    refine bn_calli F h (bn_runV (n := 1) (As := [.int (nI (N.2.1 12 f))]) (rest := []) F hml hl.1 h (mm_6 (by omega)) rfl rfl (c_Po_carries l D ar ad nf N x (by omega) (nI (N.2.1 12 f)) _) (bn_goodV k_633 k_617 k_618 k_3 k_619) rfl rfl (by decide) ⟨by decide, by decide⟩ rfl rfl (Nat.le_of_ble_eq_true rfl) d_Po_letOut_13 ⟨Nat.zero_le _, Nat.zero_le _⟩) (fun H locs h => ?_)
    refine lv_if_ne E1 E2 d_Po_letOut_16 rfl (fun h2 => ?_) (fun h2 => ?_)
    · have h2 : ¬ (r_Po_carries N x (nI (N.2.1 12 f)) = 0) := h2
      refine lv_aload_n E1 E2 d_Po_letOut_21 rfl (lv_at hl 0 rfl) ?_
      refine g_Po_peer F h (by omega) k_143 d_Po_letOut_22 (fun ho3 => ?_) (fun y4 ho3 hy4 => ?_)
      · skip
        refine lv_ifnullN E1 E2 d_Po_letOut_25 rfl ?_
        refine lv_aload_n E1 E2 d_Po_letOut_42 rfl (lv_at hl 0 rfl) ?_
        refine g_Po_station F h (by omega) k_146 d_Po_letOut_43 (fun ho5 => ?_) (fun y6 ho5 hy6 => ?_)
        · skip
          refine lv_ifnullN E1 E2 d_Po_letOut_46 rfl ?_
          refine lv_iconst (v := 1) E1 E2 d_Po_letOut_71 (by decide) ?_
          have hq : o_Po_letOut N x f = (1, N) := Eq.trans (if_pos h1) (Eq.trans (if_neg h2) (Eq.trans (bn_oc_n ho3) (bn_oc_n ho5)))
          exact bn_retz2 F hr rfl hk h hq d_Po_letOut_72
        · skip
          refine lv_ifnull E1 E2 d_Po_letOut_46 ?_
          refine lv_aload_n E1 E2 d_Po_letOut_49 rfl (lv_at hl 0 rfl) ?_
          refine g_Po_station_s F h (by omega) k_146 ho5 d_Po_letOut_50 ?_
          refine g_St_vlan F h (by omega) k_205 (v := N.2.1 8 y6) rfl d_Po_letOut_53 ?_
          refine lv_aload_n E1 E2 d_Po_letOut_56 rfl (lv_at hl 1 rfl) ?_
          refine g_Fr_vlan F h (by omega) k_600 (v := N.2.1 12 f) rfl d_Po_letOut_57 ?_
          have hwsvlan : N.2.1 8 y6 < 3 := wf_svlan h.2.2.2 y6
          have hwsvlan0 : 1 ≤ N.2.1 8 y6 := wf_svlan_lo h.2.2.2 y6
          have hwfvlan : N.2.1 12 f < 3 := wf_fvlan h.2.2.2 f
          have hwfvlan0 : 1 ≤ N.2.1 12 f := wf_fvlan_lo h.2.2.2 f
          refine lv_icmp_ne E1 E2 d_Po_letOut_60 rfl (fun h7 => ?_) (fun h7 => ?_)
          · have h7 : ¬ ((N.2.1 8 y6) = (N.2.1 12 f)) := (fun hw => h7 ((nI_eq (a := N.2.1 8 y6) (b := N.2.1 12 f) (by omega) (by omega)).mpr hw))
            refine lv_iconst (v := 1) E1 E2 d_Po_letOut_71 (by decide) ?_
            have hq : o_Po_letOut N x f = (1, N) := Eq.trans (if_pos h1) (Eq.trans (if_neg h2) (Eq.trans (bn_oc_n ho3) (Eq.trans (bn_oc_s ho5) (if_neg h7))))
            exact bn_retz2 F hr rfl hk h hq d_Po_letOut_72
          · have h7 : (N.2.1 8 y6) = (N.2.1 12 f) := ((nI_eq (a := N.2.1 8 y6) (b := N.2.1 12 f) (by omega) (by omega)).mp h7)
            refine lv_aload_n E1 E2 d_Po_letOut_63 rfl (lv_at hl 0 rfl) ?_
            refine g_Po_station_s F h (by omega) k_146 ho5 d_Po_letOut_64 ?_
            refine lv_aload_n E1 E2 d_Po_letOut_67 rfl (lv_at hl 1 rfl) ?_
            refine bn_callv F h (bn_runV (n := 1) (As := [.ref (ad 13 f)]) (rest := []) F hml hl.1 h (mm_11 (by omega)) rfl rfl (c_St_keep l D ar ad nf N y6 (by omega) f (by omega) _) (bn_goodV k_638 k_639 k_640 k_6 k_641) rfl rfl (by decide) ⟨by decide, by decide⟩ rfl rfl (Nat.le_of_ble_eq_true rfl) d_Po_letOut_68 ⟨Nat.zero_le _, Nat.zero_le _⟩) (fun H locs h => ?_)
            have h : bn_H (bn_y D ar ad nf) s.heap H locs (o_St_keep N y6 f) := h
            refine lv_iconst (v := 1) E1 E2 d_Po_letOut_71 (by decide) ?_
            have hq : o_Po_letOut N x f = (1, (o_St_keep N y6 f)) := Eq.trans (if_pos h1) (Eq.trans (if_neg h2) (Eq.trans (bn_oc_n ho3) (Eq.trans (bn_oc_s ho5) (if_pos h7))))
            exact bn_retz2 F hr rfl hk h hq d_Po_letOut_72
      · skip
        refine lv_ifnull E1 E2 d_Po_letOut_25 ?_
        refine lv_aload_n E1 E2 d_Po_letOut_28 rfl (lv_at hl 0 rfl) ?_
        refine g_Po_peer_s F h (by omega) k_143 ho3 d_Po_letOut_29 ?_
        refine g_Po_line F h (by omega) k_135 d_Po_letOut_32 ?_
        refine lv_aload_n E1 E2 d_Po_letOut_35 rfl (lv_at hl 1 rfl) ?_
        refine bn_callv F h (bn_runV (n := 1) (As := [.ref (ad 13 f)]) (rest := []) F hml hl.1 h (mm_7 (by omega)) rfl rfl (c_Li_putFrame l D ar ad nf N y4 (by omega) f (by omega) _) (bn_goodV k_634 k_635 k_636 k_4 k_637) rfl rfl (by decide) ⟨by decide, by decide⟩ rfl rfl (Nat.le_of_ble_eq_true rfl) d_Po_letOut_36 ⟨Nat.zero_le _, Nat.zero_le _⟩) (fun H locs h => ?_)
        have h : bn_H (bn_y D ar ad nf) s.heap H locs (o_Li_putFrame N y4 f) := h
        refine lv_goto E1 E2 d_Po_letOut_39 rfl ?_
        refine lv_iconst (v := 1) E1 E2 d_Po_letOut_71 (by decide) ?_
        have hq : o_Po_letOut N x f = (1, (o_Li_putFrame N y4 f)) := Eq.trans (if_pos h1) (Eq.trans (if_neg h2) (bn_oc_s ho3))
        exact bn_retz2 F hr rfl hk h hq d_Po_letOut_72
    · have h2 : r_Po_carries N x (nI (N.2.1 12 f)) = 0 := h2
      refine lv_iconst (v := 0) E1 E2 d_Po_letOut_19 (by decide) ?_
      have hq : o_Po_letOut N x f = (0, N) := Eq.trans (if_pos h1) (if_pos h2)
      exact bn_retz2 F hr rfl hk h hq d_Po_letOut_20
