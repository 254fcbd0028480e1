/-! contracts of the class, written by wip/whole/gen_class.py -/
def o_Br_tellOn (N : bn_S) (b : Nat) (x : Nat) : bn_S := (bn_oc (N.2.2.2 2 x) N (fun y2 => (o_Li_putTell N y2 (r_Br_ownVector N b x) (N.1 4 b) (N.2.1 3 x))))
set_option maxHeartbeats 4000000 in
set_option maxRecDepth 100000 in
theorem c_Br_tellOn (l : Launch) (D : va_G) (ar : Nat → ClassId) (ad : Nat → Nat → Nat) (nf : Nat) (N : bn_S) (b : Nat) (hb : b < 5) (x : Nat) (hx : x < 20) : bn_V l y_Br_tellOn w_Br_tellOn { frames := 2, cells := 0, slots := 0, locals := 49 } (bn_y D ar ad nf) N [.ref (ad 2 b), .ref (ad 6 x)] (o_Br_tellOn N b x) := by
  intro sz
  refine bn_start (cc := b_Br_tellOn) (maxL := 2) (ret := (Option.none : Option Jvm.ClassFile.FieldType)) (by decide) rfl (Nat.le_of_ble_eq_true rfl) ?_
  intro p e s m args below meth c ls hsz F hml hr hk hl h
  subst hsz
  have E1 := F.1
  have E2 := F.2.1
  have hl : lv_has ls 2 [(0, .ref (ad 2 b)), (1, .ref (ad 6 x))] := hl
  refine lv_aload_n E1 E2 d_Br_tellOn_0 rfl (lv_at hl 1 rfl) ?_
  refine g_Po_peer F h (by omega) k_145 d_Br_tellOn_1 (fun ho1 => ?_) (fun y2 ho1 hy2 => ?_)
  · skip
    refine lv_ifnullN E1 E2 d_Br_tellOn_4 rfl ?_
    have hq : o_Br_tellOn N b x = N := bn_oc_n ho1
    exact bn_retv F hr hk h hq.symm d_Br_tellOn_30
  · skip
    refine lv_ifnull E1 E2 d_Br_tellOn_4 ?_
    refine lv_aload_n E1 E2 d_Br_tellOn_7 rfl (lv_at hl 1 rfl) ?_
    refine g_Po_peer_s F h (by omega) k_145 ho1 d_Br_tellOn_8 ?_
    refine g_Po_line F h (by omega) k_137 d_Br_tellOn_11 ?_
    refine lv_aload_n E1 E2 d_Br_tellOn_14 rfl (lv_at hl 0 rfl) ?_
    refine lv_aload_n E1 E2 d_Br_tellOn_15 rfl (lv_at hl 1 rfl) ?_
    refine bn_calll F h (bn_runV (n := 1) (As := [.ref (ad 6 x)]) (rest := [.ref (ad 7 y2)]) F hml hl.1 h (mm_2 (by omega)) rfl rfl (c_Br_ownVector l D ar ad nf N b (by omega) x (by omega) _) (bn_goodV k_284 k_286 ks_Br_ownVector k_2 k_287) rfl rfl (by decide) ⟨by decide, by decide⟩ rfl rfl (Nat.le_of_ble_eq_true rfl) d_Br_tellOn_16 ⟨Nat.zero_le _, Nat.zero_le _⟩) (fun H locs h => ?_)
    refine lv_aload_n E1 E2 d_Br_tellOn_19 rfl (lv_at hl 0 rfl) ?_
    refine g_Br_hops F h (by omega) k_42 (v := N.1 4 b) rfl d_Br_tellOn_20 ?_
    refine lv_aload_n E1 E2 d_Br_tellOn_23 rfl (lv_at hl 1 rfl) ?_
    refine g_Po_proposing F h (by omega) k_160 (v := N.2.1 3 x) rfl d_Br_tellOn_24 ?_
    have hwprop : N.2.1 3 x < 2 := wf_prop h.2.2.2 x
    refine bn_callv F h (bn_runV (n := 3) (As := [.long (r_Br_ownVector N b x), .int (N.1 4 b), .int (nI (N.2.1 3 x))]) (rest := []) F hml hl.1 h (mm_7 (by omega)) rfl rfl (c_Li_putTell l D ar ad nf N y2 (by omega) (r_Br_ownVector N b x) (N.1 4 b) (N.2.1 3 x) (by omega) _) (bn_goodV k_308 k_309 k_310 k_4 k_311) rfl rfl (by decide) ⟨by decide, by decide⟩ rfl rfl (Nat.le_of_ble_eq_true rfl) d_Br_tellOn_27 ⟨Nat.zero_le _, Nat.zero_le _⟩) (fun H locs h => ?_)
    have h : bn_H (bn_y D ar ad nf) s.heap H locs (o_Li_putTell N y2 (r_Br_ownVector N b x) (N.1 4 b) (N.2.1 3 x)) := h
    have hq : o_Br_tellOn N b x = (o_Li_putTell N y2 (r_Br_ownVector N b x) (N.1 4 b) (N.2.1 3 x)) := bn_oc_s ho1
    exact bn_retv F hr hk h hq.symm d_Br_tellOn_30
def bd_Br_tellOnAll (b : Nat) (k : Nat) (q : bn_S) : bn_S := (if r_Po_isLinkedDesignated q (4 * b + k) = 0 then q else (o_Br_tellOn q b (4 * b + k)))
def it_Br_tellOnAll (b : Nat) (q0 : bn_S) : Nat → bn_S
  | 0 => q0
  | k + 1 => bd_Br_tellOnAll b k (it_Br_tellOnAll b q0 k)
theorem it_Br_tellOnAll_s (b : Nat) (q0 : bn_S) (k : Nat) : bd_Br_tellOnAll b k (it_Br_tellOnAll b q0 k) = it_Br_tellOnAll b q0 (k + 1) := rfl
def o_Br_tellOnAll (N : bn_S) (b : Nat) : bn_S := (it_Br_tellOnAll b N 4)
set_option maxHeartbeats 4000000 in
set_option maxRecDepth 100000 in
theorem c_Br_tellOnAll (l : Launch) (D : va_G) (ar : Nat → ClassId) (ad : Nat → Nat → Nat) (nf : Nat) (N : bn_S) (b : Nat) (hb : b < 5) : bn_V l y_Br_tellOnAll w_Br_tellOnAll { frames := 3, cells := 0, slots := 0, locals := 70 } (bn_y D ar ad nf) N [.ref (ad 2 b)] (o_Br_tellOnAll N b) := by
  intro sz
  refine bn_start (cc := b_Br_tellOnAll) (maxL := 5) (ret := (Option.none : Option Jvm.ClassFile.FieldType)) (by decide) rfl (Nat.le_of_ble_eq_true rfl) ?_
  intro p e s m args below meth c ls hsz F hml hr hk hl h
  subst hsz
  have E1 := F.1
  have E2 := F.2.1
  have hl : lv_has ls 5 [(0, .ref (ad 2 b))] := hl
  refine lv_aload_n E1 E2 d_Br_tellOnAll_0 rfl (lv_at hl 0 rfl) ?_
  refine g_Br_ports F h (by omega) k_38 d_Br_tellOnAll_1 ?_
  refine lv_astore_n E1 E2 d_Br_tellOnAll_4 rfl hl (by decide) rfl (fun ls hl => ?_)
  have hl : lv_has ls 5 [(1, .ref (ad 3 b)), (0, .ref (ad 2 b))] := hl
  refine lv_aload_n E1 E2 d_Br_tellOnAll_5 rfl (lv_at hl 0 rfl) ?_
  refine an_ports F h (by omega) d_Br_tellOnAll_6 ?_
  refine lv_istore_n E1 E2 d_Br_tellOnAll_7 rfl hl (by decide) rfl (fun ls hl => ?_)
  have hl : lv_has ls 5 [(2, .int (nI 4)), (1, .ref (ad 3 b)), (0, .ref (ad 2 b))] := hl
  refine lv_iconst (v := 0) E1 E2 d_Br_tellOnAll_8 (by decide) ?_
  refine lv_istore_n E1 E2 d_Br_tellOnAll_9 rfl hl (by decide) rfl (fun ls hl => ?_)
  have hl : lv_has ls 5 [(3, .int 0), (2, .int (nI 4)), (1, .ref (ad 3 b)), (0, .ref (ad 2 b))] := hl
  have hs10 : ∀ (Q0 : State → Prop) (k : Nat), k < 4 → ∀ (q : bn_S) (H : Heap) (locs : List Loc) (ls : Array Slot), lv_has ls 5 [(0, .ref (ad 2 b)), (1, .ref (ad 3 b)), (2, .int (nI 4)), (3, .int (nI k))] → bn_H (bn_y D ar ad nf) s.heap H locs q → (∀ (H : Heap) (locs : List Loc) (ls : Array Slot), lv_has ls 5 [(0, .ref (ad 2 b)), (1, .ref (ad 3 b)), (2, .int (nI 4)), (3, .int (nI (k + 1)))] → bn_H (bn_y D ar ad nf) s.heap H locs (bd_Br_tellOnAll b k q) → W p l e { frames := 3, cells := 0, slots := 0, locals := 70 } s m args below meth c H locs 0 0 Q0 (F0 m 10 ls [])) → W p l e { frames := 3, cells := 0, slots := 0, locals := 70 } s m args below meth c H locs 0 0 Q0 (F0 m 10 ls []) := by
    intro Q0 k hkk q H locs ls hl h kk
    refine lv_iload_n E1 E2 d_Br_tellOnAll_10 rfl (lv_at hl 3 rfl) ?_
    refine lv_iload_n E1 E2 d_Br_tellOnAll_11 rfl (lv_at hl 2 rfl) ?_
    refine lv_icmp_ge E1 E2 d_Br_tellOnAll_12 rfl (fun hz => absurd ((nI_leI (a := 4) (b := k) (by omega) (by omega)).mp hz) (by omega)) (fun _ => ?_)
    refine lv_aload_n E1 E2 d_Br_tellOnAll_15 rfl (lv_at hl 1 rfl) ?_
    refine lv_iload_n E1 E2 d_Br_tellOnAll_16 rfl (lv_at hl 3 rfl) ?_
    refine al_ports F h (by omega) (i := k) (by omega) d_Br_tellOnAll_17 ?_
    refine lv_astore E1 E2 d_Br_tellOnAll_18 hl (by decide) rfl (fun ls hl => ?_)
    have hl : lv_has ls 5 [(4, .ref (ad 6 (4 * b + k))), (0, .ref (ad 2 b)), (1, .ref (ad 3 b)), (2, .int (nI 4)), (3, .int (nI k))] := hl
    refine lv_aload E1 E2 d_Br_tellOnAll_20 (lv_at hl 0 rfl) ?_
    refine bn_calli F h (bn_runV (n := 0) (As := []) (rest := []) F hml hl.1 h (mm_6 (by omega)) rfl rfl (c_Po_isLinkedDesignated l D ar ad nf q (4 * b + k) (by omega) _) (bn_goodV k_300 k_301 k_302 k_3 k_303) rfl rfl (by decide) ⟨by decide, by decide⟩ rfl rfl (Nat.le_of_ble_eq_true rfl) d_Br_tellOnAll_22 ⟨Nat.zero_le _, Nat.zero_le _⟩) (fun H locs h => ?_)
    refine lv_if_eq E1 E2 d_Br_tellOnAll_25 rfl (fun h1 => ?_) (fun h1 => ?_)
    · have h1 : r_Po_isLinkedDesignated q (4 * b + k) = 0 := h1
      refine lv_iinc (v := (nI (k + 1))) E1 E2 d_Br_tellOnAll_34 hl (k := 4) rfl (nI_1 _) (by decide) rfl (fun ls hl => ?_)
      have hl : lv_has ls 5 [(3, .int (nI (k + 1))), (4, .ref (ad 6 (4 * b + k))), (0, .ref (ad 2 b)), (1, .ref (ad 3 b)), (2, .int (nI 4))] := hl
      refine lv_goto E1 E2 d_Br_tellOnAll_37 rfl ?_
      have hq : (bd_Br_tellOnAll b k q) = q := if_pos h1
      rw [hq] at kk
      exact kk _ _ ls (lv_sub hl [2, 3, 4, 0] rfl) h
    · have h1 : ¬ (r_Po_isLinkedDesignated q (4 * b + k) = 0) := h1
      refine lv_aload_n E1 E2 d_Br_tellOnAll_28 rfl (lv_at hl 1 rfl) ?_
      refine lv_aload E1 E2 d_Br_tellOnAll_29 (lv_at hl 0 rfl) ?_
      refine bn_callv F h (bn_runV (n := 1) (As := [.ref (ad 6 (4 * b + k))]) (rest := []) F hml hl.1 h (mm_2 (by omega)) rfl rfl (c_Br_tellOn l D ar ad nf q b (by omega) (4 * b + k) (by omega) _) (bn_goodV k_304 k_306 ks_Br_tellOn k_2 k_307) rfl rfl (by decide) ⟨by decide, by decide⟩ rfl rfl (Nat.le_of_ble_eq_true rfl) d_Br_tellOnAll_31 ⟨Nat.zero_le _, Nat.zero_le _⟩) (fun H locs h => ?_)
      have h : bn_H (bn_y D ar ad nf) s.heap H locs (o_Br_tellOn q b (4 * b + k)) := h
      refine lv_iinc (v := (nI (k + 1))) E1 E2 d_Br_tellOnAll_34 hl (k := 4) rfl (nI_1 _) (by decide) rfl (fun ls hl => ?_)
      have hl : lv_has ls 5 [(3, .int (nI (k + 1))), (4, .ref (ad 6 (4 * b + k))), (0, .ref (ad 2 b)), (1, .ref (ad 3 b)), (2, .int (nI 4))] := hl
      refine lv_goto E1 E2 d_Br_tellOnAll_37 rfl ?_
      have hq : (bd_Br_tellOnAll b k q) = (o_Br_tellOn q b (4 * b + k)) := if_neg h1
      rw [hq] at kk
      exact kk _ _ ls (lv_sub hl [2, 3, 4, 0] rfl) h
  refine hs10 _ 0 (by decide) (it_Br_tellOnAll b N 0) _ _ ls (lv_sub hl [3, 2, 1, 0] rfl) h (fun H locs ls hl h => ?_)
  rw [it_Br_tellOnAll_s] at h
  refine hs10 _ 1 (by decide) (it_Br_tellOnAll b N 1) _ _ ls hl h (fun H locs ls hl h => ?_)
  rw [it_Br_tellOnAll_s] at h
  refine hs10 _ 2 (by decide) (it_Br_tellOnAll b N 2) _ _ ls hl h (fun H locs ls hl h => ?_)
  rw [it_Br_tellOnAll_s] at h
  refine hs10 _ 3 (by decide) (it_Br_tellOnAll b N 3) _ _ ls hl h (fun H locs ls hl h => ?_)
  rw [it_Br_tellOnAll_s] at h
  have hl : lv_has ls 5 [(0, .ref (ad 2 b)), (1, .ref (ad 3 b)), (2, .int (nI 4)), (3, .int (nI 4))] := hl
  have h : bn_H (bn_y D ar ad nf) s.heap H locs (it_Br_tellOnAll b N 4) := h
  refine lv_iload_n E1 E2 d_Br_tellOnAll_10 rfl (lv_at hl 3 rfl) ?_
  refine lv_iload_n E1 E2 d_Br_tellOnAll_11 rfl (lv_at hl 2 rfl) ?_
  refine lv_icmp_ge E1 E2 d_Br_tellOnAll_12 rfl (fun _ => ?_) (fun hz => absurd ((nI_leI (a := 4) (b := 4) (by omega) (by omega)).mpr (by omega)) hz)
  have hq : o_Br_tellOnAll N b = (it_Br_tellOnAll b N 4) := rfl
  exact bn_retv F hr hk h hq.symm d_Br_tellOnAll_40
def o_Br_compute (N : bn_S) (b : Nat) : bn_S := (if (o_Br_giveRoles (o_Br_chooseRoot N b) b).1 = 0 then (if ((o_Br_giveRoles (o_Br_chooseRoot N b) b).2).1 2 b = N.1 2 b then (if ((o_Br_giveRoles (o_Br_chooseRoot N b) b).2).1 3 b = N.1 3 b then (if ((o_Br_giveRoles (o_Br_chooseRoot N b) b).2).1 4 b = N.1 4 b then (o_Br_giveRoles (o_Br_chooseRoot N b) b).2 else (o_Br_tellOnAll ((o_Br_giveRoles (o_Br_chooseRoot N b) b).2) b)) else (o_Br_tellOnAll ((o_Br_giveRoles (o_Br_chooseRoot N b) b).2) b)) else (o_Br_tellOnAll ((o_Br_giveRoles (o_Br_chooseRoot N b) b).2) b)) else (o_Br_tellOnAll ((o_Br_giveRoles (o_Br_chooseRoot N b) b).2) b))
set_option maxHeartbeats 4000000 in
set_option maxRecDepth 100000 in
theorem c_Br_compute (l : Launch) (D : va_G) (ar : Nat → ClassId) (ad : Nat → Nat → Nat) (nf : Nat) (N : bn_S) (b : Nat) (hb : b < 5) : bn_V l y_Br_compute w_Br_compute { frames := 4, cells := 0, slots := 0, locals := 94 } (bn_y D ar ad nf) N [.ref (ad 2 b)] (o_Br_compute N b) := by
  intro sz
  refine bn_start (cc := b_Br_compute) (maxL := 5) (ret := (Option.none : Option Jvm.ClassFile.FieldType)) (by decide) rfl (Nat.le_of_ble_eq_true rfl) ?_
  intro p e s m args below meth c ls hsz F hml hr hk hl h
  subst hsz
  have E1 := F.1
  have E2 := F.2.1
  have hl : lv_has ls 5 [(0, .ref (ad 2 b))] := hl
  refine lv_aload_n E1 E2 d_Br_compute_0 rfl (lv_at hl 0 rfl) ?_
  refine g_Br_root F h (by omega) k_40 (v := N.1 2 b) rfl d_Br_compute_1 ?_
  refine lv_istore_n E1 E2 d_Br_compute_4 rfl hl (by decide) rfl (fun ls hl => ?_)
  have hl : lv_has ls 5 [(1, .int (N.1 2 b)), (0, .ref (ad 2 b))] := hl
  refine lv_aload_n E1 E2 d_Br_compute_5 rfl (lv_at hl 1 rfl) ?_
  refine g_Br_cost F h (by omega) k_41 (v := N.1 3 b) rfl d_Br_compute_6 ?_
  refine lv_istore_n E1 E2 d_Br_compute_9 rfl hl (by decide) rfl (fun ls hl => ?_)
  have hl : lv_has ls 5 [(2, .int (N.1 3 b)), (1, .int (N.1 2 b)), (0, .ref (ad 2 b))] := hl
  refine lv_aload_n E1 E2 d_Br_compute_10 rfl (lv_at hl 2 rfl) ?_
  refine g_Br_hops F h (by omega) k_42 (v := N.1 4 b) rfl d_Br_compute_11 ?_
  refine lv_istore_n E1 E2 d_Br_compute_14 rfl hl (by decide) rfl (fun ls hl => ?_)
  have hl : lv_has ls 5 [(3, .int (N.1 4 b)), (2, .int (N.1 3 b)), (1, .int (N.1 2 b)), (0, .ref (ad 2 b))] := hl
  refine lv_aload_n E1 E2 d_Br_compute_15 rfl (lv_at hl 3 rfl) ?_
  refine bn_callv F h (bn_runV (n := 0) (As := []) (rest := []) F hml hl.1 h (mm_2 (by omega)) rfl rfl (c_Br_chooseRoot l D ar ad nf N b (by omega) _) (bn_goodV k_252 k_254 ks_Br_chooseRoot k_2 k_255) rfl rfl (by decide) ⟨by decide, by decide⟩ rfl rfl (Nat.le_of_ble_eq_true rfl) d_Br_compute_16 ⟨Nat.zero_le _, Nat.zero_le _⟩) (fun H locs h => ?_)
  have h : bn_H (bn_y D ar ad nf) s.heap H locs (o_Br_chooseRoot N b) := h
  refine lv_aload_n E1 E2 d_Br_compute_19 rfl (lv_at hl 3 rfl) ?_
  refine bn_calli F h (bn_runV (n := 0) (As := []) (rest := []) F hml hl.1 h (mm_2 (by omega)) rfl rfl (c_Br_giveRoles l D ar ad nf (o_Br_chooseRoot N b) b (by omega) _) (bn_goodV k_276 k_278 ks_Br_giveRoles k_2 k_279) rfl rfl (by decide) ⟨by decide, by decide⟩ rfl rfl (Nat.le_of_ble_eq_true rfl) d_Br_compute_20 ⟨Nat.zero_le _, Nat.zero_le _⟩) (fun H locs h => ?_)
  have h : bn_H (bn_y D ar ad nf) s.heap H locs (o_Br_giveRoles (o_Br_chooseRoot N b) b).2 := h
  refine lv_istore E1 E2 d_Br_compute_23 hl (by decide) rfl (fun ls hl => ?_)
  have hl : lv_has ls 5 [(4, .int ((o_Br_giveRoles (o_Br_chooseRoot N b) b).1)), (3, .int (N.1 4 b)), (2, .int (N.1 3 b)), (1, .int (N.1 2 b)), (0, .ref (ad 2 b))] := hl
  refine lv_iload E1 E2 d_Br_compute_25 (lv_at hl 0 rfl) ?_
  refine lv_if_ne E1 E2 d_Br_compute_27 rfl (fun h1 => ?_) (fun h1 => ?_)
  · have h1 : ¬ ((o_Br_giveRoles (o_Br_chooseRoot N b) b).1 = 0) := h1
    refine lv_aload_n E1 E2 d_Br_compute_54 rfl (lv_at hl 4 rfl) ?_
    refine bn_callv F h (bn_runV (n := 0) (As := []) (rest := []) F hml hl.1 h (mm_2 (by omega)) rfl rfl (c_Br_tellOnAll l D ar ad nf ((o_Br_giveRoles (o_Br_chooseRoot N b) b).2) b (by omega) _) (bn_goodV k_296 k_297 k_298 k_2 k_299) rfl rfl (by decide) ⟨by decide, by decide⟩ rfl rfl (Nat.le_of_ble_eq_true rfl) d_Br_compute_55 ⟨Nat.zero_le _, Nat.zero_le _⟩) (fun H locs h => ?_)
    have h : bn_H (bn_y D ar ad nf) s.heap H locs (o_Br_tellOnAll ((o_Br_giveRoles (o_Br_chooseRoot N b) b).2) b) := h
    have hq : o_Br_compute N b = (o_Br_tellOnAll ((o_Br_giveRoles (o_Br_chooseRoot N b) b).2) b) := if_neg h1
    exact bn_retv F hr hk h hq.symm d_Br_compute_58
  · have h1 : (o_Br_giveRoles (o_Br_chooseRoot N b) b).1 = 0 := h1
    refine lv_aload_n E1 E2 d_Br_compute_30 rfl (lv_at hl 4 rfl) ?_
    refine g_Br_root F h (by omega) k_40 (v := ((o_Br_giveRoles (o_Br_chooseRoot N b) b).2).1 2 b) rfl d_Br_compute_31 ?_
    refine lv_iload_n E1 E2 d_Br_compute_34 rfl (lv_at hl 3 rfl) ?_
    refine lv_icmp_ne E1 E2 d_Br_compute_35 rfl (fun h2 => ?_) (fun h2 => ?_)
    · have h2 : ¬ (((o_Br_giveRoles (o_Br_chooseRoot N b) b).2).1 2 b = N.1 2 b) := h2
      refine lv_aload_n E1 E2 d_Br_compute_54 rfl (lv_at hl 4 rfl) ?_
      refine bn_callv F h (bn_runV (n := 0) (As := []) (rest := []) F hml hl.1 h (mm_2 (by omega)) rfl rfl (c_Br_tellOnAll l D ar ad nf ((o_Br_giveRoles (o_Br_chooseRoot N b) b).2) b (by omega) _) (bn_goodV k_296 k_297 k_298 k_2 k_299) rfl rfl (by decide) ⟨by decide, by decide⟩ rfl rfl (Nat.le_of_ble_eq_true rfl) d_Br_compute_55 ⟨Nat.zero_le _, Nat.zero_le _⟩) (fun H locs h => ?_)
      have h : bn_H (bn_y D ar ad nf) s.heap H locs (o_Br_tellOnAll ((o_Br_giveRoles (o_Br_chooseRoot N b) b).2) b) := h
      have hq : o_Br_compute N b = (o_Br_tellOnAll ((o_Br_giveRoles (o_Br_chooseRoot N b) b).2) b) := Eq.trans (if_pos h1) (if_neg h2)
      exact bn_retv F hr hk h hq.symm d_Br_compute_58
    · have h2 : ((o_Br_giveRoles (o_Br_chooseRoot N b) b).2).1 2 b = N.1 2 b := h2
      refine lv_aload_n E1 E2 d_Br_compute_38 rfl (lv_at hl 4 rfl) ?_
      refine g_Br_cost F h (by omega) k_41 (v := ((o_Br_giveRoles (o_Br_chooseRoot N b) b).2).1 3 b) rfl d_Br_compute_39 ?_
      refine lv_iload_n E1 E2 d_Br_compute_42 rfl (lv_at hl 2 rfl) ?_
      refine lv_icmp_ne E1 E2 d_Br_compute_43 rfl (fun h3 => ?_) (fun h3 => ?_)
      · have h3 : ¬ (((o_Br_giveRoles (o_Br_chooseRoot N b) b).2).1 3 b = N.1 3 b) := h3
        refine lv_aload_n E1 E2 d_Br_compute_54 rfl (lv_at hl 4 rfl) ?_
        refine bn_callv F h (bn_runV (n := 0) (As := []) (rest := []) F hml hl.1 h (mm_2 (by omega)) rfl rfl (c_Br_tellOnAll l D ar ad nf ((o_Br_giveRoles (o_Br_chooseRoot N b) b).2) b (by omega) _) (bn_goodV k_296 k_297 k_298 k_2 k_299) rfl rfl (by decide) ⟨by decide, by decide⟩ rfl rfl (Nat.le_of_ble_eq_true rfl) d_Br_compute_55 ⟨Nat.zero_le _, Nat.zero_le _⟩) (fun H locs h => ?_)
        have h : bn_H (bn_y D ar ad nf) s.heap H locs (o_Br_tellOnAll ((o_Br_giveRoles (o_Br_chooseRoot N b) b).2) b) := h
        have hq : o_Br_compute N b = (o_Br_tellOnAll ((o_Br_giveRoles (o_Br_chooseRoot N b) b).2) b) := Eq.trans (if_pos h1) (Eq.trans (if_pos h2) (if_neg h3))
        exact bn_retv F hr hk h hq.symm d_Br_compute_58
      · have h3 : ((o_Br_giveRoles (o_Br_chooseRoot N b) b).2).1 3 b = N.1 3 b := h3
        refine lv_aload_n E1 E2 d_Br_compute_46 rfl (lv_at hl 4 rfl) ?_
        refine g_Br_hops F h (by omega) k_42 (v := ((o_Br_giveRoles (o_Br_chooseRoot N b) b).2).1 4 b) rfl d_Br_compute_47 ?_
        refine lv_iload_n E1 E2 d_Br_compute_50 rfl (lv_at hl 1 rfl) ?_
        refine lv_icmp_eq E1 E2 d_Br_compute_51 rfl (fun h4 => ?_) (fun h4 => ?_)
        · have h4 : ((o_Br_giveRoles (o_Br_chooseRoot N b) b).2).1 4 b = N.1 4 b := h4
          have hq : o_Br_compute N b = (o_Br_giveRoles (o_Br_chooseRoot N b) b).2 := Eq.trans (if_pos h1) (Eq.trans (if_pos h2) (Eq.trans (if_pos h3) (if_pos h4)))
          exact bn_retv F hr hk h hq.symm d_Br_compute_58
        · have h4 : ¬ (((o_Br_giveRoles (o_Br_chooseRoot N b) b).2).1 4 b = N.1 4 b) := h4
          refine lv_aload_n E1 E2 d_Br_compute_54 rfl (lv_at hl 4 rfl) ?_
          refine bn_callv F h (bn_runV (n := 0) (As := []) (rest := []) F hml hl.1 h (mm_2 (by omega)) rfl rfl (c_Br_tellOnAll l D ar ad nf ((o_Br_giveRoles (o_Br_chooseRoot N b) b).2) b (by omega) _) (bn_goodV k_296 k_297 k_298 k_2 k_299) rfl rfl (by decide) ⟨by decide, by decide⟩ rfl rfl (Nat.le_of_ble_eq_true rfl) d_Br_compute_55 ⟨Nat.zero_le _, Nat.zero_le _⟩) (fun H locs h => ?_)
          have h : bn_H (bn_y D ar ad nf) s.heap H locs (o_Br_tellOnAll ((o_Br_giveRoles (o_Br_chooseRoot N b) b).2) b) := h
          have hq : o_Br_compute N b = (o_Br_tellOnAll ((o_Br_giveRoles (o_Br_chooseRoot N b) b).2) b) := Eq.trans (if_pos h1) (Eq.trans (if_pos h2) (Eq.trans (if_pos h3) (if_neg h4)))
          exact bn_retv F hr hk h hq.symm d_Br_compute_58
def bd_Br_proposeOnOthers (b : Nat) (x : Nat) (k : Nat) (q : bn_S) : bn_S := (if 4 * b + k = x then q else (if r_Po_isLinkedDesignated q (4 * b + k) = 0 then q else (if (o_Po_proposeUnlessAgreed q (4 * b + k)).1 = 0 then (o_Po_proposeUnlessAgreed q (4 * b + k)).2 else (o_Br_tellOn ((o_Po_proposeUnlessAgreed q (4 * b + k)).2) b (4 * b + k)))))
def it_Br_proposeOnOthers (b : Nat) (x : Nat) (q0 : bn_S) : Nat → bn_S
  | 0 => q0
  | k + 1 => bd_Br_proposeOnOthers b x k (it_Br_proposeOnOthers b x q0 k)
theorem it_Br_proposeOnOthers_s (b : Nat) (x : Nat) (q0 : bn_S) (k : Nat) : bd_Br_proposeOnOthers b x k (it_Br_proposeOnOthers b x q0 k) = it_Br_proposeOnOthers b x q0 (k + 1) := rfl
def o_Br_proposeOnOthers (N : bn_S) (b : Nat) (x : Nat) : bn_S := (it_Br_proposeOnOthers b x N 4)
set_option maxHeartbeats 4000000 in
set_option maxRecDepth 100000 in
theorem c_Br_proposeOnOthers (l : Launch) (D : va_G) (ar : Nat → ClassId) (ad : Nat → Nat → Nat) (nf : Nat) (N : bn_S) (b : Nat) (hb : b < 5) (x : Nat) (hx : x < 20) : bn_V l y_Br_proposeOnOthers w_Br_proposeOnOthers { frames := 3, cells := 0, slots := 0, locals := 70 } (bn_y D ar ad nf) N [.ref (ad 2 b), .ref (ad 6 x)] (o_Br_proposeOnOthers N b x) := by
  intro sz
  refine bn_start (cc := b_Br_proposeOnOthers) (maxL := 6) (ret := (Option.none : Option Jvm.ClassFile.FieldType)) (by decide) rfl (Nat.le_of_ble_eq_true rfl) ?_
  intro p e s m args below meth c ls hsz F hml hr hk hl h
  subst hsz
  have E1 := F.1
  have E2 := F.2.1
  have hl : lv_has ls 6 [(0, .ref (ad 2 b)), (1, .ref (ad 6 x))] := hl
  refine lv_aload_n E1 E2 d_Br_proposeOnOthers_0 rfl (lv_at hl 0 rfl) ?_
  refine g_Br_ports F h (by omega) k_38 d_Br_proposeOnOthers_1 ?_
  refine lv_astore_n E1 E2 d_Br_proposeOnOthers_4 rfl hl (by decide) rfl (fun ls hl => ?_)
  have hl : lv_has ls 6 [(2, .ref (ad 3 b)), (0, .ref (ad 2 b)), (1, .ref (ad 6 x))] := hl
  refine lv_aload_n E1 E2 d_Br_proposeOnOthers_5 rfl (lv_at hl 0 rfl) ?_
  refine an_ports F h (by omega) d_Br_proposeOnOthers_6 ?_
  refine lv_istore_n E1 E2 d_Br_proposeOnOthers_7 rfl hl (by decide) rfl (fun ls hl => ?_)
  have hl : lv_has ls 6 [(3, .int (nI 4)), (2, .ref (ad 3 b)), (0, .ref (ad 2 b)), (1, .ref (ad 6 x))] := hl
  refine lv_iconst (v := 0) E1 E2 d_Br_proposeOnOthers_8 (by decide) ?_
  refine lv_istore E1 E2 d_Br_proposeOnOthers_9 hl (by decide) rfl (fun ls hl => ?_)
  have hl : lv_has ls 6 [(4, .int 0), (3, .int (nI 4)), (2, .ref (ad 3 b)), (0, .ref (ad 2 b)), (1, .ref (ad 6 x))] := hl
  have hs11 : ∀ (Q0 : State → Prop) (k : Nat), k < 4 → ∀ (q : bn_S) (H : Heap) (locs : List Loc) (ls : Array Slot), lv_has ls 6 [(0, .ref (ad 2 b)), (1, .ref (ad 6 x)), (2, .ref (ad 3 b)), (3, .int (nI 4)), (4, .int (nI k))] → bn_H (bn_y D ar ad nf) s.heap H locs q → (∀ (H : Heap) (locs : List Loc) (ls : Array Slot), lv_has ls 6 [(0, .ref (ad 2 b)), (1, .ref (ad 6 x)), (2, .ref (ad 3 b)), (3, .int (nI 4)), (4, .int (nI (k + 1)))] → bn_H (bn_y D ar ad nf) s.heap H locs (bd_Br_proposeOnOthers b x k q) → W p l e { frames := 3, cells := 0, slots := 0, locals := 70 } s m args below meth c H locs 0 0 Q0 (F0 m 11 ls [])) → W p l e { frames := 3, cells := 0, slots := 0, locals := 70 } s m args below meth c H locs 0 0 Q0 (F0 m 11 ls []) := by
    intro Q0 k hkk q H locs ls hl h kk
    refine lv_iload E1 E2 d_Br_proposeOnOthers_11 (lv_at hl 4 rfl) ?_
    refine lv_iload_n E1 E2 d_Br_proposeOnOthers_13 rfl (lv_at hl 3 rfl) ?_
    refine lv_icmp_ge E1 E2 d_Br_proposeOnOthers_14 rfl (fun hz => absurd ((nI_leI (a := 4) (b := k) (by omega) (by omega)).mp hz) (by omega)) (fun _ => ?_)
    refine lv_aload_n E1 E2 d_Br_proposeOnOthers_17 rfl (lv_at hl 2 rfl) ?_
    refine lv_iload E1 E2 d_Br_proposeOnOthers_18 (lv_at hl 4 rfl) ?_
    refine al_ports F h (by omega) (i := k) (by omega) d_Br_proposeOnOthers_20 ?_
    refine lv_astore E1 E2 d_Br_proposeOnOthers_21 hl (by decide) rfl (fun ls hl => ?_)
    have hl : lv_has ls 6 [(5, .ref (ad 6 (4 * b + k))), (0, .ref (ad 2 b)), (1, .ref (ad 6 x)), (2, .ref (ad 3 b)), (3, .int (nI 4)), (4, .int (nI k))] := hl
    refine lv_aload E1 E2 d_Br_proposeOnOthers_23 (lv_at hl 0 rfl) ?_
    refine lv_aload_n E1 E2 d_Br_proposeOnOthers_25 rfl (lv_at hl 2 rfl) ?_
    refine lv_acmp_eq (rx := (some (ad 6 (4 * b + k)))) (ry := (some (ad 6 x))) E1 E2 d_Br_proposeOnOthers_26 rfl (fun h1 => ?_) (fun h1 => ?_)
    · have h1 : 4 * b + k = x := ((bn_inj h (mm_6 (by omega)) (mm_6 (by omega))).mp h1)
      refine lv_iinc (v := (nI (k + 1))) E1 E2 d_Br_proposeOnOthers_51 hl (k := 5) rfl (nI_1 _) (by decide) rfl (fun ls hl => ?_)
      have hl : lv_has ls 6 [(4, .int (nI (k + 1))), (5, .ref (ad 6 (4 * b + k))), (0, .ref (ad 2 b)), (1, .ref (ad 6 x)), (2, .ref (ad 3 b)), (3, .int (nI 4))] := hl
      refine lv_goto E1 E2 d_Br_proposeOnOthers_54 rfl ?_
      have hq : (bd_Br_proposeOnOthers b x k q) = q := if_pos h1
      rw [hq] at kk
      exact kk _ _ ls (lv_sub hl [2, 3, 4, 5, 0] rfl) h
    · have h1 : ¬ (4 * b + k = x) := (fun hw => h1 ((bn_inj h (mm_6 (by omega)) (mm_6 (by omega))).mpr hw))
      refine lv_aload E1 E2 d_Br_proposeOnOthers_29 (lv_at hl 0 rfl) ?_
      refine bn_calli F h (bn_runV (n := 0) (As := []) (rest := []) F hml hl.1 h (mm_6 (by omega)) rfl rfl (c_Po_isLinkedDesignated l D ar ad nf q (4 * b + k) (by omega) _) (bn_goodV k_300 k_301 k_302 k_3 k_303) rfl rfl (by decide) ⟨by decide, by decide⟩ rfl rfl (Nat.le_of_ble_eq_true rfl) d_Br_proposeOnOthers_31 ⟨Nat.zero_le _, Nat.zero_le _⟩) (fun H locs h => ?_)
      refine lv_if_eq E1 E2 d_Br_proposeOnOthers_34 rfl (fun h2 => ?_) (fun h2 => ?_)
      · have h2 : r_Po_isLinkedDesignated q (4 * b + k) = 0 := h2
        refine lv_iinc (v := (nI (k + 1))) E1 E2 d_Br_proposeOnOthers_51 hl (k := 5) rfl (nI_1 _) (by decide) rfl (fun ls hl => ?_)
        have hl : lv_has ls 6 [(4, .int (nI (k + 1))), (5, .ref (ad 6 (4 * b + k))), (0, .ref (ad 2 b)), (1, .ref (ad 6 x)), (2, .ref (ad 3 b)), (3, .int (nI 4))] := hl
        refine lv_goto E1 E2 d_Br_proposeOnOthers_54 rfl ?_
        have hq : (bd_Br_proposeOnOthers b x k q) = q := Eq.trans (if_neg h1) (if_pos h2)
        rw [hq] at kk
        exact kk _ _ ls (lv_sub hl [2, 3, 4, 5, 0] rfl) h
      · have h2 : ¬ (r_Po_isLinkedDesignated q (4 * b + k) = 0) := h2
        refine lv_aload E1 E2 d_Br_proposeOnOthers_37 (lv_at hl 0 rfl) ?_
        refine bn_calli F h (bn_runV (n := 0) (As := []) (rest := []) F hml hl.1 h (mm_6 (by omega)) rfl rfl (c_Po_proposeUnlessAgreed l D ar ad nf q (4 * b + k) (by omega) _) (bn_goodV k_675 k_676 k_677 k_3 k_678) rfl rfl (by decide) ⟨by decide, by decide⟩ rfl rfl (Nat.le_of_ble_eq_true rfl) d_Br_proposeOnOthers_39 ⟨Nat.zero_le _, Nat.zero_le _⟩) (fun H locs h => ?_)
        have h : bn_H (bn_y D ar ad nf) s.heap H locs (o_Po_proposeUnlessAgreed q (4 * b + k)).2 := h
        refine lv_if_eq E1 E2 d_Br_proposeOnOthers_42 rfl (fun h3 => ?_) (fun h3 => ?_)
        · have h3 : (o_Po_proposeUnlessAgreed q (4 * b + k)).1 = 0 := h3
          refine lv_iinc (v := (nI (k + 1))) E1 E2 d_Br_proposeOnOthers_51 hl (k := 5) rfl (nI_1 _) (by decide) rfl (fun ls hl => ?_)
          have hl : lv_has ls 6 [(4, .int (nI (k + 1))), (5, .ref (ad 6 (4 * b + k))), (0, .ref (ad 2 b)), (1, .ref (ad 6 x)), (2, .ref (ad 3 b)), (3, .int (nI 4))] := hl
          refine lv_goto E1 E2 d_Br_proposeOnOthers_54 rfl ?_
          have hq : (bd_Br_proposeOnOthers b x k q) = (o_Po_proposeUnlessAgreed q (4 * b + k)).2 := Eq.trans (if_neg h1) (Eq.trans (if_neg h2) (if_pos h3))
          rw [hq] at kk
          exact kk _ _ ls (lv_sub hl [2, 3, 4, 5, 0] rfl) h
        · have h3 : ¬ ((o_Po_proposeUnlessAgreed q (4 * b + k)).1 = 0) := h3
          refine lv_aload_n E1 E2 d_Br_proposeOnOthers_45 rfl (lv_at hl 1 rfl) ?_
          refine lv_aload E1 E2 d_Br_proposeOnOthers_46 (lv_at hl 0 rfl) ?_
          refine bn_callv F h (bn_runV (n := 1) (As := [.ref (ad 6 (4 * b + k))]) (rest := []) F hml hl.1 h (mm_2 (by omega)) rfl rfl (c_Br_tellOn l D ar ad nf ((o_Po_proposeUnlessAgreed q (4 * b + k)).2) b (by omega) (4 * b + k) (by omega) _) (bn_goodV k_304 k_306 ks_Br_tellOn k_2 k_307) rfl rfl (by decide) ⟨by decide, by decide⟩ rfl rfl (Nat.le_of_ble_eq_true rfl) d_Br_proposeOnOthers_48 ⟨Nat.zero_le _, Nat.zero_le _⟩) (fun H locs h => ?_)
          have h : bn_H (bn_y D ar ad nf) s.heap H locs (o_Br_tellOn ((o_Po_proposeUnlessAgreed q (4 * b + k)).2) b (4 * b + k)) := h
          refine lv_iinc (v := (nI (k + 1))) E1 E2 d_Br_proposeOnOthers_51 hl (k := 5) rfl (nI_1 _) (by decide) rfl (fun ls hl => ?_)
          have hl : lv_has ls 6 [(4, .int (nI (k + 1))), (5, .ref (ad 6 (4 * b + k))), (0, .ref (ad 2 b)), (1, .ref (ad 6 x)), (2, .ref (ad 3 b)), (3, .int (nI 4))] := hl
          refine lv_goto E1 E2 d_Br_proposeOnOthers_54 rfl ?_
          have hq : (bd_Br_proposeOnOthers b x k q) = (o_Br_tellOn ((o_Po_proposeUnlessAgreed q (4 * b + k)).2) b (4 * b + k)) := Eq.trans (if_neg h1) (Eq.trans (if_neg h2) (if_neg h3))
          rw [hq] at kk
          exact kk _ _ ls (lv_sub hl [2, 3, 4, 5, 0] rfl) h
  refine hs11 _ 0 (by decide) (it_Br_proposeOnOthers b x N 0) _ _ ls (lv_sub hl [3, 4, 2, 1, 0] rfl) h (fun H locs ls hl h => ?_)
  rw [it_Br_proposeOnOthers_s] at h
  refine hs11 _ 1 (by decide) (it_Br_proposeOnOthers b x N 1) _ _ ls hl h (fun H locs ls hl h => ?_)
  rw [it_Br_proposeOnOthers_s] at h
  refine hs11 _ 2 (by decide) (it_Br_proposeOnOthers b x N 2) _ _ ls hl h (fun H locs ls hl h => ?_)
  rw [it_Br_proposeOnOthers_s] at h
  refine hs11 _ 3 (by decide) (it_Br_proposeOnOthers b x N 3) _ _ ls hl h (fun H locs ls hl h => ?_)
  rw [it_Br_proposeOnOthers_s] at h
  have hl : lv_has ls 6 [(0, .ref (ad 2 b)), (1, .ref (ad 6 x)), (2, .ref (ad 3 b)), (3, .int (nI 4)), (4, .int (nI 4))] := hl
  have h : bn_H (bn_y D ar ad nf) s.heap H locs (it_Br_proposeOnOthers b x N 4) := h
  refine lv_iload E1 E2 d_Br_proposeOnOthers_11 (lv_at hl 4 rfl) ?_
  refine lv_iload_n E1 E2 d_Br_proposeOnOthers_13 rfl (lv_at hl 3 rfl) ?_
  refine lv_icmp_ge E1 E2 d_Br_proposeOnOthers_14 rfl (fun _ => ?_) (fun hz => absurd ((nI_leI (a := 4) (b := 4) (by omega) (by omega)).mpr (by omega)) hz)
  have hq : o_Br_proposeOnOthers N b x = (it_Br_proposeOnOthers b x N 4) := rfl
  exact bn_retv F hr hk h hq.symm d_Br_proposeOnOthers_57
def o_Br_answerProposal (N : bn_S) (b : Nat) (x : Nat) : bn_S := (if N.1 9 x = 1 then (bn_oc ((o_Br_proposeOnOthers N b x).2.2.2 2 x) (o_Br_proposeOnOthers N b x) (fun y6 => (if (o_Br_proposeOnOthers N b x).1 9 x = 1 then (o_Li_putAgree (o_Br_proposeOnOthers N b x) y6 ((o_Br_proposeOnOthers N b x).1 2 b)) else (if (o_Br_proposeOnOthers N b x).1 9 x = 3 then (o_Li_putAgree (o_Br_proposeOnOthers N b x) y6 ((o_Br_proposeOnOthers N b x).1 2 b)) else (o_Br_proposeOnOthers N b x))))) else (bn_oc (N.2.2.2 2 x) N (fun y3 => (if N.1 9 x = 3 then (o_Li_putAgree N y3 (N.1 2 b)) else N))))
set_option maxHeartbeats 4000000 in
set_option maxRecDepth 100000 in
theorem c_Br_answerProposal (l : Launch) (D : va_G) (ar : Nat → ClassId) (ad : Nat → Nat → Nat) (nf : Nat) (N : bn_S) (b : Nat) (hb : b < 5) (x : Nat) (hx : x < 20) : bn_V l y_Br_answerProposal w_Br_answerProposal { frames := 4, cells := 0, slots := 0, locals := 95 } (bn_y D ar ad nf) N [.ref (ad 2 b), .ref (ad 6 x)] (o_Br_answerProposal N b x) := by
  intro sz
  refine bn_start (cc := b_Br_answerProposal) (maxL := 2) (ret := (Option.none : Option Jvm.ClassFile.FieldType)) (by decide) rfl (Nat.le_of_ble_eq_true rfl) ?_
  intro p e s m args below meth c ls hsz F hml hr hk hl h
  subst hsz
  have E1 := F.1
  have E2 := F.2.1
  have hl : lv_has ls 2 [(0, .ref (ad 2 b)), (1, .ref (ad 6 x))] := hl
  refine lv_aload_n E1 E2 d_Br_answerProposal_0 rfl (lv_at hl 1 rfl) ?_
  refine g_Po_role F h (by omega) k_156 (v := N.1 9 x) rfl d_Br_answerProposal_1 ?_
  refine lv_iconst (v := 1) E1 E2 d_Br_answerProposal_4 (by decide) ?_
  refine lv_icmp_ne E1 E2 d_Br_answerProposal_5 rfl (fun h1 => ?_) (fun h1 => ?_)
  · have h1 : ¬ (N.1 9 x = 1) := h1
    refine lv_aload_n E1 E2 d_Br_answerProposal_13 rfl (lv_at hl 1 rfl) ?_
    refine g_Po_peer F h (by omega) k_145 d_Br_answerProposal_14 (fun ho2 => ?_) (fun y3 ho2 hy3 => ?_)
    · skip
      refine lv_ifnullN E1 E2 d_Br_answerProposal_17 rfl ?_
      have hq : o_Br_answerProposal N b x = N := Eq.trans (if_neg h1) (bn_oc_n ho2)
      exact bn_retv F hr hk h hq.symm d_Br_answerProposal_50
    · skip
      refine lv_ifnull E1 E2 d_Br_answerProposal_17 ?_
      refine lv_aload_n E1 E2 d_Br_answerProposal_20 rfl (lv_at hl 1 rfl) ?_
      refine g_Po_role F h (by omega) k_156 (v := N.1 9 x) rfl d_Br_answerProposal_21 ?_
      refine lv_iconst (v := 1) E1 E2 d_Br_answerProposal_24 (by decide) ?_
      refine lv_icmp_eq E1 E2 d_Br_answerProposal_25 rfl (fun hz => absurd hz h1) (fun _ => ?_)
      refine lv_aload_n E1 E2 d_Br_answerProposal_28 rfl (lv_at hl 1 rfl) ?_
      refine g_Po_role F h (by omega) k_156 (v := N.1 9 x) rfl d_Br_answerProposal_29 ?_
      refine lv_iconst (v := 3) E1 E2 d_Br_answerProposal_32 (by decide) ?_
      refine lv_icmp_ne E1 E2 d_Br_answerProposal_33 rfl (fun h4 => ?_) (fun h4 => ?_)
      · have h4 : ¬ (N.1 9 x = 3) := h4
        have hq : o_Br_answerProposal N b x = N := Eq.trans (if_neg h1) (Eq.trans (bn_oc_s ho2) (if_neg h4))
        exact bn_retv F hr hk h hq.symm d_Br_answerProposal_50
      · have h4 : N.1 9 x = 3 := h4
        refine lv_aload_n E1 E2 d_Br_answerProposal_36 rfl (lv_at hl 1 rfl) ?_
        refine g_Po_peer_s F h (by omega) k_145 ho2 d_Br_answerProposal_37 ?_
        refine g_Po_line F h (by omega) k_137 d_Br_answerProposal_40 ?_
        refine lv_aload_n E1 E2 d_Br_answerProposal_43 rfl (lv_at hl 0 rfl) ?_
        refine g_Br_root F h (by omega) k_40 (v := N.1 2 b) rfl d_Br_answerProposal_44 ?_
        refine bn_callv F h (bn_runV (n := 1) (As := [.int (N.1 2 b)]) (rest := []) F hml hl.1 h (mm_7 (by omega)) rfl rfl (c_Li_putAgree l D ar ad nf N y3 (by omega) (N.1 2 b) _) (bn_goodV k_679 k_680 k_681 k_4 k_682) rfl rfl (by decide) ⟨by decide, by decide⟩ rfl rfl (Nat.le_of_ble_eq_true rfl) d_Br_answerProposal_47 ⟨Nat.zero_le _, Nat.zero_le _⟩) (fun H locs h => ?_)
        have h : bn_H (bn_y D ar ad nf) s.heap H locs (o_Li_putAgree N y3 (N.1 2 b)) := h
        have hq : o_Br_answerProposal N b x = (o_Li_putAgree N y3 (N.1 2 b)) := Eq.trans (if_neg h1) (Eq.trans (bn_oc_s ho2) (if_pos h4))
        exact bn_retv F hr hk h hq.symm d_Br_answerProposal_50
  · have h1 : N.1 9 x = 1 := h1
    refine lv_aload_n E1 E2 d_Br_answerProposal_8 rfl (lv_at hl 0 rfl) ?_
    refine lv_aload_n E1 E2 d_Br_answerProposal_9 rfl (lv_at hl 1 rfl) ?_
    refine bn_callv F h (bn_runV (n := 1) (As := [.ref (ad 6 x)]) (rest := []) F hml hl.1 h (mm_2 (by omega)) rfl rfl (c_Br_proposeOnOthers l D ar ad nf N b (by omega) x (by omega) _) (bn_goodV k_671 k_673 ks_Br_proposeOnOthers k_2 k_674) rfl rfl (by decide) ⟨by decide, by decide⟩ rfl rfl (Nat.le_of_ble_eq_true rfl) d_Br_answerProposal_10 ⟨Nat.zero_le _, Nat.zero_le _⟩) (fun H locs h => ?_)
    have h : bn_H (bn_y D ar ad nf) s.heap H locs (o_Br_proposeOnOthers N b x) := h
    refine lv_aload_n E1 E2 d_Br_answerProposal_13 rfl (lv_at hl 1 rfl) ?_
    refine g_Po_peer F h (by omega) k_145 d_Br_answerProposal_14 (fun ho5 => ?_) (fun y6 ho5 hy6 => ?_)
    · skip
      refine lv_ifnullN E1 E2 d_Br_answerProposal_17 rfl ?_
      have hq : o_Br_answerProposal N b x = (o_Br_proposeOnOthers N b x) := Eq.trans (if_pos h1) (bn_oc_n ho5)
      exact bn_retv F hr hk h hq.symm d_Br_answerProposal_50
    · skip
      refine lv_ifnull E1 E2 d_Br_answerProposal_17 ?_
      refine lv_aload_n E1 E2 d_Br_answerProposal_20 rfl (lv_at hl 1 rfl) ?_
      refine g_Po_role F h (by omega) k_156 (v := (o_Br_proposeOnOthers N b x).1 9 x) rfl d_Br_answerProposal_21 ?_
      refine lv_iconst (v := 1) E1 E2 d_Br_answerProposal_24 (by decide) ?_
      refine lv_icmp_eq E1 E2 d_Br_answerProposal_25 rfl (fun h7 => ?_) (fun h7 => ?_)
      · have h7 : (o_Br_proposeOnOthers N b x).1 9 x = 1 := h7
        refine lv_aload_n E1 E2 d_Br_answerProposal_36 rfl (lv_at hl 1 rfl) ?_
        refine g_Po_peer_s F h (by omega) k_145 ho5 d_Br_answerProposal_37 ?_
        refine g_Po_line F h (by omega) k_137 d_Br_answerProposal_40 ?_
        refine lv_aload_n E1 E2 d_Br_answerProposal_43 rfl (lv_at hl 0 rfl) ?_
        refine g_Br_root F h (by omega) k_40 (v := (o_Br_proposeOnOthers N b x).1 2 b) rfl d_Br_answerProposal_44 ?_
        refine bn_callv F h (bn_runV (n := 1) (As := [.int ((o_Br_proposeOnOthers N b x).1 2 b)]) (rest := []) F hml hl.1 h (mm_7 (by omega)) rfl rfl (c_Li_putAgree l D ar ad nf (o_Br_proposeOnOthers N b x) y6 (by omega) ((o_Br_proposeOnOthers N b x).1 2 b) _) (bn_goodV k_679 k_680 k_681 k_4 k_682) rfl rfl (by decide) ⟨by decide, by decide⟩ rfl rfl (Nat.le_of_ble_eq_true rfl) d_Br_answerProposal_47 ⟨Nat.zero_le _, Nat.zero_le _⟩) (fun H locs h => ?_)
        have h : bn_H (bn_y D ar ad nf) s.heap H locs (o_Li_putAgree (o_Br_proposeOnOthers N b x) y6 ((o_Br_proposeOnOthers N b x).1 2 b)) := h
        have hq : o_Br_answerProposal N b x = (o_Li_putAgree (o_Br_proposeOnOthers N b x) y6 ((o_Br_proposeOnOthers N b x).1 2 b)) := Eq.trans (if_pos h1) (Eq.trans (bn_oc_s ho5) (if_pos h7))
        exact bn_retv F hr hk h hq.symm d_Br_answerProposal_50
      · have h7 : ¬ ((o_Br_proposeOnOthers N b x).1 9 x = 1) := h7
        refine lv_aload_n E1 E2 d_Br_answerProposal_28 rfl (lv_at hl 1 rfl) ?_
        refine g_Po_role F h (by omega) k_156 (v := (o_Br_proposeOnOthers N b x).1 9 x) rfl d_Br_answerProposal_29 ?_
        refine lv_iconst (v := 3) E1 E2 d_Br_answerProposal_32 (by decide) ?_
        refine lv_icmp_ne E1 E2 d_Br_answerProposal_33 rfl (fun h8 => ?_) (fun h8 => ?_)
        · have h8 : ¬ ((o_Br_proposeOnOthers N b x).1 9 x = 3) := h8
          have hq : o_Br_answerProposal N b x = (o_Br_proposeOnOthers N b x) := Eq.trans (if_pos h1) (Eq.trans (bn_oc_s ho5) (Eq.trans (if_neg h7) (if_neg h8)))
          exact bn_retv F hr hk h hq.symm d_Br_answerProposal_50
        · have h8 : (o_Br_proposeOnOthers N b x).1 9 x = 3 := h8
          refine lv_aload_n E1 E2 d_Br_answerProposal_36 rfl (lv_at hl 1 rfl) ?_
          refine g_Po_peer_s F h (by omega) k_145 ho5 d_Br_answerProposal_37 ?_
          refine g_Po_line F h (by omega) k_137 d_Br_answerProposal_40 ?_
          refine lv_aload_n E1 E2 d_Br_answerProposal_43 rfl (lv_at hl 0 rfl) ?_
          refine g_Br_root F h (by omega) k_40 (v := (o_Br_proposeOnOthers N b x).1 2 b) rfl d_Br_answerProposal_44 ?_
          refine bn_callv F h (bn_runV (n := 1) (As := [.int ((o_Br_proposeOnOthers N b x).1 2 b)]) (rest := []) F hml hl.1 h (mm_7 (by omega)) rfl rfl (c_Li_putAgree l D ar ad nf (o_Br_proposeOnOthers N b x) y6 (by omega) ((o_Br_proposeOnOthers N b x).1 2 b) _) (bn_goodV k_679 k_680 k_681 k_4 k_682) rfl rfl (by decide) ⟨by decide, by decide⟩ rfl rfl (Nat.le_of_ble_eq_true rfl) d_Br_answerProposal_47 ⟨Nat.zero_le _, Nat.zero_le _⟩) (fun H locs h => ?_)
          have h : bn_H (bn_y D ar ad nf) s.heap H locs (o_Li_putAgree (o_Br_proposeOnOthers N b x) y6 ((o_Br_proposeOnOthers N b x).1 2 b)) := h
          have hq : o_Br_answerProposal N b x = (o_Li_putAgree (o_Br_proposeOnOthers N b x) y6 ((o_Br_proposeOnOthers N b x).1 2 b)) := Eq.trans (if_pos h1) (Eq.trans (bn_oc_s ho5) (Eq.trans (if_neg h7) (if_pos h8)))
          exact bn_retv F hr hk h hq.symm d_Br_answerProposal_50
def o_Br_hearTell (N : bn_S) (b : Nat) (x : Nat) (i : Nat) : bn_S := (if N.1 14 i < 6 then (if ((o_Br_compute (o_Po_hold N x (N.2.2.1 2 i) (N.1 14 i)) b).2.1 5 i) = 0 then (o_Br_compute (o_Po_hold N x (N.2.2.1 2 i) (N.1 14 i)) b) else (o_Br_answerProposal (o_Br_compute (o_Po_hold N x (N.2.2.1 2 i) (N.1 14 i)) b) b x)) else N)
set_option maxHeartbeats 4000000 in
set_option maxRecDepth 100000 in
theorem c_Br_hearTell (l : Launch) (D : va_G) (ar : Nat → ClassId) (ad : Nat → Nat → Nat) (nf : Nat) (N : bn_S) (b : Nat) (hb : b < 5) (x : Nat) (hx : x < 20) (i : Nat) (hi : i < 240) : bn_V l y_Br_hearTell w_Br_hearTell { frames := 5, cells := 0, slots := 0, locals := 118 } (bn_y D ar ad nf) N [.ref (ad 2 b), .ref (ad 6 x), .ref (ad 9 i)] (o_Br_hearTell N b x i) := by
  intro sz
  refine bn_start (cc := b_Br_hearTell) (maxL := 3) (ret := (Option.none : Option Jvm.ClassFile.FieldType)) (by decide) rfl (Nat.le_of_ble_eq_true rfl) ?_
  intro p e s m args below meth c ls hsz F hml hr hk hl h
  subst hsz
  have E1 := F.1
  have E2 := F.2.1
  have hl : lv_has ls 3 [(0, .ref (ad 2 b)), (1, .ref (ad 6 x)), (2, .ref (ad 9 i))] := hl
  refine lv_aload_n E1 E2 d_Br_hearTell_0 rfl (lv_at hl 2 rfl) ?_
  refine g_Ms_hops F h (by omega) k_99 (v := N.1 14 i) rfl d_Br_hearTell_1 ?_
  refine lv_bipush (v := 6) E1 E2 d_Br_hearTell_4 (by decide) ?_
  refine lv_icmp_lt E1 E2 d_Br_hearTell_6 rfl (fun h1 => ?_) (fun h1 => ?_)
  · have h1 : N.1 14 i < 6 := h1
    refine lv_aload_n E1 E2 d_Br_hearTell_10 rfl (lv_at hl 1 rfl) ?_
    refine lv_aload_n E1 E2 d_Br_hearTell_11 rfl (lv_at hl 2 rfl) ?_
    refine g_Ms_vector F h (by omega) k_96 (v := N.2.2.1 2 i) rfl d_Br_hearTell_12 ?_
    refine lv_aload_n E1 E2 d_Br_hearTell_15 rfl (lv_at hl 2 rfl) ?_
    refine g_Ms_hops F h (by omega) k_99 (v := N.1 14 i) rfl d_Br_hearTell_16 ?_
    refine bn_callv F h (bn_runV (n := 2) (As := [.long (N.2.2.1 2 i), .int (N.1 14 i)]) (rest := []) F hml hl.1 h (mm_6 (by omega)) rfl rfl (c_Po_hold l D ar ad nf N x (by omega) (N.2.2.1 2 i) (N.1 14 i) _) (bn_goodV k_663 k_664 k_665 k_3 k_666) rfl rfl (by decide) ⟨by decide, by decide⟩ rfl rfl (Nat.le_of_ble_eq_true rfl) d_Br_hearTell_19 ⟨Nat.zero_le _, Nat.zero_le _⟩) (fun H locs h => ?_)
    have h : bn_H (bn_y D ar ad nf) s.heap H locs (o_Po_hold N x (N.2.2.1 2 i) (N.1 14 i)) := h
    refine lv_aload_n E1 E2 d_Br_hearTell_22 rfl (lv_at hl 0 rfl) ?_
    refine bn_callv F h (bn_runV (n := 0) (As := []) (rest := []) F hml hl.1 h (mm_2 (by omega)) rfl rfl (c_Br_compute l D ar ad nf (o_Po_hold N x (N.2.2.1 2 i) (N.1 14 i)) b (by omega) _) (bn_goodV k_379 k_249 k_250 k_2 k_251) rfl rfl (by decide) ⟨by decide, by decide⟩ rfl rfl (Nat.le_of_ble_eq_true rfl) d_Br_hearTell_23 ⟨Nat.zero_le _, Nat.zero_le _⟩) (fun H locs h => ?_)
    have h : bn_H (bn_y D ar ad nf) s.heap H locs (o_Br_compute (o_Po_hold N x (N.2.2.1 2 i) (N.1 14 i)) b) := h
    refine lv_aload_n E1 E2 d_Br_hearTell_26 rfl (lv_at hl 2 rfl) ?_
    refine g_Ms_proposing F h (by omega) k_102 (v := (o_Br_compute (o_Po_hold N x (N.2.2.1 2 i) (N.1 14 i)) b).2.1 5 i) rfl d_Br_hearTell_27 ?_
    have hwmprop : (o_Br_compute (o_Po_hold N x (N.2.2.1 2 i) (N.1 14 i)) b).2.1 5 i < 2 := wf_mprop h.2.2.2 i
    refine lv_if_eq E1 E2 d_Br_hearTell_30 rfl (fun h2 => ?_) (fun h2 => ?_)
    · have h2 : ((o_Br_compute (o_Po_hold N x (N.2.2.1 2 i) (N.1 14 i)) b).2.1 5 i) = 0 := ((nI_eq (a := (o_Br_compute (o_Po_hold N x (N.2.2.1 2 i) (N.1 14 i)) b).2.1 5 i) (b := 0) (by omega) (by omega)).mp h2)
      have hq : o_Br_hearTell N b x i = (o_Br_compute (o_Po_hold N x (N.2.2.1 2 i) (N.1 14 i)) b) := Eq.trans (if_pos h1) (if_pos h2)
      exact bn_retv F hr hk h hq.symm d_Br_hearTell_38
    · have h2 : ¬ (((o_Br_compute (o_Po_hold N x (N.2.2.1 2 i) (N.1 14 i)) b).2.1 5 i) = 0) := (fun hw => h2 ((nI_eq (a := (o_Br_compute (o_Po_hold N x (N.2.2.1 2 i) (N.1 14 i)) b).2.1 5 i) (b := 0) (by omega) (by omega)).mpr hw))
      refine lv_aload_n E1 E2 d_Br_hearTell_33 rfl (lv_at hl 0 rfl) ?_
      refine lv_aload_n E1 E2 d_Br_hearTell_34 rfl (lv_at hl 1 rfl) ?_
      refine bn_callv F h (bn_runV (n := 1) (As := [.ref (ad 6 x)]) (rest := []) F hml hl.1 h (mm_2 (by omega)) rfl rfl (c_Br_answerProposal l D ar ad nf (o_Br_compute (o_Po_hold N x (N.2.2.1 2 i) (N.1 14 i)) b) b (by omega) x (by omega) _) (bn_goodV k_667 k_669 ks_Br_answerProposal k_2 k_670) rfl rfl (by decide) ⟨by decide, by decide⟩ rfl rfl (Nat.le_of_ble_eq_true rfl) d_Br_hearTell_35 ⟨Nat.zero_le _, Nat.zero_le _⟩) (fun H locs h => ?_)
      have h : bn_H (bn_y D ar ad nf) s.heap H locs (o_Br_answerProposal (o_Br_compute (o_Po_hold N x (N.2.2.1 2 i) (N.1 14 i)) b) b x) := h
      have hq : o_Br_hearTell N b x i = (o_Br_answerProposal (o_Br_compute (o_Po_hold N x (N.2.2.1 2 i) (N.1 14 i)) b) b x) := Eq.trans (if_pos h1) (if_neg h2)
      exact bn_retv F hr hk h hq.symm d_Br_hearTell_38
  · have h1 : ¬ (N.1 14 i < 6) := h1
    have hq : o_Br_hearTell N b x i = N := if_neg h1
    exact bn_retv F hr hk h hq.symm d_Br_hearTell_9
def o_Br_hearAgree (N : bn_S) (b : Nat) (x : Nat) (ro : Int32) : bn_S := (if N.1 9 x = 2 then (if (N.2.1 3 x) = 0 then N else (if ro = N.1 2 b then (o_Po_takeAgreement N x) else N)) else N)
set_option maxHeartbeats 4000000 in
set_option maxRecDepth 100000 in
theorem c_Br_hearAgree (l : Launch) (D : va_G) (ar : Nat → ClassId) (ad : Nat → Nat → Nat) (nf : Nat) (N : bn_S) (b : Nat) (hb : b < 5) (x : Nat) (hx : x < 20) (ro : Int32) : bn_V l y_Br_hearAgree w_Br_hearAgree { frames := 2, cells := 0, slots := 0, locals := 40 } (bn_y D ar ad nf) N [.ref (ad 2 b), .ref (ad 6 x), .int ro] (o_Br_hearAgree N b x ro) := by
  intro sz
  refine bn_start (cc := b_Br_hearAgree) (maxL := 3) (ret := (Option.none : Option Jvm.ClassFile.FieldType)) (by decide) rfl (Nat.le_of_ble_eq_true rfl) ?_
  intro p e s m args below meth c ls hsz F hml hr hk hl h
  subst hsz
  have E1 := F.1
  have E2 := F.2.1
  have hl : lv_has ls 3 [(0, .ref (ad 2 b)), (1, .ref (ad 6 x)), (2, .int ro)] := hl
  refine lv_aload_n E1 E2 d_Br_hearAgree_0 rfl (lv_at hl 1 rfl) ?_
  refine g_Po_role F h (by omega) k_156 (v := N.1 9 x) rfl d_Br_hearAgree_1 ?_
  refine lv_iconst (v := 2) E1 E2 d_Br_hearAgree_4 (by decide) ?_
  refine lv_icmp_ne E1 E2 d_Br_hearAgree_5 rfl (fun h1 => ?_) (fun h1 => ?_)
  · have h1 : ¬ (N.1 9 x = 2) := h1
    have hq : o_Br_hearAgree N b x ro = N := if_neg h1
    exact bn_retv F hr hk h hq.symm d_Br_hearAgree_27
  · have h1 : N.1 9 x = 2 := h1
    refine lv_aload_n E1 E2 d_Br_hearAgree_8 rfl (lv_at hl 1 rfl) ?_
    refine g_Po_proposing F h (by omega) k_160 (v := N.2.1 3 x) rfl d_Br_hearAgree_9 ?_
    have hwprop : N.2.1 3 x < 2 := wf_prop h.2.2.2 x
    refine lv_if_eq E1 E2 d_Br_hearAgree_12 rfl (fun h2 => ?_) (fun h2 => ?_)
    · have h2 : (N.2.1 3 x) = 0 := ((nI_eq (a := N.2.1 3 x) (b := 0) (by omega) (by omega)).mp h2)
      have hq : o_Br_hearAgree N b x ro = N := Eq.trans (if_pos h1) (if_pos h2)
      exact bn_retv F hr hk h hq.symm d_Br_hearAgree_27
    · have h2 : ¬ ((N.2.1 3 x) = 0) := (fun hw => h2 ((nI_eq (a := N.2.1 3 x) (b := 0) (by omega) (by omega)).mpr hw))
      refine lv_iload_n E1 E2 d_Br_hearAgree_15 rfl (lv_at hl 2 rfl) ?_
      refine lv_aload_n E1 E2 d_Br_hearAgree_16 rfl (lv_at hl 0 rfl) ?_
      refine g_Br_root F h (by omega) k_40 (v := N.1 2 b) rfl d_Br_hearAgree_17 ?_
      refine lv_icmp_ne E1 E2 d_Br_hearAgree_20 rfl (fun h3 => ?_) (fun h3 => ?_)
      · have h3 : ¬ (ro = N.1 2 b) := h3
        have hq : o_Br_hearAgree N b x ro = N := Eq.trans (if_pos h1) (Eq.trans (if_neg h2) (if_neg h3))
        exact bn_retv F hr hk h hq.symm d_Br_hearAgree_27
      · have h3 : ro = N.1 2 b := h3
        refine lv_aload_n E1 E2 d_Br_hearAgree_23 rfl (lv_at hl 1 rfl) ?_
        refine bn_callv F h (bn_runV (n := 0) (As := []) (rest := []) F hml hl.1 h (mm_6 (by omega)) rfl rfl (c_Po_takeAgreement l D ar ad nf N x (by omega) _) (bn_goodV k_687 k_688 k_689 k_3 k_690) rfl rfl (by decide) ⟨by decide, by decide⟩ rfl rfl (Nat.le_of_ble_eq_true rfl) d_Br_hearAgree_24 ⟨Nat.zero_le _, Nat.zero_le _⟩) (fun H locs h => ?_)
        have h : bn_H (bn_y D ar ad nf) s.heap H locs (o_Po_takeAgreement N x) := h
        have hq : o_Br_hearAgree N b x ro = (o_Po_takeAgreement N x) := Eq.trans (if_pos h1) (Eq.trans (if_neg h2) (if_pos h3))
        exact bn_retv F hr hk h hq.symm d_Br_hearAgree_27
def r_Br_placeIndex (N : bn_S) (sr : Nat) (vl : Nat) : Nat := ((sr * 2) + vl) - 1
set_option maxHeartbeats 4000000 in
set_option maxRecDepth 100000 in
theorem c_Br_placeIndex (l : Launch) (D : va_G) (ar : Nat → ClassId) (ad : Nat → Nat → Nat) (nf : Nat) (N : bn_S) (sr : Nat) (hsr : sr < 8) (vl : Nat) (hvl : vl < 3) (hvl0 : 1 ≤ vl) : bn_I l y_Br_placeIndex w_Br_placeIndex { frames := 0, cells := 0, slots := 0, locals := 0 } (bn_y D ar ad nf) N [.int (nI sr), .int (nI vl)] (nI (((sr * 2) + vl) - 1)) N := by
  intro sz
  refine bn_start (cc := b_Br_placeIndex) (maxL := 2) (ret := (Option.some Jvm.ClassFile.FieldType.int)) (by decide) rfl (Nat.le_of_ble_eq_true rfl) ?_
  intro p e s m args below meth c ls hsz F hml hr hk hl h
  subst hsz
  have E1 := F.1
  have E2 := F.2.1
  have hl : lv_has ls 2 [(0, .int (nI sr)), (1, .int (nI vl))] := hl
  refine lv_iload_n E1 E2 d_Br_placeIndex_0 rfl (lv_at hl 0 rfl) ?_
  refine lv_iconst (v := 2) E1 E2 d_Br_placeIndex_1 (by decide) ?_
  refine lv_imul E1 E2 d_Br_placeIndex_2 ?_
  refine bn_ti (y := nI (sr * 2)) (pk_mul sr 2) ?_
  refine lv_iload_n E1 E2 d_Br_placeIndex_3 rfl (lv_at hl 1 rfl) ?_
  refine lv_iadd E1 E2 d_Br_placeIndex_4 ?_
  refine bn_ti (y := nI ((sr * 2) + vl)) (nI_add (sr * 2) vl) ?_
  refine lv_iconst (v := 1) E1 E2 d_Br_placeIndex_5 (by decide) ?_
  refine lv_isub E1 E2 d_Br_placeIndex_6 ?_
  refine bn_ti (y := nI (((sr * 2) + vl) - 1)) (pk_sub (a := ((sr * 2) + vl)) (b := 1) (by omega)) ?_
  have hq : r_Br_placeIndex N sr vl = ((sr * 2) + vl) - 1 := rfl
  exact bn_reti F hr hk h (congrArg nI hq).symm rfl d_Br_placeIndex_7
def o_Br_learn (N : bn_S) (b : Nat) (sr : Nat) (vl : Nat) (pp : Nat) : bn_S := (sI (sU N (b + 20) (((sr * 2) + vl) - 1) pp) (b + 20) (((sr * 2) + vl) - 1) 12)
set_option maxHeartbeats 4000000 in
set_option maxRecDepth 100000 in
theorem c_Br_learn (l : Launch) (D : va_G) (ar : Nat → ClassId) (ad : Nat → Nat → Nat) (nf : Nat) (N : bn_S) (b : Nat) (hb : b < 5) (sr : Nat) (hsr : sr < 8) (vl : Nat) (hvl : vl < 3) (hvl0 : 1 ≤ vl) (pp : Nat) (hpp : pp < 4) : bn_V l y_Br_learn w_Br_learn { frames := 1, cells := 0, slots := 0, locals := 21 } (bn_y D ar ad nf) N [.ref (ad 2 b), .int (nI sr), .int (nI vl), .int (nI pp)] (o_Br_learn N b sr vl pp) := by
  intro sz
  refine bn_start (cc := b_Br_learn) (maxL := 5) (ret := (Option.none : Option Jvm.ClassFile.FieldType)) (by decide) rfl (Nat.le_of_ble_eq_true rfl) ?_
  intro p e s m args below meth c ls hsz F hml hr hk hl h
  subst hsz
  have E1 := F.1
  have E2 := F.2.1
  have hl : lv_has ls 5 [(0, .ref (ad 2 b)), (1, .int (nI sr)), (2, .int (nI vl)), (3, .int (nI pp))] := hl
  refine lv_iload_n E1 E2 d_Br_learn_0 rfl (lv_at hl 1 rfl) ?_
  refine lv_iload_n E1 E2 d_Br_learn_1 rfl (lv_at hl 2 rfl) ?_
  refine bn_calli F h (bn_runS (n := 2) (As := [.int (nI sr), .int (nI vl)]) (rest := []) F hml hl.1 h (c_Br_placeIndex l D ar ad nf N sr (by omega) vl (by omega) (by omega) _) (bn_goodS k_427 k_428 k_2 k_429) rfl rfl (by decide) ⟨by decide, by decide⟩ rfl rfl (Nat.le_of_ble_eq_true rfl) d_Br_learn_2 ⟨Nat.zero_le _, Nat.zero_le _⟩) (fun H locs h => ?_)
  refine lv_istore E1 E2 d_Br_learn_5 hl (by decide) rfl (fun ls hl => ?_)
  have hl : lv_has ls 5 [(4, .int (nI (((sr * 2) + vl) - 1))), (0, .ref (ad 2 b)), (1, .int (nI sr)), (2, .int (nI vl)), (3, .int (nI pp))] := hl
  refine lv_aload_n E1 E2 d_Br_learn_7 rfl (lv_at hl 1 rfl) ?_
  refine g_Br_places F h (by omega) k_44 d_Br_learn_8 ?_
  refine lv_iload E1 E2 d_Br_learn_11 (lv_at hl 0 rfl) ?_
  refine lv_iload_n E1 E2 d_Br_learn_13 rfl (lv_at hl 4 rfl) ?_
  refine as_places F h (by omega) (i := ((sr * 2) + vl) - 1) (v := pp) (by omega) (by omega) d_Br_learn_14 (fun H locs h => ?_)
  have h : bn_H (bn_y D ar ad nf) s.heap H locs (sU N (b + 20) (((sr * 2) + vl) - 1) pp) := h
  refine lv_aload_n E1 E2 d_Br_learn_15 rfl (lv_at hl 1 rfl) ?_
  refine g_Br_placeLives F h (by omega) k_45 d_Br_learn_16 ?_
  refine lv_iload E1 E2 d_Br_learn_19 (lv_at hl 0 rfl) ?_
  refine lv_bipush (v := 12) E1 E2 d_Br_learn_21 (by decide) ?_
  refine as_lives F h (by omega) (i := ((sr * 2) + vl) - 1) (v := 12) (by omega) d_Br_learn_23 (fun H locs h => ?_)
  have h : bn_H (bn_y D ar ad nf) s.heap H locs (sI (sU N (b + 20) (((sr * 2) + vl) - 1) pp) (b + 20) (((sr * 2) + vl) - 1) 12) := h
  have hq : o_Br_learn N b sr vl pp = (sI (sU N (b + 20) (((sr * 2) + vl) - 1) pp) (b + 20) (((sr * 2) + vl) - 1) 12) := rfl
  exact bn_retv F hr hk h hq.symm d_Br_learn_24
def r_Br_placeOf (N : bn_S) (b : Nat) (sr : Nat) (vl : Nat) : Int32 := (if N.1 (b + 20) (((sr * 2) + vl) - 1) ≤ 0 then (-1) else nI (N.2.1 (b + 20) (((sr * 2) + vl) - 1)))
set_option maxHeartbeats 4000000 in
set_option maxRecDepth 100000 in
theorem c_Br_placeOf (l : Launch) (D : va_G) (ar : Nat → ClassId) (ad : Nat → Nat → Nat) (nf : Nat) (N : bn_S) (b : Nat) (hb : b < 5) (sr : Nat) (hsr : sr < 8) (vl : Nat) (hvl : vl < 3) (hvl0 : 1 ≤ vl) : bn_I l y_Br_placeOf w_Br_placeOf { frames := 1, cells := 0, slots := 0, locals := 21 } (bn_y D ar ad nf) N [.ref (ad 2 b), .int (nI sr), .int (nI vl)] (r_Br_placeOf N b sr vl) N := by
  intro sz
  refine bn_start (cc := b_Br_placeOf) (maxL := 4) (ret := (Option.some Jvm.ClassFile.FieldType.int)) (by decide) rfl (Nat.le_of_ble_eq_true rfl) ?_
  intro p e s m args below meth c ls hsz F hml hr hk hl h
  subst hsz
  have E1 := F.1
  have E2 := F.2.1
  have hl : lv_has ls 4 [(0, .ref (ad 2 b)), (1, .int (nI sr)), (2, .int (nI vl))] := hl
  refine lv_iload_n E1 E2 d_Br_placeOf_0 rfl (lv_at hl 1 rfl) ?_
  refine lv_iload_n E1 E2 d_Br_placeOf_1 rfl (lv_at hl 2 rfl) ?_
  refine bn_calli F h (bn_runS (n := 2) (As := [.int (nI sr), .int (nI vl)]) (rest := []) F hml hl.1 h (c_Br_placeIndex l D ar ad nf N sr (by omega) vl (by omega) (by omega) _) (bn_goodS k_427 k_428 k_2 k_429) rfl rfl (by decide) ⟨by decide, by decide⟩ rfl rfl (Nat.le_of_ble_eq_true rfl) d_Br_placeOf_2 ⟨Nat.zero_le _, Nat.zero_le _⟩) (fun H locs h => ?_)
  refine lv_istore_n E1 E2 d_Br_placeOf_5 rfl hl (by decide) rfl (fun ls hl => ?_)
  have hl : lv_has ls 4 [(3, .int (nI (((sr * 2) + vl) - 1))), (0, .ref (ad 2 b)), (1, .int (nI sr)), (2, .int (nI vl))] := hl
  refine lv_aload_n E1 E2 d_Br_placeOf_6 rfl (lv_at hl 1 rfl) ?_
  refine g_Br_placeLives F h (by omega) k_45 d_Br_placeOf_7 ?_
  refine lv_iload_n E1 E2 d_Br_placeOf_10 rfl (lv_at hl 0 rfl) ?_
  refine al_lives F h (by omega) (i := ((sr * 2) + vl) - 1) (v := N.1 (b + 20) (((sr * 2) + vl) - 1)) (by omega) rfl d_Br_placeOf_11 ?_
  refine lv_if_le E1 E2 d_Br_placeOf_12 rfl (fun h1 => ?_) (fun h1 => ?_)
  · have h1 : N.1 (b + 20) (((sr * 2) + vl) - 1) ≤ 0 := h1
    refine lv_iconst (v := (-1)) E1 E2 d_Br_placeOf_24 (by decide) ?_
    have hq : r_Br_placeOf N b sr vl = (-1) := if_pos h1
    exact bn_reti F hr hk h hq.symm rfl d_Br_placeOf_25
  · have h1 : ¬ (N.1 (b + 20) (((sr * 2) + vl) - 1) ≤ 0) := h1
    refine lv_aload_n E1 E2 d_Br_placeOf_15 rfl (lv_at hl 1 rfl) ?_
    refine g_Br_places F h (by omega) k_44 d_Br_placeOf_16 ?_
    refine lv_iload_n E1 E2 d_Br_placeOf_19 rfl (lv_at hl 0 rfl) ?_
    refine al_places F h (by omega) (i := ((sr * 2) + vl) - 1) (v := N.2.1 (b + 20) (((sr * 2) + vl) - 1)) (by omega) rfl d_Br_placeOf_20 ?_
    refine lv_goto E1 E2 d_Br_placeOf_21 rfl ?_
    have hq : r_Br_placeOf N b sr vl = nI (N.2.1 (b + 20) (((sr * 2) + vl) - 1)) := if_neg h1
    exact bn_reti F hr hk h hq.symm rfl d_Br_placeOf_25
def bd_Br_forgetBehind (b : Nat) (pp : Nat) (k : Nat) (q : bn_S) : bn_S := (if (q.2.1 (b + 20) k) = pp then (sI q (b + 20) k 0) else q)
def it_Br_forgetBehind (b : Nat) (pp : Nat) (q0 : bn_S) : Nat → bn_S
  | 0 => q0
  | k + 1 => bd_Br_forgetBehind b pp k (it_Br_forgetBehind b pp q0 k)
theorem it_Br_forgetBehind_s (b : Nat) (pp : Nat) (q0 : bn_S) (k : Nat) : bd_Br_forgetBehind b pp k (it_Br_forgetBehind b pp q0 k) = it_Br_forgetBehind b pp q0 (k + 1) := rfl
def o_Br_forgetBehind (N : bn_S) (b : Nat) (pp : Nat) : bn_S := (it_Br_forgetBehind b pp N 16)
set_option maxHeartbeats 4000000 in
set_option maxRecDepth 100000 in
theorem c_Br_forgetBehind (l : Launch) (D : va_G) (ar : Nat → ClassId) (ad : Nat → Nat → Nat) (nf : Nat) (N : bn_S) (b : Nat) (hb : b < 5) (pp : Nat) (hpp : pp < 4) : bn_V l y_Br_forgetBehind w_Br_forgetBehind { frames := 0, cells := 0, slots := 0, locals := 0 } (bn_y D ar ad nf) N [.ref (ad 2 b), .int (nI pp)] (o_Br_forgetBehind N b pp) := by
  intro sz
  refine bn_start (cc := b_Br_forgetBehind) (maxL := 3) (ret := (Option.none : Option Jvm.ClassFile.FieldType)) (by decide) rfl (Nat.le_of_ble_eq_true rfl) ?_
  intro p e s m args below meth c ls hsz F hml hr hk hl h
  subst hsz
  have E1 := F.1
  have E2 := F.2.1
  have hl : lv_has ls 3 [(0, .ref (ad 2 b)), (1, .int (nI pp))] := hl
  refine lv_iconst (v := 0) E1 E2 d_Br_forgetBehind_0 (by decide) ?_
  refine lv_istore_n E1 E2 d_Br_forgetBehind_1 rfl hl (by decide) rfl (fun ls hl => ?_)
  have hl : lv_has ls 3 [(2, .int 0), (0, .ref (ad 2 b)), (1, .int (nI pp))] := hl
  have hs2 : ∀ (Q0 : State → Prop) (k : Nat), k < 16 → ∀ (q : bn_S) (H : Heap) (locs : List Loc) (ls : Array Slot), lv_has ls 3 [(0, .ref (ad 2 b)), (1, .int (nI pp)), (2, .int (nI k))] → bn_H (bn_y D ar ad nf) s.heap H locs q → (∀ (H : Heap) (locs : List Loc) (ls : Array Slot), lv_has ls 3 [(0, .ref (ad 2 b)), (1, .int (nI pp)), (2, .int (nI (k + 1)))] → bn_H (bn_y D ar ad nf) s.heap H locs (bd_Br_forgetBehind b pp k q) → W p l e { frames := 0, cells := 0, slots := 0, locals := 0 } s m args below meth c H locs 0 0 Q0 (F0 m 2 ls [])) → W p l e { frames := 0, cells := 0, slots := 0, locals := 0 } s m args below meth c H locs 0 0 Q0 (F0 m 2 ls []) := by
    intro Q0 k hkk q H locs ls hl h kk
    refine lv_iload_n E1 E2 d_Br_forgetBehind_2 rfl (lv_at hl 2 rfl) ?_
    refine lv_aload_n E1 E2 d_Br_forgetBehind_3 rfl (lv_at hl 0 rfl) ?_
    refine g_Br_places F h (by omega) k_44 d_Br_forgetBehind_4 ?_
    refine an_places F h (by omega) d_Br_forgetBehind_7 ?_
    refine lv_icmp_ge E1 E2 d_Br_forgetBehind_8 rfl (fun hz => absurd ((nI_leI (a := 16) (b := k) (by omega) (by omega)).mp hz) (by omega)) (fun _ => ?_)
    refine lv_aload_n E1 E2 d_Br_forgetBehind_11 rfl (lv_at hl 0 rfl) ?_
    refine g_Br_places F h (by omega) k_44 d_Br_forgetBehind_12 ?_
    refine lv_iload_n E1 E2 d_Br_forgetBehind_15 rfl (lv_at hl 2 rfl) ?_
    refine al_places F h (by omega) (i := k) (v := q.2.1 (b + 20) k) (by omega) rfl d_Br_forgetBehind_16 ?_
    refine lv_iload_n E1 E2 d_Br_forgetBehind_17 rfl (lv_at hl 1 rfl) ?_
    have hwpl : q.2.1 (b + 20) k < 4 := wf_place h.2.2.2 b k
    refine lv_icmp_ne E1 E2 d_Br_forgetBehind_18 rfl (fun h1 => ?_) (fun h1 => ?_)
    · have h1 : ¬ ((q.2.1 (b + 20) k) = pp) := (fun hw => h1 ((nI_eq (a := q.2.1 (b + 20) k) (b := pp) (by omega) (by omega)).mpr hw))
      refine lv_iinc (v := (nI (k + 1))) E1 E2 d_Br_forgetBehind_28 hl (k := 2) rfl (nI_1 _) (by decide) rfl (fun ls hl => ?_)
      have hl : lv_has ls 3 [(2, .int (nI (k + 1))), (0, .ref (ad 2 b)), (1, .int (nI pp))] := hl
      refine lv_goto E1 E2 d_Br_forgetBehind_31 rfl ?_
      have hq : (bd_Br_forgetBehind b pp k q) = q := if_neg h1
      rw [hq] at kk
      exact kk _ _ ls (lv_sub hl [1, 2, 0] rfl) h
    · have h1 : (q.2.1 (b + 20) k) = pp := ((nI_eq (a := q.2.1 (b + 20) k) (b := pp) (by omega) (by omega)).mp h1)
      refine lv_aload_n E1 E2 d_Br_forgetBehind_21 rfl (lv_at hl 0 rfl) ?_
      refine g_Br_placeLives F h (by omega) k_45 d_Br_forgetBehind_22 ?_
      refine lv_iload_n E1 E2 d_Br_forgetBehind_25 rfl (lv_at hl 2 rfl) ?_
      refine lv_iconst (v := 0) E1 E2 d_Br_forgetBehind_26 (by decide) ?_
      refine as_lives F h (by omega) (i := k) (v := 0) (by omega) d_Br_forgetBehind_27 (fun H locs h => ?_)
      have h : bn_H (bn_y D ar ad nf) s.heap H locs (sI q (b + 20) k 0) := h
      refine lv_iinc (v := (nI (k + 1))) E1 E2 d_Br_forgetBehind_28 hl (k := 2) rfl (nI_1 _) (by decide) rfl (fun ls hl => ?_)
      have hl : lv_has ls 3 [(2, .int (nI (k + 1))), (0, .ref (ad 2 b)), (1, .int (nI pp))] := hl
      refine lv_goto E1 E2 d_Br_forgetBehind_31 rfl ?_
      have hq : (bd_Br_forgetBehind b pp k q) = (sI q (b + 20) k 0) := if_pos h1
      rw [hq] at kk
      exact kk _ _ ls (lv_sub hl [1, 2, 0] rfl) h
  refine hs2 _ 0 (by decide) (it_Br_forgetBehind b pp N 0) _ _ ls (lv_sub hl [1, 2, 0] rfl) h (fun H locs ls hl h => ?_)
  rw [it_Br_forgetBehind_s] at h
  refine hs2 _ 1 (by decide) (it_Br_forgetBehind b pp N 1) _ _ ls hl h (fun H locs ls hl h => ?_)
  rw [it_Br_forgetBehind_s] at h
  refine hs2 _ 2 (by decide) (it_Br_forgetBehind b pp N 2) _ _ ls hl h (fun H locs ls hl h => ?_)
  rw [it_Br_forgetBehind_s] at h
  refine hs2 _ 3 (by decide) (it_Br_forgetBehind b pp N 3) _ _ ls hl h (fun H locs ls hl h => ?_)
  rw [it_Br_forgetBehind_s] at h
  refine hs2 _ 4 (by decide) (it_Br_forgetBehind b pp N 4) _ _ ls hl h (fun H locs ls hl h => ?_)
  rw [it_Br_forgetBehind_s] at h
  refine hs2 _ 5 (by decide) (it_Br_forgetBehind b pp N 5) _ _ ls hl h (fun H locs ls hl h => ?_)
  rw [it_Br_forgetBehind_s] at h
  refine hs2 _ 6 (by decide) (it_Br_forgetBehind b pp N 6) _ _ ls hl h (fun H locs ls hl h => ?_)
  rw [it_Br_forgetBehind_s] at h
  refine hs2 _ 7 (by decide) (it_Br_forgetBehind b pp N 7) _ _ ls hl h (fun H locs ls hl h => ?_)
  rw [it_Br_forgetBehind_s] at h
  refine hs2 _ 8 (by decide) (it_Br_forgetBehind b pp N 8) _ _ ls hl h (fun H locs ls hl h => ?_)
  rw [it_Br_forgetBehind_s] at h
  refine hs2 _ 9 (by decide) (it_Br_forgetBehind b pp N 9) _ _ ls hl h (fun H locs ls hl h => ?_)
  rw [it_Br_forgetBehind_s] at h
  refine hs2 _ 10 (by decide) (it_Br_forgetBehind b pp N 10) _ _ ls hl h (fun H locs ls hl h => ?_)
  rw [it_Br_forgetBehind_s] at h
  refine hs2 _ 11 (by decide) (it_Br_forgetBehind b pp N 11) _ _ ls hl h (fun H locs ls hl h => ?_)
  rw [it_Br_forgetBehind_s] at h
  refine hs2 _ 12 (by decide) (it_Br_forgetBehind b pp N 12) _ _ ls hl h (fun H locs ls hl h => ?_)
  rw [it_Br_forgetBehind_s] at h
  refine hs2 _ 13 (by decide) (it_Br_forgetBehind b pp N 13) _ _ ls hl h (fun H locs ls hl h => ?_)
  rw [it_Br_forgetBehind_s] at h
  refine hs2 _ 14 (by decide) (it_Br_forgetBehind b pp N 14) _ _ ls hl h (fun H locs ls hl h => ?_)
  rw [it_Br_forgetBehind_s] at h
  refine hs2 _ 15 (by decide) (it_Br_forgetBehind b pp N 15) _ _ ls hl h (fun H locs ls hl h => ?_)
  rw [it_Br_forgetBehind_s] at h
  have hl : lv_has ls 3 [(0, .ref (ad 2 b)), (1, .int (nI pp)), (2, .int (nI 16))] := hl
  have h : bn_H (bn_y D ar ad nf) s.heap H locs (it_Br_forgetBehind b pp N 16) := h
  refine lv_iload_n E1 E2 d_Br_forgetBehind_2 rfl (lv_at hl 2 rfl) ?_
  refine lv_aload_n E1 E2 d_Br_forgetBehind_3 rfl (lv_at hl 0 rfl) ?_
  refine g_Br_places F h (by omega) k_44 d_Br_forgetBehind_4 ?_
  refine an_places F h (by omega) d_Br_forgetBehind_7 ?_
  refine lv_icmp_ge E1 E2 d_Br_forgetBehind_8 rfl (fun _ => ?_) (fun hz => absurd ((nI_leI (a := 16) (b := 16) (by omega) (by omega)).mpr (by omega)) hz)
  have hq : o_Br_forgetBehind N b pp = (it_Br_forgetBehind b pp N 16) := rfl
  exact bn_retv F hr hk h hq.symm d_Br_forgetBehind_34
def bd_Br_age1 (b : Nat) (k : Nat) (q : bn_S) : bn_S := (o_Po_ageInfo q (4 * b + k))
def it_Br_age1 (b : Nat) (q0 : bn_S) : Nat → bn_S
  | 0 => q0
  | k + 1 => bd_Br_age1 b k (it_Br_age1 b q0 k)
theorem it_Br_age1_s (b : Nat) (q0 : bn_S) (k : Nat) : bd_Br_age1 b k (it_Br_age1 b q0 k) = it_Br_age1 b q0 (k + 1) := rfl
def bd_Br_age2 (b : Nat) (k : Nat) (q : bn_S) : bn_S := (sI q (b + 20) k (if 0 < (q.1 (b + 20) k) - 1 then (q.1 (b + 20) k) - 1 else 0))
def it_Br_age2 (b : Nat) (q0 : bn_S) : Nat → bn_S
  | 0 => q0
  | k + 1 => bd_Br_age2 b k (it_Br_age2 b q0 k)
theorem it_Br_age2_s (b : Nat) (q0 : bn_S) (k : Nat) : bd_Br_age2 b k (it_Br_age2 b q0 k) = it_Br_age2 b q0 (k + 1) := rfl
def bd_Br_age3 (b : Nat) (k : Nat) (q : bn_S) : bn_S := (o_Po_ageWait q (4 * b + k))
def it_Br_age3 (b : Nat) (q0 : bn_S) : Nat → bn_S
  | 0 => q0
  | k + 1 => bd_Br_age3 b k (it_Br_age3 b q0 k)
theorem it_Br_age3_s (b : Nat) (q0 : bn_S) (k : Nat) : bd_Br_age3 b k (it_Br_age3 b q0 k) = it_Br_age3 b q0 (k + 1) := rfl
def o_Br_age (N : bn_S) (b : Nat) : bn_S := (o_Br_compute (it_Br_age3 b (it_Br_age2 b (it_Br_age1 b N 4) 16) 4) b)
set_option maxHeartbeats 4000000 in
set_option maxRecDepth 100000 in
theorem c_Br_age (l : Launch) (D : va_G) (ar : Nat → ClassId) (ad : Nat → Nat → Nat) (nf : Nat) (N : bn_S) (b : Nat) (hb : b < 5) : bn_V l y_Br_age w_Br_age { frames := 5, cells := 0, slots := 0, locals := 118 } (bn_y D ar ad nf) N [.ref (ad 2 b)] (o_Br_age N b) := by
  intro sz
  refine bn_start (cc := b_Br_age) (maxL := 5) (ret := (Option.none : Option Jvm.ClassFile.FieldType)) (by decide) rfl (Nat.le_of_ble_eq_true rfl) ?_
  intro p e s m args below meth c ls hsz F hml hr hk hl h
  subst hsz
  have E1 := F.1
  have E2 := F.2.1
  have hl : lv_has ls 5 [(0, .ref (ad 2 b))] := hl
  refine lv_aload_n E1 E2 d_Br_age_0 rfl (lv_at hl 0 rfl) ?_
  refine g_Br_ports F h (by omega) k_38 d_Br_age_1 ?_
  refine lv_astore_n E1 E2 d_Br_age_4 rfl hl (by decide) rfl (fun ls hl => ?_)
  have hl : lv_has ls 5 [(1, .ref (ad 3 b)), (0, .ref (ad 2 b))] := hl
  refine lv_aload_n E1 E2 d_Br_age_5 rfl (lv_at hl 0 rfl) ?_
  refine an_ports F h (by omega) d_Br_age_6 ?_
  refine lv_istore_n E1 E2 d_Br_age_7 rfl hl (by decide) rfl (fun ls hl => ?_)
  have hl : lv_has ls 5 [(2, .int (nI 4)), (1, .ref (ad 3 b)), (0, .ref (ad 2 b))] := hl
  refine lv_iconst (v := 0) E1 E2 d_Br_age_8 (by decide) ?_
  refine lv_istore_n E1 E2 d_Br_age_9 rfl hl (by decide) rfl (fun ls hl => ?_)
  have hl : lv_has ls 5 [(3, .int 0), (2, .int (nI 4)), (1, .ref (ad 3 b)), (0, .ref (ad 2 b))] := hl
  have hs10 : ∀ (Q0 : State → Prop) (k : Nat), k < 4 → ∀ (q : bn_S) (H : Heap) (locs : List Loc) (ls : Array Slot), lv_has ls 5 [(0, .ref (ad 2 b)), (1, .ref (ad 3 b)), (2, .int (nI 4)), (3, .int (nI k))] → bn_H (bn_y D ar ad nf) s.heap H locs q → (∀ (H : Heap) (locs : List Loc) (ls : Array Slot), lv_has ls 5 [(0, .ref (ad 2 b)), (1, .ref (ad 3 b)), (2, .int (nI 4)), (3, .int (nI (k + 1)))] → bn_H (bn_y D ar ad nf) s.heap H locs (bd_Br_age1 b k q) → W p l e { frames := 5, cells := 0, slots := 0, locals := 118 } s m args below meth c H locs 0 0 Q0 (F0 m 10 ls [])) → W p l e { frames := 5, cells := 0, slots := 0, locals := 118 } s m args below meth c H locs 0 0 Q0 (F0 m 10 ls []) := by
    intro Q0 k hkk q H locs ls hl h kk
    refine lv_iload_n E1 E2 d_Br_age_10 rfl (lv_at hl 3 rfl) ?_
    refine lv_iload_n E1 E2 d_Br_age_11 rfl (lv_at hl 2 rfl) ?_
    refine lv_icmp_ge E1 E2 d_Br_age_12 rfl (fun hz => absurd ((nI_leI (a := 4) (b := k) (by omega) (by omega)).mp hz) (by omega)) (fun _ => ?_)
    refine lv_aload_n E1 E2 d_Br_age_15 rfl (lv_at hl 1 rfl) ?_
    refine lv_iload_n E1 E2 d_Br_age_16 rfl (lv_at hl 3 rfl) ?_
    refine al_ports F h (by omega) (i := k) (by omega) d_Br_age_17 ?_
    refine lv_astore E1 E2 d_Br_age_18 hl (by decide) rfl (fun ls hl => ?_)
    have hl : lv_has ls 5 [(4, .ref (ad 6 (4 * b + k))), (0, .ref (ad 2 b)), (1, .ref (ad 3 b)), (2, .int (nI 4)), (3, .int (nI k))] := hl
    refine lv_aload E1 E2 d_Br_age_20 (lv_at hl 0 rfl) ?_
    refine bn_callv F h (bn_runV (n := 0) (As := []) (rest := []) F hml hl.1 h (mm_6 (by omega)) rfl rfl (c_Po_ageInfo l D ar ad nf q (4 * b + k) (by omega) _) (bn_goodV k_363 k_364 k_365 k_3 k_366) rfl rfl (by decide) ⟨by decide, by decide⟩ rfl rfl (Nat.le_of_ble_eq_true rfl) d_Br_age_22 ⟨Nat.zero_le _, Nat.zero_le _⟩) (fun H locs h => ?_)
    have h : bn_H (bn_y D ar ad nf) s.heap H locs (o_Po_ageInfo q (4 * b + k)) := h
    refine lv_iinc (v := (nI (k + 1))) E1 E2 d_Br_age_25 hl (k := 4) rfl (nI_1 _) (by decide) rfl (fun ls hl => ?_)
    have hl : lv_has ls 5 [(3, .int (nI (k + 1))), (4, .ref (ad 6 (4 * b + k))), (0, .ref (ad 2 b)), (1, .ref (ad 3 b)), (2, .int (nI 4))] := hl
    refine lv_goto E1 E2 d_Br_age_28 rfl ?_
    have hq : (bd_Br_age1 b k q) = (o_Po_ageInfo q (4 * b + k)) := rfl
    rw [hq] at kk
    exact kk _ _ ls (lv_sub hl [2, 3, 4, 0] rfl) h
  refine hs10 _ 0 (by decide) (it_Br_age1 b N 0) _ _ ls (lv_sub hl [3, 2, 1, 0] rfl) h (fun H locs ls hl h => ?_)
  rw [it_Br_age1_s] at h
  refine hs10 _ 1 (by decide) (it_Br_age1 b N 1) _ _ ls hl h (fun H locs ls hl h => ?_)
  rw [it_Br_age1_s] at h
  refine hs10 _ 2 (by decide) (it_Br_age1 b N 2) _ _ ls hl h (fun H locs ls hl h => ?_)
  rw [it_Br_age1_s] at h
  refine hs10 _ 3 (by decide) (it_Br_age1 b N 3) _ _ ls hl h (fun H locs ls hl h => ?_)
  rw [it_Br_age1_s] at h
  have hl : lv_has ls 5 [(0, .ref (ad 2 b)), (1, .ref (ad 3 b)), (2, .int (nI 4)), (3, .int (nI 4))] := hl
  have h : bn_H (bn_y D ar ad nf) s.heap H locs (it_Br_age1 b N 4) := h
  refine lv_iload_n E1 E2 d_Br_age_10 rfl (lv_at hl 3 rfl) ?_
  refine lv_iload_n E1 E2 d_Br_age_11 rfl (lv_at hl 2 rfl) ?_
  refine lv_icmp_ge E1 E2 d_Br_age_12 rfl (fun _ => ?_) (fun hz => absurd ((nI_leI (a := 4) (b := 4) (by omega) (by omega)).mpr (by omega)) hz)
  refine lv_iconst (v := 0) E1 E2 d_Br_age_31 (by decide) ?_
  refine lv_istore_n E1 E2 d_Br_age_32 rfl hl (by decide) rfl (fun ls hl => ?_)
  have hl : lv_has ls 5 [(1, .int 0), (0, .ref (ad 2 b)), (2, .int (nI 4)), (3, .int (nI 4))] := hl
  have hs33 : ∀ (Q0 : State → Prop) (k : Nat), k < 16 → ∀ (q : bn_S) (H : Heap) (locs : List Loc) (ls : Array Slot), lv_has ls 5 [(0, .ref (ad 2 b)), (1, .int (nI k))] → bn_H (bn_y D ar ad nf) s.heap H locs q → (∀ (H : Heap) (locs : List Loc) (ls : Array Slot), lv_has ls 5 [(0, .ref (ad 2 b)), (1, .int (nI (k + 1)))] → bn_H (bn_y D ar ad nf) s.heap H locs (bd_Br_age2 b k q) → W p l e { frames := 5, cells := 0, slots := 0, locals := 118 } s m args below meth c H locs 0 0 Q0 (F0 m 33 ls [])) → W p l e { frames := 5, cells := 0, slots := 0, locals := 118 } s m args below meth c H locs 0 0 Q0 (F0 m 33 ls []) := by
    intro Q0 k hkk q H locs ls hl h kk
    refine lv_iload_n E1 E2 d_Br_age_33 rfl (lv_at hl 1 rfl) ?_
    refine lv_aload_n E1 E2 d_Br_age_34 rfl (lv_at hl 0 rfl) ?_
    refine g_Br_placeLives F h (by omega) k_45 d_Br_age_35 ?_
    refine an_lives F h (by omega) d_Br_age_38 ?_
    refine lv_icmp_ge E1 E2 d_Br_age_39 rfl (fun hz => absurd ((nI_leI (a := 16) (b := k) (by omega) (by omega)).mp hz) (by omega)) (fun _ => ?_)
    refine lv_aload_n E1 E2 d_Br_age_42 rfl (lv_at hl 0 rfl) ?_
    refine g_Br_placeLives F h (by omega) k_45 d_Br_age_43 ?_
    refine lv_iload_n E1 E2 d_Br_age_46 rfl (lv_at hl 1 rfl) ?_
    refine lv_iconst (v := 0) E1 E2 d_Br_age_47 (by decide) ?_
    refine lv_aload_n E1 E2 d_Br_age_48 rfl (lv_at hl 0 rfl) ?_
    refine g_Br_placeLives F h (by omega) k_45 d_Br_age_49 ?_
    refine lv_iload_n E1 E2 d_Br_age_52 rfl (lv_at hl 1 rfl) ?_
    refine al_lives F h (by omega) (i := k) (v := q.1 (b + 20) k) (by omega) rfl d_Br_age_53 ?_
    refine lv_iconst (v := 1) E1 E2 d_Br_age_54 (by decide) ?_
    refine lv_isub E1 E2 d_Br_age_55 ?_
    refine va_mmax (own := "BridgeNet$Bridge") E1 E2 (by rw [hml]; exact hl.1.symm) F.2.2.1 (F.2.2.2.1 _ k_367) (F.2.2.2.1 _ k_368) (F.2.2.2.1 _ k_16) (F.2.2.2.1 _ k_369) (by decide) (Nat.le_of_ble_eq_true rfl) (Nat.zero_le _) (Nat.zero_le _) d_Br_age_56 ?_
    refine as_lives F h (by omega) (i := k) (v := if 0 < (q.1 (b + 20) k) - 1 then (q.1 (b + 20) k) - 1 else 0) (by omega) d_Br_age_59 (fun H locs h => ?_)
    have h : bn_H (bn_y D ar ad nf) s.heap H locs (sI q (b + 20) k (if 0 < (q.1 (b + 20) k) - 1 then (q.1 (b + 20) k) - 1 else 0)) := h
    refine lv_iinc (v := (nI (k + 1))) E1 E2 d_Br_age_60 hl (k := 1) rfl (nI_1 _) (by decide) rfl (fun ls hl => ?_)
    have hl : lv_has ls 5 [(1, .int (nI (k + 1))), (0, .ref (ad 2 b))] := hl
    refine lv_goto E1 E2 d_Br_age_63 rfl ?_
    have hq : (bd_Br_age2 b k q) = (sI q (b + 20) k (if 0 < (q.1 (b + 20) k) - 1 then (q.1 (b + 20) k) - 1 else 0)) := rfl
    rw [hq] at kk
    exact kk _ _ ls (lv_sub hl [1, 0] rfl) h
  refine hs33 _ 0 (by decide) (it_Br_age2 b (it_Br_age1 b N 4) 0) _ _ ls (lv_sub hl [1, 0] rfl) h (fun H locs ls hl h => ?_)
  rw [it_Br_age2_s] at h
  refine hs33 _ 1 (by decide) (it_Br_age2 b (it_Br_age1 b N 4) 1) _ _ ls hl h (fun H locs ls hl h => ?_)
  rw [it_Br_age2_s] at h
  refine hs33 _ 2 (by decide) (it_Br_age2 b (it_Br_age1 b N 4) 2) _ _ ls hl h (fun H locs ls hl h => ?_)
  rw [it_Br_age2_s] at h
  refine hs33 _ 3 (by decide) (it_Br_age2 b (it_Br_age1 b N 4) 3) _ _ ls hl h (fun H locs ls hl h => ?_)
  rw [it_Br_age2_s] at h
  refine hs33 _ 4 (by decide) (it_Br_age2 b (it_Br_age1 b N 4) 4) _ _ ls hl h (fun H locs ls hl h => ?_)
  rw [it_Br_age2_s] at h
  refine hs33 _ 5 (by decide) (it_Br_age2 b (it_Br_age1 b N 4) 5) _ _ ls hl h (fun H locs ls hl h => ?_)
  rw [it_Br_age2_s] at h
  refine hs33 _ 6 (by decide) (it_Br_age2 b (it_Br_age1 b N 4) 6) _ _ ls hl h (fun H locs ls hl h => ?_)
  rw [it_Br_age2_s] at h
  refine hs33 _ 7 (by decide) (it_Br_age2 b (it_Br_age1 b N 4) 7) _ _ ls hl h (fun H locs ls hl h => ?_)
  rw [it_Br_age2_s] at h
  refine hs33 _ 8 (by decide) (it_Br_age2 b (it_Br_age1 b N 4) 8) _ _ ls hl h (fun H locs ls hl h => ?_)
  rw [it_Br_age2_s] at h
  refine hs33 _ 9 (by decide) (it_Br_age2 b (it_Br_age1 b N 4) 9) _ _ ls hl h (fun H locs ls hl h => ?_)
  rw [it_Br_age2_s] at h
  refine hs33 _ 10 (by decide) (it_Br_age2 b (it_Br_age1 b N 4) 10) _ _ ls hl h (fun H locs ls hl h => ?_)
  rw [it_Br_age2_s] at h
  refine hs33 _ 11 (by decide) (it_Br_age2 b (it_Br_age1 b N 4) 11) _ _ ls hl h (fun H locs ls hl h => ?_)
  rw [it_Br_age2_s] at h
  refine hs33 _ 12 (by decide) (it_Br_age2 b (it_Br_age1 b N 4) 12) _ _ ls hl h (fun H locs ls hl h => ?_)
  rw [it_Br_age2_s] at h
  refine hs33 _ 13 (by decide) (it_Br_age2 b (it_Br_age1 b N 4) 13) _ _ ls hl h (fun H locs ls hl h => ?_)
  rw [it_Br_age2_s] at h
  refine hs33 _ 14 (by decide) (it_Br_age2 b (it_Br_age1 b N 4) 14) _ _ ls hl h (fun H locs ls hl h => ?_)
  rw [it_Br_age2_s] at h
  refine hs33 _ 15 (by decide) (it_Br_age2 b (it_Br_age1 b N 4) 15) _ _ ls hl h (fun H locs ls hl h => ?_)
  rw [it_Br_age2_s] at h
  have hl : lv_has ls 5 [(0, .ref (ad 2 b)), (1, .int (nI 16))] := hl
  have h : bn_H (bn_y D ar ad nf) s.heap H locs (it_Br_age2 b (it_Br_age1 b N 4) 16) := h
  refine lv_iload_n E1 E2 d_Br_age_33 rfl (lv_at hl 1 rfl) ?_
  refine lv_aload_n E1 E2 d_Br_age_34 rfl (lv_at hl 0 rfl) ?_
  refine g_Br_placeLives F h (by omega) k_45 d_Br_age_35 ?_
  refine an_lives F h (by omega) d_Br_age_38 ?_
  refine lv_icmp_ge E1 E2 d_Br_age_39 rfl (fun _ => ?_) (fun hz => absurd ((nI_leI (a := 16) (b := 16) (by omega) (by omega)).mpr (by omega)) hz)
  refine lv_aload_n E1 E2 d_Br_age_66 rfl (lv_at hl 0 rfl) ?_
  refine g_Br_ports F h (by omega) k_38 d_Br_age_67 ?_
  refine lv_astore_n E1 E2 d_Br_age_70 rfl hl (by decide) rfl (fun ls hl => ?_)
  have hl : lv_has ls 5 [(1, .ref (ad 3 b)), (0, .ref (ad 2 b))] := hl
  refine lv_aload_n E1 E2 d_Br_age_71 rfl (lv_at hl 0 rfl) ?_
  refine an_ports F h (by omega) d_Br_age_72 ?_
  refine lv_istore_n E1 E2 d_Br_age_73 rfl hl (by decide) rfl (fun ls hl => ?_)
  have hl : lv_has ls 5 [(2, .int (nI 4)), (1, .ref (ad 3 b)), (0, .ref (ad 2 b))] := hl
  refine lv_iconst (v := 0) E1 E2 d_Br_age_74 (by decide) ?_
  refine lv_istore_n E1 E2 d_Br_age_75 rfl hl (by decide) rfl (fun ls hl => ?_)
  have hl : lv_has ls 5 [(3, .int 0), (2, .int (nI 4)), (1, .ref (ad 3 b)), (0, .ref (ad 2 b))] := hl
  have hs76 : ∀ (Q0 : State → Prop) (k : Nat), k < 4 → ∀ (q : bn_S) (H : Heap) (locs : List Loc) (ls : Array Slot), lv_has ls 5 [(0, .ref (ad 2 b)), (1, .ref (ad 3 b)), (2, .int (nI 4)), (3, .int (nI k))] → bn_H (bn_y D ar ad nf) s.heap H locs q → (∀ (H : Heap) (locs : List Loc) (ls : Array Slot), lv_has ls 5 [(0, .ref (ad 2 b)), (1, .ref (ad 3 b)), (2, .int (nI 4)), (3, .int (nI (k + 1)))] → bn_H (bn_y D ar ad nf) s.heap H locs (bd_Br_age3 b k q) → W p l e { frames := 5, cells := 0, slots := 0, locals := 118 } s m args below meth c H locs 0 0 Q0 (F0 m 76 ls [])) → W p l e { frames := 5, cells := 0, slots := 0, locals := 118 } s m args below meth c H locs 0 0 Q0 (F0 m 76 ls []) := by
    intro Q0 k hkk q H locs ls hl h kk
    refine lv_iload_n E1 E2 d_Br_age_76 rfl (lv_at hl 3 rfl) ?_
    refine lv_iload_n E1 E2 d_Br_age_77 rfl (lv_at hl 2 rfl) ?_
    refine lv_icmp_ge E1 E2 d_Br_age_78 rfl (fun hz => absurd ((nI_leI (a := 4) (b := k) (by omega) (by omega)).mp hz) (by omega)) (fun _ => ?_)
    refine lv_aload_n E1 E2 d_Br_age_81 rfl (lv_at hl 1 rfl) ?_
    refine lv_iload_n E1 E2 d_Br_age_82 rfl (lv_at hl 3 rfl) ?_
    refine al_ports F h (by omega) (i := k) (by omega) d_Br_age_83 ?_
    refine lv_astore E1 E2 d_Br_age_84 hl (by decide) rfl (fun ls hl => ?_)
    have hl : lv_has ls 5 [(4, .ref (ad 6 (4 * b + k))), (0, .ref (ad 2 b)), (1, .ref (ad 3 b)), (2, .int (nI 4)), (3, .int (nI k))] := hl
    refine lv_aload E1 E2 d_Br_age_86 (lv_at hl 0 rfl) ?_
    refine bn_callv F h (bn_runV (n := 0) (As := []) (rest := []) F hml hl.1 h (mm_6 (by omega)) rfl rfl (c_Po_ageWait l D ar ad nf q (4 * b + k) (by omega) _) (bn_goodV k_370 k_371 k_372 k_3 k_373) rfl rfl (by decide) ⟨by decide, by decide⟩ rfl rfl (Nat.le_of_ble_eq_true rfl) d_Br_age_88 ⟨Nat.zero_le _, Nat.zero_le _⟩) (fun H locs h => ?_)
    have h : bn_H (bn_y D ar ad nf) s.heap H locs (o_Po_ageWait q (4 * b + k)) := h
    refine lv_iinc (v := (nI (k + 1))) E1 E2 d_Br_age_91 hl (k := 4) rfl (nI_1 _) (by decide) rfl (fun ls hl => ?_)
    have hl : lv_has ls 5 [(3, .int (nI (k + 1))), (4, .ref (ad 6 (4 * b + k))), (0, .ref (ad 2 b)), (1, .ref (ad 3 b)), (2, .int (nI 4))] := hl
    refine lv_goto E1 E2 d_Br_age_94 rfl ?_
    have hq : (bd_Br_age3 b k q) = (o_Po_ageWait q (4 * b + k)) := rfl
    rw [hq] at kk
    exact kk _ _ ls (lv_sub hl [2, 3, 4, 0] rfl) h
  refine hs76 _ 0 (by decide) (it_Br_age3 b (it_Br_age2 b (it_Br_age1 b N 4) 16) 0) _ _ ls (lv_sub hl [3, 2, 1, 0] rfl) h (fun H locs ls hl h => ?_)
  rw [it_Br_age3_s] at h
  refine hs76 _ 1 (by decide) (it_Br_age3 b (it_Br_age2 b (it_Br_age1 b N 4) 16) 1) _ _ ls hl h (fun H locs ls hl h => ?_)
  rw [it_Br_age3_s] at h
  refine hs76 _ 2 (by decide) (it_Br_age3 b (it_Br_age2 b (it_Br_age1 b N 4) 16) 2) _ _ ls hl h (fun H locs ls hl h => ?_)
  rw [it_Br_age3_s] at h
  refine hs76 _ 3 (by decide) (it_Br_age3 b (it_Br_age2 b (it_Br_age1 b N 4) 16) 3) _ _ ls hl h (fun H locs ls hl h => ?_)
  rw [it_Br_age3_s] at h
  have hl : lv_has ls 5 [(0, .ref (ad 2 b)), (1, .ref (ad 3 b)), (2, .int (nI 4)), (3, .int (nI 4))] := hl
  have h : bn_H (bn_y D ar ad nf) s.heap H locs (it_Br_age3 b (it_Br_age2 b (it_Br_age1 b N 4) 16) 4) := h
  refine lv_iload_n E1 E2 d_Br_age_76 rfl (lv_at hl 3 rfl) ?_
  refine lv_iload_n E1 E2 d_Br_age_77 rfl (lv_at hl 2 rfl) ?_
  refine lv_icmp_ge E1 E2 d_Br_age_78 rfl (fun _ => ?_) (fun hz => absurd ((nI_leI (a := 4) (b := 4) (by omega) (by omega)).mpr (by omega)) hz)
  refine lv_aload_n E1 E2 d_Br_age_97 rfl (lv_at hl 0 rfl) ?_
  refine bn_callv F h (bn_runV (n := 0) (As := []) (rest := []) F hml hl.1 h (mm_2 (by omega)) rfl rfl (c_Br_compute l D ar ad nf (it_Br_age3 b (it_Br_age2 b (it_Br_age1 b N 4) 16) 4) b (by omega) _) (bn_goodV k_379 k_249 k_250 k_2 k_251) rfl rfl (by decide) ⟨by decide, by decide⟩ rfl rfl (Nat.le_of_ble_eq_true rfl) d_Br_age_98 ⟨Nat.zero_le _, Nat.zero_le _⟩) (fun H locs h => ?_)
  have h : bn_H (bn_y D ar ad nf) s.heap H locs (o_Br_compute (it_Br_age3 b (it_Br_age2 b (it_Br_age1 b N 4) 16) 4) b) := h
  have hq : o_Br_age N b = (o_Br_compute (it_Br_age3 b (it_Br_age2 b (it_Br_age1 b N 4) 16) 4) b) := rfl
  exact bn_retv F hr hk h hq.symm d_Br_age_101
