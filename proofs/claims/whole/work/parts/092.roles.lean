/-! contracts of the class, written by wip/whole/gen_class.py -/
def bd_Br_giveRoles (b : Nat) (k : Nat) (q : Nat × bn_S) : Nat × bn_S := (if r_Br_dueRole (q.2) b (4 * b + k) = (q.2).1 9 (4 * b + k) then (q.1, q.2) else (1, (o_Po_become (q.2) (4 * b + k) (r_Br_dueRole (q.2) b (4 * b + k)))))
def it_Br_giveRoles (b : Nat) (q0 : Nat × bn_S) : Nat → Nat × bn_S
  | 0 => q0
  | k + 1 => bd_Br_giveRoles b k (it_Br_giveRoles b q0 k)
theorem it_Br_giveRoles_s (b : Nat) (q0 : Nat × bn_S) (k : Nat) : bd_Br_giveRoles b k (it_Br_giveRoles b q0 k) = it_Br_giveRoles b q0 (k + 1) := rfl
def o_Br_giveRoles (N : bn_S) (b : Nat) : Int32 × bn_S := (nI ((it_Br_giveRoles b (0, N) 4).1), (it_Br_giveRoles b (0, N) 4).2)
set_option maxHeartbeats 4000000 in
set_option maxRecDepth 100000 in
theorem c_Br_giveRoles (l : Launch) (D : va_G) (ar : Nat → ClassId) (ad : Nat → Nat → Nat) (nf : Nat) (N : bn_S) (b : Nat) (hb : b < 5) : bn_I l y_Br_giveRoles w_Br_giveRoles { frames := 3, cells := 0, slots := 0, locals := 65 } (bn_y D ar ad nf) N [.ref (ad 2 b)] (o_Br_giveRoles N b).1 (o_Br_giveRoles N b).2 := by
  intro sz
  refine bn_start (cc := b_Br_giveRoles) (maxL := 7) (ret := (Option.some Jvm.ClassFile.FieldType.boolean)) (by decide) rfl (Nat.le_of_ble_eq_true rfl) ?_
  intro p e s m args below meth c ls hsz F hml hr hk hl h
  subst hsz
  have E1 := F.1
  have E2 := F.2.1
  have hl : lv_has ls 7 [(0, .ref (ad 2 b))] := hl
  refine lv_iconst (v := 0) E1 E2 d_Br_giveRoles_0 (by decide) ?_
  refine lv_istore_n E1 E2 d_Br_giveRoles_1 rfl hl (by decide) rfl (fun ls hl => ?_)
  have hl : lv_has ls 7 [(1, .int 0), (0, .ref (ad 2 b))] := hl
  refine lv_aload_n E1 E2 d_Br_giveRoles_2 rfl (lv_at hl 1 rfl) ?_
  refine g_Br_ports F h (by omega) k_38 d_Br_giveRoles_3 ?_
  refine lv_astore_n E1 E2 d_Br_giveRoles_6 rfl hl (by decide) rfl (fun ls hl => ?_)
  have hl : lv_has ls 7 [(2, .ref (ad 3 b)), (1, .int 0), (0, .ref (ad 2 b))] := hl
  refine lv_aload_n E1 E2 d_Br_giveRoles_7 rfl (lv_at hl 0 rfl) ?_
  refine an_ports F h (by omega) d_Br_giveRoles_8 ?_
  refine lv_istore_n E1 E2 d_Br_giveRoles_9 rfl hl (by decide) rfl (fun ls hl => ?_)
  have hl : lv_has ls 7 [(3, .int (nI 4)), (2, .ref (ad 3 b)), (1, .int 0), (0, .ref (ad 2 b))] := hl
  refine lv_iconst (v := 0) E1 E2 d_Br_giveRoles_10 (by decide) ?_
  refine lv_istore E1 E2 d_Br_giveRoles_11 hl (by decide) rfl (fun ls hl => ?_)
  have hl : lv_has ls 7 [(4, .int 0), (3, .int (nI 4)), (2, .ref (ad 3 b)), (1, .int 0), (0, .ref (ad 2 b))] := hl
  have hs13 : ∀ (Q0 : State → Prop) (k : Nat), k < 4 → ∀ (q : Nat × bn_S) (H : Heap) (locs : List Loc) (ls : Array Slot), lv_has ls 7 [(0, .ref (ad 2 b)), (1, .int (nI (q.1))), (2, .ref (ad 3 b)), (3, .int (nI 4)), (4, .int (nI k))] → bn_H (bn_y D ar ad nf) s.heap H locs q.2 → q.1 < 2 → (∀ (H : Heap) (locs : List Loc) (ls : Array Slot), lv_has ls 7 [(0, .ref (ad 2 b)), (1, .int (nI ((bd_Br_giveRoles b k q).1))), (2, .ref (ad 3 b)), (3, .int (nI 4)), (4, .int (nI (k + 1)))] → bn_H (bn_y D ar ad nf) s.heap H locs (bd_Br_giveRoles b k q).2 → (bd_Br_giveRoles b k q).1 < 2 → W p l e { frames := 3, cells := 0, slots := 0, locals := 65 } s m args below meth c H locs 0 0 Q0 (F0 m 13 ls [])) → W p l e { frames := 3, cells := 0, slots := 0, locals := 65 } s m args below meth c H locs 0 0 Q0 (F0 m 13 ls []) := by
    intro Q0 k hkk q H locs ls hl h hqb kk
    refine lv_iload E1 E2 d_Br_giveRoles_13 (lv_at hl 4 rfl) ?_
    refine lv_iload_n E1 E2 d_Br_giveRoles_15 rfl (lv_at hl 3 rfl) ?_
    refine lv_icmp_ge E1 E2 d_Br_giveRoles_16 rfl (fun hz => absurd ((nI_leI (a := 4) (b := k) (by omega) (by omega)).mp hz) (by omega)) (fun _ => ?_)
    refine lv_aload_n E1 E2 d_Br_giveRoles_19 rfl (lv_at hl 2 rfl) ?_
    refine lv_iload E1 E2 d_Br_giveRoles_20 (lv_at hl 4 rfl) ?_
    refine al_ports F h (by omega) (i := k) (by omega) d_Br_giveRoles_22 ?_
    refine lv_astore E1 E2 d_Br_giveRoles_23 hl (by decide) rfl (fun ls hl => ?_)
    have hl : lv_has ls 7 [(5, .ref (ad 6 (4 * b + k))), (0, .ref (ad 2 b)), (1, .int (nI (q.1))), (2, .ref (ad 3 b)), (3, .int (nI 4)), (4, .int (nI k))] := hl
    refine lv_aload_n E1 E2 d_Br_giveRoles_25 rfl (lv_at hl 1 rfl) ?_
    refine lv_aload E1 E2 d_Br_giveRoles_26 (lv_at hl 0 rfl) ?_
    refine bn_calli F h (bn_runV (n := 1) (As := [.ref (ad 6 (4 * b + k))]) (rest := []) F hml hl.1 h (mm_2 (by omega)) rfl rfl (c_Br_dueRole l D ar ad nf (q.2) b (by omega) (4 * b + k) (by omega) _) (bn_goodV k_280 k_282 ks_Br_dueRole k_2 k_283) rfl rfl (by decide) ⟨by decide, by decide⟩ rfl rfl (Nat.le_of_ble_eq_true rfl) d_Br_giveRoles_28 ⟨Nat.zero_le _, Nat.zero_le _⟩) (fun H locs h => ?_)
    refine lv_istore E1 E2 d_Br_giveRoles_31 hl (by decide) rfl (fun ls hl => ?_)
    have hl : lv_has ls 7 [(6, .int (r_Br_dueRole (q.2) b (4 * b + k))), (5, .ref (ad 6 (4 * b + k))), (0, .ref (ad 2 b)), (1, .int (nI (q.1))), (2, .ref (ad 3 b)), (3, .int (nI 4)), (4, .int (nI k))] := hl
    refine lv_iload E1 E2 d_Br_giveRoles_33 (lv_at hl 0 rfl) ?_
    refine lv_aload E1 E2 d_Br_giveRoles_35 (lv_at hl 1 rfl) ?_
    refine g_Po_role F h (by omega) k_156 (v := (q.2).1 9 (4 * b + k)) rfl d_Br_giveRoles_37 ?_
    refine lv_icmp_eq E1 E2 d_Br_giveRoles_40 rfl (fun h1 => ?_) (fun h1 => ?_)
    · have h1 : r_Br_dueRole (q.2) b (4 * b + k) = (q.2).1 9 (4 * b + k) := h1
      refine lv_iinc (v := (nI (k + 1))) E1 E2 d_Br_giveRoles_52 hl (k := 6) rfl (nI_1 _) (by decide) rfl (fun ls hl => ?_)
      have hl : lv_has ls 7 [(4, .int (nI (k + 1))), (6, .int (r_Br_dueRole (q.2) b (4 * b + k))), (5, .ref (ad 6 (4 * b + k))), (0, .ref (ad 2 b)), (1, .int (nI (q.1))), (2, .ref (ad 3 b)), (3, .int (nI 4))] := hl
      refine lv_goto E1 E2 d_Br_giveRoles_55 rfl ?_
      have hq : (bd_Br_giveRoles b k q) = (q.1, q.2) := if_pos h1
      rw [hq] at kk
      exact kk _ _ ls (lv_sub hl [3, 4, 5, 6, 0] rfl) h hqb
    · have h1 : ¬ (r_Br_dueRole (q.2) b (4 * b + k) = (q.2).1 9 (4 * b + k)) := h1
      refine lv_aload E1 E2 d_Br_giveRoles_43 (lv_at hl 1 rfl) ?_
      refine lv_iload E1 E2 d_Br_giveRoles_45 (lv_at hl 0 rfl) ?_
      refine bn_callv F h (bn_runV (n := 1) (As := [.int (r_Br_dueRole (q.2) b (4 * b + k))]) (rest := []) F hml hl.1 h (mm_6 (by omega)) rfl rfl (c_Po_become l D ar ad nf (q.2) (4 * b + k) (by omega) (r_Br_dueRole (q.2) b (4 * b + k)) _) (bn_goodV k_288 k_289 k_290 k_3 k_291) rfl rfl (by decide) ⟨by decide, by decide⟩ rfl rfl (Nat.le_of_ble_eq_true rfl) d_Br_giveRoles_47 ⟨Nat.zero_le _, Nat.zero_le _⟩) (fun H locs h => ?_)
      have h : bn_H (bn_y D ar ad nf) s.heap H locs (o_Po_become (q.2) (4 * b + k) (r_Br_dueRole (q.2) b (4 * b + k))) := h
      refine lv_iconst (v := 1) E1 E2 d_Br_giveRoles_50 (by decide) ?_
      refine lv_istore_n E1 E2 d_Br_giveRoles_51 rfl hl (by decide) rfl (fun ls hl => ?_)
      have hl : lv_has ls 7 [(1, .int 1), (6, .int (r_Br_dueRole (q.2) b (4 * b + k))), (5, .ref (ad 6 (4 * b + k))), (0, .ref (ad 2 b)), (2, .ref (ad 3 b)), (3, .int (nI 4)), (4, .int (nI k))] := hl
      refine lv_iinc (v := (nI (k + 1))) E1 E2 d_Br_giveRoles_52 hl (k := 6) rfl (nI_1 _) (by decide) rfl (fun ls hl => ?_)
      have hl : lv_has ls 7 [(4, .int (nI (k + 1))), (1, .int 1), (6, .int (r_Br_dueRole (q.2) b (4 * b + k))), (5, .ref (ad 6 (4 * b + k))), (0, .ref (ad 2 b)), (2, .ref (ad 3 b)), (3, .int (nI 4))] := hl
      refine lv_goto E1 E2 d_Br_giveRoles_55 rfl ?_
      have hq : (bd_Br_giveRoles b k q) = (1, (o_Po_become (q.2) (4 * b + k) (r_Br_dueRole (q.2) b (4 * b + k)))) := if_neg h1
      rw [hq] at kk
      exact kk _ _ ls (lv_sub hl [4, 1, 5, 6, 0] rfl) h (show 1 < 2 by decide)
  refine hs13 _ 0 (by decide) (it_Br_giveRoles b (0, N) 0) _ _ ls (lv_sub hl [4, 3, 2, 1, 0] rfl) h (show 0 < 2 by decide) (fun H locs ls hl h hqb => ?_)
  rw [it_Br_giveRoles_s] at hl h hqb
  refine hs13 _ 1 (by decide) (it_Br_giveRoles b (0, N) 1) _ _ ls hl h hqb (fun H locs ls hl h hqb => ?_)
  rw [it_Br_giveRoles_s] at hl h hqb
  refine hs13 _ 2 (by decide) (it_Br_giveRoles b (0, N) 2) _ _ ls hl h hqb (fun H locs ls hl h hqb => ?_)
  rw [it_Br_giveRoles_s] at hl h hqb
  refine hs13 _ 3 (by decide) (it_Br_giveRoles b (0, N) 3) _ _ ls hl h hqb (fun H locs ls hl h hqb => ?_)
  rw [it_Br_giveRoles_s] at hl h hqb
  have hl : lv_has ls 7 [(0, .ref (ad 2 b)), (1, .int (nI ((it_Br_giveRoles b (0, N) 4).1))), (2, .ref (ad 3 b)), (3, .int (nI 4)), (4, .int (nI 4))] := hl
  have h : bn_H (bn_y D ar ad nf) s.heap H locs (it_Br_giveRoles b (0, N) 4).2 := h
  have hqb : (it_Br_giveRoles b (0, N) 4).1 < 2 := hqb
  refine lv_iload E1 E2 d_Br_giveRoles_13 (lv_at hl 4 rfl) ?_
  refine lv_iload_n E1 E2 d_Br_giveRoles_15 rfl (lv_at hl 3 rfl) ?_
  refine lv_icmp_ge E1 E2 d_Br_giveRoles_16 rfl (fun _ => ?_) (fun hz => absurd ((nI_leI (a := 4) (b := 4) (by omega) (by omega)).mpr (by omega)) hz)
  refine lv_iload_n E1 E2 d_Br_giveRoles_58 rfl (lv_at hl 1 rfl) ?_
  have hq : o_Br_giveRoles N b = (nI ((it_Br_giveRoles b (0, N) 4).1), (it_Br_giveRoles b (0, N) 4).2) := rfl
  exact bn_retz2 F hr (bn_nz hqb) hk h hq d_Br_giveRoles_59
