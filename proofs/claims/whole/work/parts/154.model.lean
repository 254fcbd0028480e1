/-! contracts of the reference, written by wip/whole/gen_model.py -/
def bd_Mo_clear (x : Nat) (k : Nat) (q : bn_S) : bn_S := (if (q.2.1 26 (16 * (x / 4) + k)) = (x % 4) then (sI q 25 (16 * (x / 4) + k) 0) else (sI q 25 (16 * (x / 4) + k) (q.1 25 (16 * (x / 4) + k))))
def it_Mo_clear (x : Nat) (q0 : bn_S) : Nat → bn_S
  | 0 => q0
  | k + 1 => bd_Mo_clear x k (it_Mo_clear x q0 k)
theorem it_Mo_clear_0 (x : Nat) (q0 : bn_S) : bd_Mo_clear x 0 q0 = it_Mo_clear x q0 1 := rfl
theorem it_Mo_clear_s (x : Nat) (q0 : bn_S) (k : Nat) : bd_Mo_clear x k (it_Mo_clear x q0 k) = it_Mo_clear x q0 (k + 1) := rfl
def o_Mo_clear (N : bn_S) (x : Nat) : bn_S := (it_Mo_clear x (o_Mo_take (sU (sI N 12 x 0) 13 x 0) x 0) 16)
set_option maxHeartbeats 4000000 in
set_option maxRecDepth 100000 in
theorem c_Mo_clear (l : Launch) (D : va_G) (ar : Nat → ClassId) (ad : Nat → Nat → Nat) (N : bn_S)  (x : Nat) (hx : x < 20) : bn_V l y_Mo_clear w_Mo_clear { frames := 2, cells := 0, slots := 0, locals := 43 } (mo_y D ar ad) N [.ref (ad 0 0), .int (nI x)] (o_Mo_clear N x) := by
  intro sz
  refine bn_start (cc := b_Mo_clear) (maxL := 3) (ret := (Option.none : Option Jvm.ClassFile.FieldType)) (by decide) rfl (Nat.le_of_ble_eq_true rfl) ?_
  intro p e s m args below meth c ls hsz F hml hr hk hl h
  subst hsz
  have E1 := F.1
  have E2 := F.2.1
  have hl : lv_has ls 3 [(0, .ref (ad 0 0)), (1, .int (nI x))] := hl
  refine lv_aload_n E1 E2 d_Mo_clear_0 rfl (lv_at hl 0 rfl) ?_
  refine g_Mo_life F h k_714 d_Mo_clear_1 ?_
  refine lv_iload_n E1 E2 d_Mo_clear_4 rfl (lv_at hl 1 rfl) ?_
  refine lv_iconst (v := 0) E1 E2 d_Mo_clear_5 (by decide) ?_
  refine ms_life F h (i := x) (by omega) (v := 0) d_Mo_clear_6 (fun H locs h => ?_)
  have h : bn_H (mo_y D ar ad) s.heap H locs (sI N 12 x 0) := h
  refine lv_aload_n E1 E2 d_Mo_clear_7 rfl (lv_at hl 0 rfl) ?_
  refine g_Mo_lines F h k_715 d_Mo_clear_8 ?_
  refine lv_iload_n E1 E2 d_Mo_clear_11 rfl (lv_at hl 1 rfl) ?_
  refine lv_iconst (v := 0) E1 E2 d_Mo_clear_12 (by decide) ?_
  refine ms_lines F h (i := x) (by omega) (v := 0) (by omega) d_Mo_clear_13 (fun H locs h => ?_)
  have h : bn_H (mo_y D ar ad) s.heap H locs (sU (sI N 12 x 0) 13 x 0) := h
  refine lv_aload_n E1 E2 d_Mo_clear_14 rfl (lv_at hl 0 rfl) ?_
  refine lv_iload_n E1 E2 d_Mo_clear_15 rfl (lv_at hl 1 rfl) ?_
  refine lv_iconst (v := 0) E1 E2 d_Mo_clear_16 (by decide) ?_
  refine bn_callv F h (bn_runV (n := 2) (As := [.int (nI x), .int 0]) (rest := []) F hml hl.1 h mi_0 rfl rfl (c_Mo_take l D ar ad (sU (sI N 12 x 0) 13 x 0) x (by omega) 0 _) (bn_goodV k_860 k_862 ks_Mo_take k_7 k_863) rfl rfl (by decide) ⟨by decide, by decide⟩ rfl rfl (Nat.le_of_ble_eq_true rfl) d_Mo_clear_17 ⟨Nat.zero_le _, Nat.zero_le _⟩) (fun H locs h => ?_)
  have h : bn_H (mo_y D ar ad) s.heap H locs (o_Mo_take (sU (sI N 12 x 0) 13 x 0) x 0) := h
  refine lv_bipush (v := 16) E1 E2 d_Mo_clear_20 (by decide) ?_
  refine lv_iload_n E1 E2 d_Mo_clear_22 rfl (lv_at hl 1 rfl) ?_
  refine lv_iconst (v := 4) E1 E2 d_Mo_clear_23 (by decide) ?_
  refine lv_idiv E1 E2 d_Mo_clear_24 (by decide) ?_
  refine bn_ti (y := nI (x / 4)) (pk_div (a := x) (d := 4) (by omega) (by omega) (by omega)) ?_
  refine lv_imul E1 E2 d_Mo_clear_25 ?_
  refine bn_ti (y := nI (16 * (x / 4))) (pk_mul 16 (x / 4)) ?_
  refine lv_istore_n E1 E2 d_Mo_clear_26 rfl hl (by decide) rfl (fun ls hl => ?_)
  have hl : lv_has ls 3 [(2, .int (nI (16 * (x / 4)))), (0, .ref (ad 0 0)), (1, .int (nI x))] := hl
  have hs27 : ∀ (Q0 : State → Prop) (k : Nat), k < 16 → ∀ (q : bn_S) (H : Heap) (locs : List Loc) (ls : Array Slot), lv_has ls 3 [(0, .ref (ad 0 0)), (1, .int (nI x)), (2, .int (nI (16 * (x / 4) + k)))] → bn_H (mo_y D ar ad) s.heap H locs q → (∀ (H : Heap) (locs : List Loc) (ls : Array Slot), lv_has ls 3 [(0, .ref (ad 0 0)), (1, .int (nI x)), (2, .int (nI (16 * (x / 4) + k + 1)))] → bn_H (mo_y D ar ad) s.heap H locs (bd_Mo_clear x k q) → W p l e { frames := 2, cells := 0, slots := 0, locals := 43 } s m args below meth c H locs 0 0 Q0 (F0 m 27 ls [])) → W p l e { frames := 2, cells := 0, slots := 0, locals := 43 } s m args below meth c H locs 0 0 Q0 (F0 m 27 ls []) := by
    intro Q0 k hkk q H locs ls hl h kk
    refine lv_iload_n E1 E2 d_Mo_clear_27 rfl (lv_at hl 2 rfl) ?_
    refine lv_bipush (v := 16) E1 E2 d_Mo_clear_28 (by decide) ?_
    refine lv_iload_n E1 E2 d_Mo_clear_30 rfl (lv_at hl 1 rfl) ?_
    refine lv_iconst (v := 4) E1 E2 d_Mo_clear_31 (by decide) ?_
    refine lv_idiv E1 E2 d_Mo_clear_32 (by decide) ?_
    refine bn_ti (y := nI (x / 4)) (pk_div (a := x) (d := 4) (by omega) (by omega) (by omega)) ?_
    refine lv_imul E1 E2 d_Mo_clear_33 ?_
    refine bn_ti (y := nI (16 * (x / 4))) (pk_mul 16 (x / 4)) ?_
    refine lv_bipush (v := 16) E1 E2 d_Mo_clear_34 (by decide) ?_
    refine lv_iadd E1 E2 d_Mo_clear_36 ?_
    refine bn_ti (y := nI ((16 * (x / 4)) + 16)) (nI_add (16 * (x / 4)) 16) ?_
    refine lv_icmp_ge E1 E2 d_Mo_clear_37 rfl (fun hz => absurd ((nI_leI (a := (16 * (x / 4)) + 16) (b := 16 * (x / 4) + k) (by omega) (by omega)).mp hz) (by omega)) (fun _ => ?_)
    refine lv_aload_n E1 E2 d_Mo_clear_40 rfl (lv_at hl 0 rfl) ?_
    refine g_Mo_known F h k_727 d_Mo_clear_41 ?_
    refine lv_iload_n E1 E2 d_Mo_clear_44 rfl (lv_at hl 2 rfl) ?_
    refine lv_aload_n E1 E2 d_Mo_clear_45 rfl (lv_at hl 0 rfl) ?_
    refine g_Mo_behind F h k_728 d_Mo_clear_46 ?_
    refine lv_iload_n E1 E2 d_Mo_clear_49 rfl (lv_at hl 2 rfl) ?_
    refine ml_behind F h (i := 16 * (x / 4) + k) (by omega) (v := q.2.1 26 (16 * (x / 4) + k)) rfl d_Mo_clear_50 ?_
    refine lv_iload_n E1 E2 d_Mo_clear_51 rfl (lv_at hl 1 rfl) ?_
    refine lv_iconst (v := 4) E1 E2 d_Mo_clear_52 (by decide) ?_
    refine lv_irem E1 E2 d_Mo_clear_53 (by decide) ?_
    refine bn_ti (y := nI (x % 4)) (pk_rem (a := x) (d := 4) (by omega) (by omega) (by omega)) ?_
    have hwbehind : q.2.1 26 (16 * (x / 4) + k) < 4 := mw_behind h.2.2.2 (16 * (x / 4) + k)
    refine lv_icmp_ne E1 E2 d_Mo_clear_54 rfl (fun h1 => ?_) (fun h1 => ?_)
    · have h1 : ¬ ((q.2.1 26 (16 * (x / 4) + k)) = (x % 4)) := (fun hw => h1 ((nI_eq (a := q.2.1 26 (16 * (x / 4) + k)) (b := x % 4) (by omega) (by omega)).mpr hw))
      refine lv_aload_n E1 E2 d_Mo_clear_61 rfl (lv_at hl 0 rfl) ?_
      refine g_Mo_known F h k_727 d_Mo_clear_62 ?_
      refine lv_iload_n E1 E2 d_Mo_clear_65 rfl (lv_at hl 2 rfl) ?_
      refine ml_known F h (i := 16 * (x / 4) + k) (by omega) (v := q.1 25 (16 * (x / 4) + k)) rfl d_Mo_clear_66 ?_
      refine ms_known F h (i := 16 * (x / 4) + k) (by omega) (v := q.1 25 (16 * (x / 4) + k)) d_Mo_clear_67 (fun H locs h => ?_)
      have h : bn_H (mo_y D ar ad) s.heap H locs (sI q 25 (16 * (x / 4) + k) (q.1 25 (16 * (x / 4) + k))) := h
      refine lv_iinc (v := (nI (16 * (x / 4) + k + 1))) E1 E2 d_Mo_clear_68 hl (k := 2) rfl (nI_1 _) (by decide) rfl (fun ls hl => ?_)
      have hl : lv_has ls 3 [(2, .int (nI (16 * (x / 4) + k + 1))), (0, .ref (ad 0 0)), (1, .int (nI x))] := hl
      refine lv_goto E1 E2 d_Mo_clear_71 rfl ?_
      have hq : (bd_Mo_clear x k q) = (sI q 25 (16 * (x / 4) + k) (q.1 25 (16 * (x / 4) + k))) := if_neg h1
      rw [hq] at kk
      exact kk _ _ ls (lv_sub hl [1, 2, 0] rfl) h
    · have h1 : (q.2.1 26 (16 * (x / 4) + k)) = (x % 4) := ((nI_eq (a := q.2.1 26 (16 * (x / 4) + k)) (b := x % 4) (by omega) (by omega)).mp h1)
      refine lv_iconst (v := 0) E1 E2 d_Mo_clear_57 (by decide) ?_
      refine lv_goto E1 E2 d_Mo_clear_58 rfl ?_
      refine ms_known F h (i := 16 * (x / 4) + k) (by omega) (v := 0) d_Mo_clear_67 (fun H locs h => ?_)
      have h : bn_H (mo_y D ar ad) s.heap H locs (sI q 25 (16 * (x / 4) + k) 0) := h
      refine lv_iinc (v := (nI (16 * (x / 4) + k + 1))) E1 E2 d_Mo_clear_68 hl (k := 2) rfl (nI_1 _) (by decide) rfl (fun ls hl => ?_)
      have hl : lv_has ls 3 [(2, .int (nI (16 * (x / 4) + k + 1))), (0, .ref (ad 0 0)), (1, .int (nI x))] := hl
      refine lv_goto E1 E2 d_Mo_clear_71 rfl ?_
      have hq : (bd_Mo_clear x k q) = (sI q 25 (16 * (x / 4) + k) 0) := if_pos h1
      rw [hq] at kk
      exact kk _ _ ls (lv_sub hl [1, 2, 0] rfl) h
  refine hs27 _ 0 (by decide) (o_Mo_take (sU (sI N 12 x 0) 13 x 0) x 0) _ _ ls (lv_sub hl [1, 2, 0] rfl) h (fun H locs ls hl h => ?_)
  rw [it_Mo_clear_0] at h
  refine hs27 _ 1 (by decide) (it_Mo_clear x (o_Mo_take (sU (sI N 12 x 0) 13 x 0) x 0) 1) _ _ ls hl h (fun H locs ls hl h => ?_)
  rw [it_Mo_clear_s] at h
  refine hs27 _ 2 (by decide) (it_Mo_clear x (o_Mo_take (sU (sI N 12 x 0) 13 x 0) x 0) 2) _ _ ls hl h (fun H locs ls hl h => ?_)
  rw [it_Mo_clear_s] at h
  refine hs27 _ 3 (by decide) (it_Mo_clear x (o_Mo_take (sU (sI N 12 x 0) 13 x 0) x 0) 3) _ _ ls hl h (fun H locs ls hl h => ?_)
  rw [it_Mo_clear_s] at h
  refine hs27 _ 4 (by decide) (it_Mo_clear x (o_Mo_take (sU (sI N 12 x 0) 13 x 0) x 0) 4) _ _ ls hl h (fun H locs ls hl h => ?_)
  rw [it_Mo_clear_s] at h
  refine hs27 _ 5 (by decide) (it_Mo_clear x (o_Mo_take (sU (sI N 12 x 0) 13 x 0) x 0) 5) _ _ ls hl h (fun H locs ls hl h => ?_)
  rw [it_Mo_clear_s] at h
  refine hs27 _ 6 (by decide) (it_Mo_clear x (o_Mo_take (sU (sI N 12 x 0) 13 x 0) x 0) 6) _ _ ls hl h (fun H locs ls hl h => ?_)
  rw [it_Mo_clear_s] at h
  refine hs27 _ 7 (by decide) (it_Mo_clear x (o_Mo_take (sU (sI N 12 x 0) 13 x 0) x 0) 7) _ _ ls hl h (fun H locs ls hl h => ?_)
  rw [it_Mo_clear_s] at h
  refine hs27 _ 8 (by decide) (it_Mo_clear x (o_Mo_take (sU (sI N 12 x 0) 13 x 0) x 0) 8) _ _ ls hl h (fun H locs ls hl h => ?_)
  rw [it_Mo_clear_s] at h
  refine hs27 _ 9 (by decide) (it_Mo_clear x (o_Mo_take (sU (sI N 12 x 0) 13 x 0) x 0) 9) _ _ ls hl h (fun H locs ls hl h => ?_)
  rw [it_Mo_clear_s] at h
  refine hs27 _ 10 (by decide) (it_Mo_clear x (o_Mo_take (sU (sI N 12 x 0) 13 x 0) x 0) 10) _ _ ls hl h (fun H locs ls hl h => ?_)
  rw [it_Mo_clear_s] at h
  refine hs27 _ 11 (by decide) (it_Mo_clear x (o_Mo_take (sU (sI N 12 x 0) 13 x 0) x 0) 11) _ _ ls hl h (fun H locs ls hl h => ?_)
  rw [it_Mo_clear_s] at h
  refine hs27 _ 12 (by decide) (it_Mo_clear x (o_Mo_take (sU (sI N 12 x 0) 13 x 0) x 0) 12) _ _ ls hl h (fun H locs ls hl h => ?_)
  rw [it_Mo_clear_s] at h
  refine hs27 _ 13 (by decide) (it_Mo_clear x (o_Mo_take (sU (sI N 12 x 0) 13 x 0) x 0) 13) _ _ ls hl h (fun H locs ls hl h => ?_)
  rw [it_Mo_clear_s] at h
  refine hs27 _ 14 (by decide) (it_Mo_clear x (o_Mo_take (sU (sI N 12 x 0) 13 x 0) x 0) 14) _ _ ls hl h (fun H locs ls hl h => ?_)
  rw [it_Mo_clear_s] at h
  refine hs27 _ 15 (by decide) (it_Mo_clear x (o_Mo_take (sU (sI N 12 x 0) 13 x 0) x 0) 15) _ _ ls hl h (fun H locs ls hl h => ?_)
  rw [it_Mo_clear_s] at h
  have hl : lv_has ls 3 [(0, .ref (ad 0 0)), (1, .int (nI x)), (2, .int (nI (16 * (x / 4) + 16)))] := hl
  have h : bn_H (mo_y D ar ad) s.heap H locs (it_Mo_clear x (o_Mo_take (sU (sI N 12 x 0) 13 x 0) x 0) 16) := h
  refine lv_iload_n E1 E2 d_Mo_clear_27 rfl (lv_at hl 2 rfl) ?_
  refine lv_bipush (v := 16) E1 E2 d_Mo_clear_28 (by decide) ?_
  refine lv_iload_n E1 E2 d_Mo_clear_30 rfl (lv_at hl 1 rfl) ?_
  refine lv_iconst (v := 4) E1 E2 d_Mo_clear_31 (by decide) ?_
  refine lv_idiv E1 E2 d_Mo_clear_32 (by decide) ?_
  refine bn_ti (y := nI (x / 4)) (pk_div (a := x) (d := 4) (by omega) (by omega) (by omega)) ?_
  refine lv_imul E1 E2 d_Mo_clear_33 ?_
  refine bn_ti (y := nI (16 * (x / 4))) (pk_mul 16 (x / 4)) ?_
  refine lv_bipush (v := 16) E1 E2 d_Mo_clear_34 (by decide) ?_
  refine lv_iadd E1 E2 d_Mo_clear_36 ?_
  refine bn_ti (y := nI ((16 * (x / 4)) + 16)) (nI_add (16 * (x / 4)) 16) ?_
  refine lv_icmp_ge E1 E2 d_Mo_clear_37 rfl (fun _ => ?_) (fun hz => absurd ((nI_leI (a := (16 * (x / 4)) + 16) (b := 16 * (x / 4) + 16) (by omega) (by omega)).mpr (by omega)) hz)
  have hq : o_Mo_clear N x = (it_Mo_clear x (o_Mo_take (sU (sI N 12 x 0) 13 x 0) x 0) 16) := rfl
  exact bn_retv F hr hk h hq.symm d_Mo_clear_74
def o_Mo_agreedOn (N : bn_S) (x : Nat) : bn_S := (if N.1 5 x = 2 then (if (N.2.1 7 x) = 0 then N else (if (N.2.2.1 15 240) = (Int32.toInt64 (r_Mo_rootOf N (N.2.2.1 22 (x / 4)))) then (sI (sU (sU (sI N 6 x 2) 8 x 1) 7 x 0) 9 x 0) else N)) else N)
set_option maxHeartbeats 4000000 in
set_option maxRecDepth 100000 in
theorem c_Mo_agreedOn (l : Launch) (D : va_G) (ar : Nat → ClassId) (ad : Nat → Nat → Nat) (N : bn_S)  (x : Nat) (hx : x < 20) : bn_V l y_Mo_agreedOn w_Mo_agreedOn { frames := 1, cells := 0, slots := 0, locals := 21 } (mo_y D ar ad) N [.ref (ad 0 0), .int (nI x)] (o_Mo_agreedOn N x) := by
  intro sz
  refine bn_start (cc := b_Mo_agreedOn) (maxL := 2) (ret := (Option.none : Option Jvm.ClassFile.FieldType)) (by decide) rfl (Nat.le_of_ble_eq_true rfl) ?_
  intro p e s m args below meth c ls hsz F hml hr hk hl h
  subst hsz
  have E1 := F.1
  have E2 := F.2.1
  have hl : lv_has ls 2 [(0, .ref (ad 0 0)), (1, .int (nI x))] := hl
  refine lv_aload_n E1 E2 d_Mo_agreedOn_0 rfl (lv_at hl 0 rfl) ?_
  refine g_Mo_role F h k_707 d_Mo_agreedOn_1 ?_
  refine lv_iload_n E1 E2 d_Mo_agreedOn_4 rfl (lv_at hl 1 rfl) ?_
  refine ml_role F h (i := x) (by omega) (v := N.1 5 x) rfl d_Mo_agreedOn_5 ?_
  refine lv_iconst (v := 2) E1 E2 d_Mo_agreedOn_6 (by decide) ?_
  refine lv_icmp_ne E1 E2 d_Mo_agreedOn_7 rfl (fun h1 => ?_) (fun h1 => ?_)
  · have h1 : ¬ (N.1 5 x = 2) := h1
    have hq : o_Mo_agreedOn N x = N := if_neg h1
    exact bn_retv F hr hk h hq.symm d_Mo_agreedOn_71
  · have h1 : N.1 5 x = 2 := h1
    refine lv_aload_n E1 E2 d_Mo_agreedOn_10 rfl (lv_at hl 0 rfl) ?_
    refine g_Mo_proposing F h k_709 d_Mo_agreedOn_11 ?_
    refine lv_iload_n E1 E2 d_Mo_agreedOn_14 rfl (lv_at hl 1 rfl) ?_
    refine ml_proposing F h (i := x) (by omega) (v := N.2.1 7 x) rfl d_Mo_agreedOn_15 ?_
    have hwproposing : N.2.1 7 x < 2 := mw_proposing h.2.2.2 x
    refine lv_if_eq E1 E2 d_Mo_agreedOn_16 rfl (fun h2 => ?_) (fun h2 => ?_)
    · have h2 : (N.2.1 7 x) = 0 := ((nI_eq (a := N.2.1 7 x) (b := 0) (by omega) (by omega)).mp h2)
      have hq : o_Mo_agreedOn N x = N := Eq.trans (if_pos h1) (if_pos h2)
      exact bn_retv F hr hk h hq.symm d_Mo_agreedOn_71
    · have h2 : ¬ ((N.2.1 7 x) = 0) := (fun hw => h2 ((nI_eq (a := N.2.1 7 x) (b := 0) (by omega) (by omega)).mpr hw))
      refine lv_aload_n E1 E2 d_Mo_agreedOn_19 rfl (lv_at hl 0 rfl) ?_
      refine g_Mo_told F h k_717 d_Mo_agreedOn_20 ?_
      refine lv_sipush (v := 240) E1 E2 d_Mo_agreedOn_23 (by decide) ?_
      refine ml_told F h (i := 240) (by omega) (v := N.2.2.1 15 240) rfl d_Mo_agreedOn_26 ?_
      refine lv_aload_n E1 E2 d_Mo_agreedOn_27 rfl (lv_at hl 0 rfl) ?_
      refine g_Mo_best F h k_724 d_Mo_agreedOn_28 ?_
      refine lv_iload_n E1 E2 d_Mo_agreedOn_31 rfl (lv_at hl 1 rfl) ?_
      refine lv_iconst (v := 4) E1 E2 d_Mo_agreedOn_32 (by decide) ?_
      refine lv_idiv E1 E2 d_Mo_agreedOn_33 (by decide) ?_
      refine bn_ti (y := nI (x / 4)) (pk_div (a := x) (d := 4) (by omega) (by omega) (by omega)) ?_
      refine ml_best F h (i := x / 4) (by omega) (v := N.2.2.1 22 (x / 4)) rfl d_Mo_agreedOn_34 ?_
      refine bn_calli F h (bn_runS (n := 1) (As := [.long (N.2.2.1 22 (x / 4))]) (rest := [.long (N.2.2.1 15 240)]) F hml hl.1 h (c_Mo_rootOf l D ar ad N (N.2.2.1 22 (x / 4)) _) (bn_goodS k_833 k_834 k_7 k_835) rfl rfl (by decide) ⟨by decide, by decide⟩ rfl rfl (Nat.le_of_ble_eq_true rfl) d_Mo_agreedOn_35 ⟨Nat.zero_le _, Nat.zero_le _⟩) (fun H locs h => ?_)
      refine lv_i2l (v := Int32.toInt64 (r_Mo_rootOf N (N.2.2.1 22 (x / 4)))) E1 E2 d_Mo_agreedOn_38 rfl ?_
      refine W.lcmp E1 E2 d_Mo_agreedOn_39 ?_
      refine lv_if_ne E1 E2 d_Mo_agreedOn_40 rfl (fun h3 => ?_) (fun h3 => ?_)
      · have h3 : ¬ ((N.2.2.1 15 240) = (Int32.toInt64 (r_Mo_rootOf N (N.2.2.1 22 (x / 4))))) := (fun hw => h3 ((lg_cmp_eq _ _).mpr hw))
        have hq : o_Mo_agreedOn N x = N := Eq.trans (if_pos h1) (Eq.trans (if_neg h2) (if_neg h3))
        exact bn_retv F hr hk h hq.symm d_Mo_agreedOn_71
      · have h3 : (N.2.2.1 15 240) = (Int32.toInt64 (r_Mo_rootOf N (N.2.2.1 22 (x / 4)))) := ((lg_cmp_eq _ _).mp h3)
        refine lv_aload_n E1 E2 d_Mo_agreedOn_43 rfl (lv_at hl 0 rfl) ?_
        refine g_Mo_state F h k_708 d_Mo_agreedOn_44 ?_
        refine lv_iload_n E1 E2 d_Mo_agreedOn_47 rfl (lv_at hl 1 rfl) ?_
        refine lv_iconst (v := 2) E1 E2 d_Mo_agreedOn_48 (by decide) ?_
        refine ms_state F h (i := x) (by omega) (v := 2) d_Mo_agreedOn_49 (fun H locs h => ?_)
        have h : bn_H (mo_y D ar ad) s.heap H locs (sI N 6 x 2) := h
        refine lv_aload_n E1 E2 d_Mo_agreedOn_50 rfl (lv_at hl 0 rfl) ?_
        refine g_Mo_agreed F h k_710 d_Mo_agreedOn_51 ?_
        refine lv_iload_n E1 E2 d_Mo_agreedOn_54 rfl (lv_at hl 1 rfl) ?_
        refine lv_iconst (v := 1) E1 E2 d_Mo_agreedOn_55 (by decide) ?_
        refine ms_agreed F h (i := x) (by omega) (v := 1) (by omega) d_Mo_agreedOn_56 (fun H locs h => ?_)
        have h : bn_H (mo_y D ar ad) s.heap H locs (sU (sI N 6 x 2) 8 x 1) := h
        refine lv_aload_n E1 E2 d_Mo_agreedOn_57 rfl (lv_at hl 0 rfl) ?_
        refine g_Mo_proposing F h k_709 d_Mo_agreedOn_58 ?_
        refine lv_iload_n E1 E2 d_Mo_agreedOn_61 rfl (lv_at hl 1 rfl) ?_
        refine lv_iconst (v := 0) E1 E2 d_Mo_agreedOn_62 (by decide) ?_
        refine ms_proposing F h (i := x) (by omega) (v := 0) (by omega) d_Mo_agreedOn_63 (fun H locs h => ?_)
        have h : bn_H (mo_y D ar ad) s.heap H locs (sU (sU (sI N 6 x 2) 8 x 1) 7 x 0) := h
        refine lv_aload_n E1 E2 d_Mo_agreedOn_64 rfl (lv_at hl 0 rfl) ?_
        refine g_Mo_waits F h k_711 d_Mo_agreedOn_65 ?_
        refine lv_iload_n E1 E2 d_Mo_agreedOn_68 rfl (lv_at hl 1 rfl) ?_
        refine lv_iconst (v := 0) E1 E2 d_Mo_agreedOn_69 (by decide) ?_
        refine ms_waits F h (i := x) (by omega) (v := 0) d_Mo_agreedOn_70 (fun H locs h => ?_)
        have h : bn_H (mo_y D ar ad) s.heap H locs (sI (sU (sU (sI N 6 x 2) 8 x 1) 7 x 0) 9 x 0) := h
        have hq : o_Mo_agreedOn N x = (sI (sU (sU (sI N 6 x 2) 8 x 1) 7 x 0) 9 x 0) := Eq.trans (if_pos h1) (Eq.trans (if_neg h2) (if_pos h3))
        exact bn_retv F hr hk h hq.symm d_Mo_agreedOn_71
