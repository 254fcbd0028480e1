/-! contracts of the reference, written by wip/whole/gen_model.py -/
theorem kl_copy (N : bn_S) (f t : Nat) : (o_Mo_copy N f t).2.1 13 = N.2.1 13 := by
  funext i
  simp [o_Mo_copy, sU, sI, sJ, bn_up]
theorem kj_copy (N : bn_S) (f t : Nat) : (o_Mo_copy N f t).2.1 4 = N.2.1 4 := by
  funext i
  simp [o_Mo_copy, sU, sI, sJ, bn_up]
theorem ks_copy (N : bn_S) (f t : Nat) : (o_Mo_copy N f t).1 6 = N.1 6 := by
  funext i
  simp [o_Mo_copy, sU, sI, sJ, bn_up]
theorem ks_post (N : bn_S) (x : Nat) (w : Int32) : (o_Mo_post N x w).2.1 6 = N.1 6 := by
  unfold o_Mo_post
  split
  · rfl
  · funext i
    simp [sU, sI, bn_up]
def mo_P (N : bn_S) : Prop := ∀ y : Nat, y < 20 → N.1 6 y = 2 → ¬ N.2.1 4 y = 0
def bd_Mo_shift (x : Nat) (k : Nat) (q : bn_S) : bn_S := (o_Mo_copy q (((12 * x) + k) + 1) ((12 * x) + k))
def it_Mo_shift (x : Nat) (q0 : bn_S) : Nat → bn_S
  | 0 => q0
  | k + 1 => bd_Mo_shift x k (it_Mo_shift x q0 k)
theorem it_Mo_shift_0 (x : Nat) (q0 : bn_S) : bd_Mo_shift x 0 q0 = it_Mo_shift x q0 1 := rfl
theorem it_Mo_shift_s (x : Nat) (q0 : bn_S) (k : Nat) : bd_Mo_shift x k (it_Mo_shift x q0 k) = it_Mo_shift x q0 (k + 1) := rfl
def o_Mo_shift (N : bn_S) (x : Nat) : bn_S := (it_Mo_shift x (sU (o_Mo_copy N (12 * x) 240) 13 x (((o_Mo_copy N (12 * x) 240).2.1 13 x) - 1)) (((o_Mo_copy N (12 * x) 240).2.1 13 x) - 1))
set_option maxHeartbeats 4000000 in
set_option maxRecDepth 100000 in
theorem c_Mo_shift (l : Launch) (D : va_G) (ar : Nat → ClassId) (ad : Nat → Nat → Nat) (N : bn_S)  (x : Nat) (hx : x < 20) (hl1 : 1 ≤ N.2.1 13 x) : bn_V l y_Mo_shift w_Mo_shift { frames := 1, cells := 0, slots := 0, locals := 22 } (mo_y D ar ad) N [.ref (ad 0 0), .int (nI x)] (o_Mo_shift N x) := by
  intro sz
  refine bn_start (cc := b_Mo_shift) (maxL := 3) (ret := (Option.none : Option Jvm.ClassFile.FieldType)) (by decide) rfl (Nat.le_of_ble_eq_true rfl) ?_
  intro p e s m args below meth c ls hsz F hml hr hk hl h
  subst hsz
  have E1 := F.1
  have E2 := F.2.1
  have hl : lv_has ls 3 [(0, .ref (ad 0 0)), (1, .int (nI x))] := hl
  refine lv_aload_n E1 E2 d_Mo_shift_0 rfl (lv_at hl 0 rfl) ?_
  refine lv_bipush (v := 12) E1 E2 d_Mo_shift_1 (by decide) ?_
  refine lv_iload_n E1 E2 d_Mo_shift_3 rfl (lv_at hl 1 rfl) ?_
  refine lv_imul E1 E2 d_Mo_shift_4 ?_
  refine bn_ti (y := nI (12 * x)) (pk_mul 12 x) ?_
  refine lv_sipush (v := 240) E1 E2 d_Mo_shift_5 (by decide) ?_
  refine bn_callv F h (bn_runV (n := 2) (As := [.int (nI (12 * x)), .int 240]) (rest := []) F hml hl.1 h mi_0 rfl rfl (c_Mo_copy l D ar ad N (12 * x) (by omega) 240 (by omega) _) (bn_goodV k_821 k_823 ks_Mo_copy k_7 k_824) rfl rfl (by decide) ⟨by decide, by decide⟩ rfl rfl (Nat.le_of_ble_eq_true rfl) d_Mo_shift_8 ⟨Nat.zero_le _, Nat.zero_le _⟩) (fun H locs h => ?_)
  have h : bn_H (mo_y D ar ad) s.heap H locs (o_Mo_copy N (12 * x) 240) := h
  refine lv_aload_n E1 E2 d_Mo_shift_11 rfl (lv_at hl 0 rfl) ?_
  refine g_Mo_lines F h k_715 d_Mo_shift_12 ?_
  refine lv_iload_n E1 E2 d_Mo_shift_15 rfl (lv_at hl 1 rfl) ?_
  refine lv_dup2_11 E1 E2 d_Mo_shift_16 rfl rfl ?_
  refine ml_lines F h (i := x) (by omega) (v := (o_Mo_copy N (12 * x) 240).2.1 13 x) rfl d_Mo_shift_17 ?_
  refine lv_iconst (v := 1) E1 E2 d_Mo_shift_18 (by decide) ?_
  refine lv_isub E1 E2 d_Mo_shift_19 ?_
  have hl1c : 1 ≤ (o_Mo_copy N (12 * x) 240).2.1 13 x := by rw [kl_copy]; exact hl1
  have hwlines : (o_Mo_copy N (12 * x) 240).2.1 13 x < 13 := mw_lines h.2.2.2 x
  refine bn_ti (y := nI (((o_Mo_copy N (12 * x) 240).2.1 13 x) - 1)) (pk_sub (a := ((o_Mo_copy N (12 * x) 240).2.1 13 x)) (b := 1) (by omega)) ?_
  have hwlines : (o_Mo_copy N (12 * x) 240).2.1 13 x < 13 := mw_lines h.2.2.2 x
  refine ms_lines F h (i := x) (by omega) (v := ((o_Mo_copy N (12 * x) 240).2.1 13 x) - 1) (by omega) d_Mo_shift_20 (fun H locs h => ?_)
  have h : bn_H (mo_y D ar ad) s.heap H locs (sU (o_Mo_copy N (12 * x) 240) 13 x (((o_Mo_copy N (12 * x) 240).2.1 13 x) - 1)) := h
  refine lv_iconst (v := 0) E1 E2 d_Mo_shift_21 (by decide) ?_
  refine lv_istore_n E1 E2 d_Mo_shift_22 rfl hl (by decide) rfl (fun ls hl => ?_)
  have hl : lv_has ls 3 [(2, .int 0), (0, .ref (ad 0 0)), (1, .int (nI x))] := hl
  obtain ⟨ln, hln⟩ : ∃ z : Nat, z = ((o_Mo_copy N (12 * x) 240).2.1 13 x) - 1 := ⟨_, rfl⟩
  have hlnb : ln < 12 := by omega
  have hs23 : ∀ (Q0 : State → Prop) (k : Nat), k < ln → ∀ (q : bn_S) (H : Heap) (locs : List Loc) (ls : Array Slot), lv_has ls 3 [(0, .ref (ad 0 0)), (1, .int (nI x)), (2, .int (nI k))] → bn_H (mo_y D ar ad) s.heap H locs q → q.2.1 13 x = ln → (∀ (H : Heap) (locs : List Loc) (ls : Array Slot), lv_has ls 3 [(0, .ref (ad 0 0)), (1, .int (nI x)), (2, .int (nI (k + 1)))] → bn_H (mo_y D ar ad) s.heap H locs (bd_Mo_shift x k q) → (bd_Mo_shift x k q).2.1 13 x = ln → W p l e { frames := 1, cells := 0, slots := 0, locals := 22 } s m args below meth c H locs 0 0 Q0 (F0 m 23 ls [])) → W p l e { frames := 1, cells := 0, slots := 0, locals := 22 } s m args below meth c H locs 0 0 Q0 (F0 m 23 ls []) := by
    intro Q0 k hkk q H locs ls hl h hinv kk
    refine lv_iload_n E1 E2 d_Mo_shift_23 rfl (lv_at hl 2 rfl) ?_
    refine lv_aload_n E1 E2 d_Mo_shift_24 rfl (lv_at hl 0 rfl) ?_
    refine g_Mo_lines F h k_715 d_Mo_shift_25 ?_
    refine lv_iload_n E1 E2 d_Mo_shift_28 rfl (lv_at hl 1 rfl) ?_
    refine ml_lines F h (i := x) (by omega) (v := q.2.1 13 x) rfl d_Mo_shift_29 ?_
    refine lv_icmp_ge E1 E2 d_Mo_shift_30 rfl (fun hz => absurd ((nI_leI (a := q.2.1 13 x) (b := k) (by omega) (by omega)).mp hz) (by omega)) (fun _ => ?_)
    refine lv_aload_n E1 E2 d_Mo_shift_33 rfl (lv_at hl 0 rfl) ?_
    refine lv_bipush (v := 12) E1 E2 d_Mo_shift_34 (by decide) ?_
    refine lv_iload_n E1 E2 d_Mo_shift_36 rfl (lv_at hl 1 rfl) ?_
    refine lv_imul E1 E2 d_Mo_shift_37 ?_
    refine bn_ti (y := nI (12 * x)) (pk_mul 12 x) ?_
    refine lv_iload_n E1 E2 d_Mo_shift_38 rfl (lv_at hl 2 rfl) ?_
    refine lv_iadd E1 E2 d_Mo_shift_39 ?_
    refine bn_ti (y := nI ((12 * x) + k)) (nI_add (12 * x) k) ?_
    refine lv_iconst (v := 1) E1 E2 d_Mo_shift_40 (by decide) ?_
    refine lv_iadd E1 E2 d_Mo_shift_41 ?_
    refine bn_ti (y := nI (((12 * x) + k) + 1)) (nI_add ((12 * x) + k) 1) ?_
    refine lv_bipush (v := 12) E1 E2 d_Mo_shift_42 (by decide) ?_
    refine lv_iload_n E1 E2 d_Mo_shift_44 rfl (lv_at hl 1 rfl) ?_
    refine lv_imul E1 E2 d_Mo_shift_45 ?_
    refine bn_ti (y := nI (12 * x)) (pk_mul 12 x) ?_
    refine lv_iload_n E1 E2 d_Mo_shift_46 rfl (lv_at hl 2 rfl) ?_
    refine lv_iadd E1 E2 d_Mo_shift_47 ?_
    refine bn_ti (y := nI ((12 * x) + k)) (nI_add (12 * x) k) ?_
    refine bn_callv F h (bn_runV (n := 2) (As := [.int (nI (((12 * x) + k) + 1)), .int (nI ((12 * x) + k))]) (rest := []) F hml hl.1 h mi_0 rfl rfl (c_Mo_copy l D ar ad q (((12 * x) + k) + 1) (by omega) ((12 * x) + k) (by omega) _) (bn_goodV k_821 k_823 ks_Mo_copy k_7 k_824) rfl rfl (by decide) ⟨by decide, by decide⟩ rfl rfl (Nat.le_of_ble_eq_true rfl) d_Mo_shift_48 ⟨Nat.zero_le _, Nat.zero_le _⟩) (fun H locs h => ?_)
    have h : bn_H (mo_y D ar ad) s.heap H locs (o_Mo_copy q (((12 * x) + k) + 1) ((12 * x) + k)) := h
    refine lv_iinc (v := (nI (k + 1))) E1 E2 d_Mo_shift_51 hl (k := 2) rfl (nI_1 _) (by decide) rfl (fun ls hl => ?_)
    have hl : lv_has ls 3 [(2, .int (nI (k + 1))), (0, .ref (ad 0 0)), (1, .int (nI x))] := hl
    refine lv_goto E1 E2 d_Mo_shift_54 rfl ?_
    have hq : (bd_Mo_shift x k q) = (o_Mo_copy q (((12 * x) + k) + 1) ((12 * x) + k)) := rfl
    rw [hq] at kk
    exact kk _ _ ls (lv_sub hl [1, 2, 0] rfl) h ((congrFun (kl_copy _ _ _) x).trans hinv)
  suffices hex : ∀ (H : Heap) (locs : List Loc) (ls : Array Slot), lv_has ls 3 [(0, .ref (ad 0 0)), (1, .int (nI x)), (2, .int (nI ln))] → bn_H (mo_y D ar ad) s.heap H locs (it_Mo_shift x (sU (o_Mo_copy N (12 * x) 240) 13 x (((o_Mo_copy N (12 * x) 240).2.1 13 x) - 1)) ln) → (it_Mo_shift x (sU (o_Mo_copy N (12 * x) 240) 13 x (((o_Mo_copy N (12 * x) 240).2.1 13 x) - 1)) ln).2.1 13 x = ln → W p l e { frames := 1, cells := 0, slots := 0, locals := 22 } s m args below meth c H locs 0 0 (MQ below (va_Qv (fun u : bn_S => u = o_Mo_shift N x) (bn_Post (mo_y D ar ad) (bn_AY (mo_y D ar ad) s.heap.size)) (bn_AY (mo_y D ar ad) s.heap.size)) args s 0 0 (bn_AY (mo_y D ar ad) s.heap.size)) (F0 m 23 ls []) by
    have hall : ∀ d, d ≤ ln → ∀ (H : Heap) (locs : List Loc) (ls : Array Slot), lv_has ls 3 [(0, .ref (ad 0 0)), (1, .int (nI x)), (2, .int (nI (ln - d)))] → bn_H (mo_y D ar ad) s.heap H locs (it_Mo_shift x (sU (o_Mo_copy N (12 * x) 240) 13 x (((o_Mo_copy N (12 * x) 240).2.1 13 x) - 1)) (ln - d)) → (it_Mo_shift x (sU (o_Mo_copy N (12 * x) 240) 13 x (((o_Mo_copy N (12 * x) 240).2.1 13 x) - 1)) (ln - d)).2.1 13 x = ln → W p l e { frames := 1, cells := 0, slots := 0, locals := 22 } s m args below meth c H locs 0 0 (MQ below (va_Qv (fun u : bn_S => u = o_Mo_shift N x) (bn_Post (mo_y D ar ad) (bn_AY (mo_y D ar ad) s.heap.size)) (bn_AY (mo_y D ar ad) s.heap.size)) args s 0 0 (bn_AY (mo_y D ar ad) s.heap.size)) (F0 m 23 ls []) := by
      intro d
      induction d with
      | zero => exact fun _ => hex
      | succ d ih =>
        intro hd H locs ls hl h hinv
        refine hs23 _ (ln - (d + 1)) (by omega) (it_Mo_shift x (sU (o_Mo_copy N (12 * x) 240) 13 x (((o_Mo_copy N (12 * x) 240).2.1 13 x) - 1)) (ln - (d + 1))) _ _ ls hl h hinv (fun H locs ls hl h hinv => ?_)
        rw [it_Mo_shift_s, show ln - (d + 1) + 1 = ln - d by omega] at h hinv
        rw [show ln - (d + 1) + 1 = ln - d by omega] at hl
        exact ih (by omega) H locs ls hl h hinv
    refine hall ln (Nat.le_refl _) _ _ ls ?_ ?_ ?_
    · rw [Nat.sub_self]; exact lv_sub hl [1, 2, 0] rfl
    · rw [Nat.sub_self]; exact h
    · rw [Nat.sub_self]; exact ((bn_up_s _ _ _ _).trans hln.symm)
  intro H locs ls hl h hinv
  subst hln
  have hl : lv_has ls 3 [(0, .ref (ad 0 0)), (1, .int (nI x)), (2, .int (nI (((o_Mo_copy N (12 * x) 240).2.1 13 x) - 1)))] := hl
  have h : bn_H (mo_y D ar ad) s.heap H locs (it_Mo_shift x (sU (o_Mo_copy N (12 * x) 240) 13 x (((o_Mo_copy N (12 * x) 240).2.1 13 x) - 1)) (((o_Mo_copy N (12 * x) 240).2.1 13 x) - 1)) := h
  refine lv_iload_n E1 E2 d_Mo_shift_23 rfl (lv_at hl 2 rfl) ?_
  refine lv_aload_n E1 E2 d_Mo_shift_24 rfl (lv_at hl 0 rfl) ?_
  refine g_Mo_lines F h k_715 d_Mo_shift_25 ?_
  refine lv_iload_n E1 E2 d_Mo_shift_28 rfl (lv_at hl 1 rfl) ?_
  refine ml_lines F h (i := x) (by omega) (v := (it_Mo_shift x (sU (o_Mo_copy N (12 * x) 240) 13 x (((o_Mo_copy N (12 * x) 240).2.1 13 x) - 1)) (((o_Mo_copy N (12 * x) 240).2.1 13 x) - 1)).2.1 13 x) rfl d_Mo_shift_29 ?_
  refine lv_icmp_ge E1 E2 d_Mo_shift_30 rfl (fun _ => ?_) (fun hz => absurd ((nI_leI (a := (it_Mo_shift x (sU (o_Mo_copy N (12 * x) 240) 13 x (((o_Mo_copy N (12 * x) 240).2.1 13 x) - 1)) (((o_Mo_copy N (12 * x) 240).2.1 13 x) - 1)).2.1 13 x) (b := (((o_Mo_copy N (12 * x) 240).2.1 13 x) - 1)) (by omega) (by omega)).mpr (by omega)) hz)
  have hq : o_Mo_shift N x = (it_Mo_shift x (sU (o_Mo_copy N (12 * x) 240) 13 x (((o_Mo_copy N (12 * x) 240).2.1 13 x) - 1)) (((o_Mo_copy N (12 * x) 240).2.1 13 x) - 1)) := rfl
  exact bn_retv F hr hk h hq.symm d_Mo_shift_57
def bd_Mo_agree (x : Nat) (k : Nat) (q : bn_S) : bn_S := (if q.1 5 x = 1 then (if (4 * (x / 4) + k) = x then q else (if r_Mo_isLinked q (4 * (x / 4) + k) = 0 then q else (if q.1 5 (4 * (x / 4) + k) = 2 then (if (q.2.1 8 (4 * (x / 4) + k)) = 0 then (o_Mo_tell (sI (sU (sI q 6 (4 * (x / 4) + k) 0) 7 (4 * (x / 4) + k) 1) 9 (4 * (x / 4) + k) 4) (4 * (x / 4) + k)) else q) else q))) else q)
def it_Mo_agree (x : Nat) (q0 : bn_S) : Nat → bn_S
  | 0 => q0
  | k + 1 => bd_Mo_agree x k (it_Mo_agree x q0 k)
theorem it_Mo_agree_0 (x : Nat) (q0 : bn_S) : bd_Mo_agree x 0 q0 = it_Mo_agree x q0 1 := rfl
theorem it_Mo_agree_s (x : Nat) (q0 : bn_S) (k : Nat) : bd_Mo_agree x k (it_Mo_agree x q0 k) = it_Mo_agree x q0 (k + 1) := rfl
def o_Mo_agree (N : bn_S) (x : Nat) : bn_S := (if (o_Mo_post (it_Mo_agree x N 4) x 2).1 < 0 then (o_Mo_post (it_Mo_agree x N 4) x 2).2 else (sJ ((o_Mo_post (it_Mo_agree x N 4) x 2).2) 15 (((o_Mo_post (it_Mo_agree x N 4) x 2).1).toNatClampNeg) (Int32.toInt64 (r_Mo_rootOf ((o_Mo_post (it_Mo_agree x N 4) x 2).2) (((o_Mo_post (it_Mo_agree x N 4) x 2).2).2.2.1 22 (x / 4))))))
theorem kj_agree (x : Nat) (q : bn_S) : ∀ k, (it_Mo_agree x q k).2.1 4 = q.2.1 4
  | 0 => rfl
  | k + 1 => by
    rw [← it_Mo_agree_s]
    unfold bd_Mo_agree
    repeat' split
    all_goals first | exact kj_agree x q k | (rw [kj_tell]; funext i; have h9 := congrFun (kj_agree x q k) i; simpa [sU, sI, bn_up] using h9)
set_option maxHeartbeats 4000000 in
set_option maxRecDepth 100000 in
theorem c_Mo_agree (l : Launch) (D : va_G) (ar : Nat → ClassId) (ad : Nat → Nat → Nat) (N : bn_S)  (x : Nat) (hx : x < 20) (hj1 : 1 ≤ N.2.1 4 x) (hj2 : N.2.1 4 x ≤ 20) : bn_V l y_Mo_agree w_Mo_agree { frames := 3, cells := 0, slots := 0, locals := 71 } (mo_y D ar ad) N [.ref (ad 0 0), .int (nI x)] (o_Mo_agree N x) := by
  intro sz
  refine bn_start (cc := b_Mo_agree) (maxL := 4) (ret := (Option.none : Option Jvm.ClassFile.FieldType)) (by decide) rfl (Nat.le_of_ble_eq_true rfl) ?_
  intro p e s m args below meth c ls hsz F hml hr hk hl h
  subst hsz
  have E1 := F.1
  have E2 := F.2.1
  have hl : lv_has ls 4 [(0, .ref (ad 0 0)), (1, .int (nI x))] := hl
  refine lv_iload_n E1 E2 d_Mo_agree_0 rfl (lv_at hl 1 rfl) ?_
  refine lv_iconst (v := 4) E1 E2 d_Mo_agree_1 (by decide) ?_
  refine lv_idiv E1 E2 d_Mo_agree_2 (by decide) ?_
  refine bn_ti (y := nI (x / 4)) (pk_div (a := x) (d := 4) (by omega) (by omega) (by omega)) ?_
  refine lv_istore_n E1 E2 d_Mo_agree_3 rfl hl (by decide) rfl (fun ls hl => ?_)
  have hl : lv_has ls 4 [(2, .int (nI (x / 4))), (0, .ref (ad 0 0)), (1, .int (nI x))] := hl
  refine lv_iconst (v := 4) E1 E2 d_Mo_agree_4 (by decide) ?_
  refine lv_iload_n E1 E2 d_Mo_agree_5 rfl (lv_at hl 0 rfl) ?_
  refine lv_imul E1 E2 d_Mo_agree_6 ?_
  refine bn_ti (y := nI (4 * (x / 4))) (pk_mul 4 (x / 4)) ?_
  refine lv_istore_n E1 E2 d_Mo_agree_7 rfl hl (by decide) rfl (fun ls hl => ?_)
  have hl : lv_has ls 4 [(3, .int (nI (4 * (x / 4)))), (2, .int (nI (x / 4))), (0, .ref (ad 0 0)), (1, .int (nI x))] := hl
  have hs8 : ∀ (Q0 : State → Prop) (k : Nat), k < 4 → ∀ (q : bn_S) (H : Heap) (locs : List Loc) (ls : Array Slot), lv_has ls 4 [(0, .ref (ad 0 0)), (1, .int (nI x)), (2, .int (nI (x / 4))), (3, .int (nI (4 * (x / 4) + k)))] → bn_H (mo_y D ar ad) s.heap H locs q → (∀ (H : Heap) (locs : List Loc) (ls : Array Slot), lv_has ls 4 [(0, .ref (ad 0 0)), (1, .int (nI x)), (2, .int (nI (x / 4))), (3, .int (nI (4 * (x / 4) + k + 1)))] → bn_H (mo_y D ar ad) s.heap H locs (bd_Mo_agree x k q) → W p l e { frames := 3, cells := 0, slots := 0, locals := 71 } s m args below meth c H locs 0 0 Q0 (F0 m 8 ls [])) → W p l e { frames := 3, cells := 0, slots := 0, locals := 71 } s m args below meth c H locs 0 0 Q0 (F0 m 8 ls []) := by
    intro Q0 k hkk q H locs ls hl h kk
    refine lv_iload_n E1 E2 d_Mo_agree_8 rfl (lv_at hl 3 rfl) ?_
    refine lv_iconst (v := 4) E1 E2 d_Mo_agree_9 (by decide) ?_
    refine lv_iload_n E1 E2 d_Mo_agree_10 rfl (lv_at hl 2 rfl) ?_
    refine lv_imul E1 E2 d_Mo_agree_11 ?_
    refine bn_ti (y := nI (4 * (x / 4))) (pk_mul 4 (x / 4)) ?_
    refine lv_iconst (v := 4) E1 E2 d_Mo_agree_12 (by decide) ?_
    refine lv_iadd E1 E2 d_Mo_agree_13 ?_
    refine bn_ti (y := nI ((4 * (x / 4)) + 4)) (nI_add (4 * (x / 4)) 4) ?_
    refine lv_icmp_ge E1 E2 d_Mo_agree_14 rfl (fun hz => absurd ((nI_leI (a := (4 * (x / 4)) + 4) (b := 4 * (x / 4) + k) (by omega) (by omega)).mp hz) (by omega)) (fun _ => ?_)
    refine lv_aload_n E1 E2 d_Mo_agree_17 rfl (lv_at hl 0 rfl) ?_
    refine g_Mo_role F h k_707 d_Mo_agree_18 ?_
    refine lv_iload_n E1 E2 d_Mo_agree_21 rfl (lv_at hl 1 rfl) ?_
    refine ml_role F h (i := x) (by omega) (v := q.1 5 x) rfl d_Mo_agree_22 ?_
    refine lv_iconst (v := 1) E1 E2 d_Mo_agree_23 (by decide) ?_
    refine lv_icmp_ne E1 E2 d_Mo_agree_24 rfl (fun h1 => ?_) (fun h1 => ?_)
    · have h1 : ¬ (q.1 5 x = 1) := h1
      refine lv_iinc (v := (nI (4 * (x / 4) + k + 1))) E1 E2 d_Mo_agree_85 hl (k := 3) rfl (nI_1 _) (by decide) rfl (fun ls hl => ?_)
      have hl : lv_has ls 4 [(3, .int (nI (4 * (x / 4) + k + 1))), (0, .ref (ad 0 0)), (1, .int (nI x)), (2, .int (nI (x / 4)))] := hl
      refine lv_goto E1 E2 d_Mo_agree_88 rfl ?_
      have hq : (bd_Mo_agree x k q) = q := if_neg h1
      rw [hq] at kk
      exact kk _ _ ls (lv_sub hl [1, 2, 3, 0] rfl) h
    · have h1 : q.1 5 x = 1 := h1
      refine lv_iload_n E1 E2 d_Mo_agree_27 rfl (lv_at hl 3 rfl) ?_
      refine lv_iload_n E1 E2 d_Mo_agree_28 rfl (lv_at hl 1 rfl) ?_
      refine lv_icmp_eq E1 E2 d_Mo_agree_29 rfl (fun h2 => ?_) (fun h2 => ?_)
      · have h2 : (4 * (x / 4) + k) = x := ((nI_eq (a := 4 * (x / 4) + k) (b := x) (by omega) (by omega)).mp h2)
        refine lv_iinc (v := (nI (4 * (x / 4) + k + 1))) E1 E2 d_Mo_agree_85 hl (k := 3) rfl (nI_1 _) (by decide) rfl (fun ls hl => ?_)
        have hl : lv_has ls 4 [(3, .int (nI (4 * (x / 4) + k + 1))), (0, .ref (ad 0 0)), (1, .int (nI x)), (2, .int (nI (x / 4)))] := hl
        refine lv_goto E1 E2 d_Mo_agree_88 rfl ?_
        have hq : (bd_Mo_agree x k q) = q := Eq.trans (if_pos h1) (if_pos h2)
        rw [hq] at kk
        exact kk _ _ ls (lv_sub hl [1, 2, 3, 0] rfl) h
      · have h2 : ¬ ((4 * (x / 4) + k) = x) := (fun hw => h2 ((nI_eq (a := 4 * (x / 4) + k) (b := x) (by omega) (by omega)).mpr hw))
        refine lv_aload_n E1 E2 d_Mo_agree_32 rfl (lv_at hl 0 rfl) ?_
        refine lv_iload_n E1 E2 d_Mo_agree_33 rfl (lv_at hl 3 rfl) ?_
        refine bn_calli F h (bn_runV (n := 1) (As := [.int (nI (4 * (x / 4) + k))]) (rest := []) F hml hl.1 h mi_0 rfl rfl (c_Mo_isLinked l D ar ad q (4 * (x / 4) + k) (by omega) _) (bn_goodV k_864 k_866 ks_Mo_isLinked k_7 k_867) rfl rfl (by decide) ⟨by decide, by decide⟩ rfl rfl (Nat.le_of_ble_eq_true rfl) d_Mo_agree_34 ⟨Nat.zero_le _, Nat.zero_le _⟩) (fun H locs h => ?_)
        refine lv_if_eq E1 E2 d_Mo_agree_37 rfl (fun h3 => ?_) (fun h3 => ?_)
        · have h3 : r_Mo_isLinked q (4 * (x / 4) + k) = 0 := h3
          refine lv_iinc (v := (nI (4 * (x / 4) + k + 1))) E1 E2 d_Mo_agree_85 hl (k := 3) rfl (nI_1 _) (by decide) rfl (fun ls hl => ?_)
          have hl : lv_has ls 4 [(3, .int (nI (4 * (x / 4) + k + 1))), (0, .ref (ad 0 0)), (1, .int (nI x)), (2, .int (nI (x / 4)))] := hl
          refine lv_goto E1 E2 d_Mo_agree_88 rfl ?_
          have hq : (bd_Mo_agree x k q) = q := Eq.trans (if_pos h1) (Eq.trans (if_neg h2) (if_pos h3))
          rw [hq] at kk
          exact kk _ _ ls (lv_sub hl [1, 2, 3, 0] rfl) h
        · have h3 : ¬ (r_Mo_isLinked q (4 * (x / 4) + k) = 0) := h3
          refine lv_aload_n E1 E2 d_Mo_agree_40 rfl (lv_at hl 0 rfl) ?_
          refine g_Mo_role F h k_707 d_Mo_agree_41 ?_
          refine lv_iload_n E1 E2 d_Mo_agree_44 rfl (lv_at hl 3 rfl) ?_
          refine ml_role F h (i := 4 * (x / 4) + k) (by omega) (v := q.1 5 (4 * (x / 4) + k)) rfl d_Mo_agree_45 ?_
          refine lv_iconst (v := 2) E1 E2 d_Mo_agree_46 (by decide) ?_
          refine lv_icmp_ne E1 E2 d_Mo_agree_47 rfl (fun h4 => ?_) (fun h4 => ?_)
          · have h4 : ¬ (q.1 5 (4 * (x / 4) + k) = 2) := h4
            refine lv_iinc (v := (nI (4 * (x / 4) + k + 1))) E1 E2 d_Mo_agree_85 hl (k := 3) rfl (nI_1 _) (by decide) rfl (fun ls hl => ?_)
            have hl : lv_has ls 4 [(3, .int (nI (4 * (x / 4) + k + 1))), (0, .ref (ad 0 0)), (1, .int (nI x)), (2, .int (nI (x / 4)))] := hl
            refine lv_goto E1 E2 d_Mo_agree_88 rfl ?_
            have hq : (bd_Mo_agree x k q) = q := Eq.trans (if_pos h1) (Eq.trans (if_neg h2) (Eq.trans (if_neg h3) (if_neg h4)))
            rw [hq] at kk
            exact kk _ _ ls (lv_sub hl [1, 2, 3, 0] rfl) h
          · have h4 : q.1 5 (4 * (x / 4) + k) = 2 := h4
            refine lv_aload_n E1 E2 d_Mo_agree_50 rfl (lv_at hl 0 rfl) ?_
            refine g_Mo_agreed F h k_710 d_Mo_agree_51 ?_
            refine lv_iload_n E1 E2 d_Mo_agree_54 rfl (lv_at hl 3 rfl) ?_
            refine ml_agreed F h (i := 4 * (x / 4) + k) (by omega) (v := q.2.1 8 (4 * (x / 4) + k)) rfl d_Mo_agree_55 ?_
            have hwagreed : q.2.1 8 (4 * (x / 4) + k) < 2 := mw_agreed h.2.2.2 (4 * (x / 4) + k)
            refine lv_if_ne E1 E2 d_Mo_agree_56 rfl (fun h5 => ?_) (fun h5 => ?_)
            · have h5 : ¬ ((q.2.1 8 (4 * (x / 4) + k)) = 0) := (fun hw => h5 ((nI_eq (a := q.2.1 8 (4 * (x / 4) + k)) (b := 0) (by omega) (by omega)).mpr hw))
              refine lv_iinc (v := (nI (4 * (x / 4) + k + 1))) E1 E2 d_Mo_agree_85 hl (k := 3) rfl (nI_1 _) (by decide) rfl (fun ls hl => ?_)
              have hl : lv_has ls 4 [(3, .int (nI (4 * (x / 4) + k + 1))), (0, .ref (ad 0 0)), (1, .int (nI x)), (2, .int (nI (x / 4)))] := hl
              refine lv_goto E1 E2 d_Mo_agree_88 rfl ?_
              have hq : (bd_Mo_agree x k q) = q := Eq.trans (if_pos h1) (Eq.trans (if_neg h2) (Eq.trans (if_neg h3) (Eq.trans (if_pos h4) (if_neg h5))))
              rw [hq] at kk
              exact kk _ _ ls (lv_sub hl [1, 2, 3, 0] rfl) h
            · have h5 : (q.2.1 8 (4 * (x / 4) + k)) = 0 := ((nI_eq (a := q.2.1 8 (4 * (x / 4) + k)) (b := 0) (by omega) (by omega)).mp h5)
              refine lv_aload_n E1 E2 d_Mo_agree_59 rfl (lv_at hl 0 rfl) ?_
              refine g_Mo_state F h k_708 d_Mo_agree_60 ?_
              refine lv_iload_n E1 E2 d_Mo_agree_63 rfl (lv_at hl 3 rfl) ?_
              refine lv_iconst (v := 0) E1 E2 d_Mo_agree_64 (by decide) ?_
              refine ms_state F h (i := 4 * (x / 4) + k) (by omega) (v := 0) d_Mo_agree_65 (fun H locs h => ?_)
              have h : bn_H (mo_y D ar ad) s.heap H locs (sI q 6 (4 * (x / 4) + k) 0) := h
              refine lv_aload_n E1 E2 d_Mo_agree_66 rfl (lv_at hl 0 rfl) ?_
              refine g_Mo_proposing F h k_709 d_Mo_agree_67 ?_
              refine lv_iload_n E1 E2 d_Mo_agree_70 rfl (lv_at hl 3 rfl) ?_
              refine lv_iconst (v := 1) E1 E2 d_Mo_agree_71 (by decide) ?_
              refine ms_proposing F h (i := 4 * (x / 4) + k) (by omega) (v := 1) (by omega) d_Mo_agree_72 (fun H locs h => ?_)
              have h : bn_H (mo_y D ar ad) s.heap H locs (sU (sI q 6 (4 * (x / 4) + k) 0) 7 (4 * (x / 4) + k) 1) := h
              refine lv_aload_n E1 E2 d_Mo_agree_73 rfl (lv_at hl 0 rfl) ?_
              refine g_Mo_waits F h k_711 d_Mo_agree_74 ?_
              refine lv_iload_n E1 E2 d_Mo_agree_77 rfl (lv_at hl 3 rfl) ?_
              refine lv_iconst (v := 4) E1 E2 d_Mo_agree_78 (by decide) ?_
              refine ms_waits F h (i := 4 * (x / 4) + k) (by omega) (v := 4) d_Mo_agree_79 (fun H locs h => ?_)
              have h : bn_H (mo_y D ar ad) s.heap H locs (sI (sU (sI q 6 (4 * (x / 4) + k) 0) 7 (4 * (x / 4) + k) 1) 9 (4 * (x / 4) + k) 4) := h
              refine lv_aload_n E1 E2 d_Mo_agree_80 rfl (lv_at hl 0 rfl) ?_
              refine lv_iload_n E1 E2 d_Mo_agree_81 rfl (lv_at hl 3 rfl) ?_
              refine bn_callv F h (bn_runV (n := 1) (As := [.int (nI (4 * (x / 4) + k))]) (rest := []) F hml hl.1 h mi_0 rfl rfl (c_Mo_tell l D ar ad (sI (sU (sI q 6 (4 * (x / 4) + k) 0) 7 (4 * (x / 4) + k) 1) 9 (4 * (x / 4) + k) 4) (4 * (x / 4) + k) (by omega) (mo_lk (h.2.2.2.2.1 (4 * (x / 4) + k)) h3).1 (mo_lk (h.2.2.2.2.1 (4 * (x / 4) + k)) h3).2 _) (bn_goodV k_872 k_874 ks_Mo_tell k_7 k_875) rfl rfl (by decide) ⟨by decide, by decide⟩ rfl rfl (Nat.le_of_ble_eq_true rfl) d_Mo_agree_82 ⟨Nat.zero_le _, Nat.zero_le _⟩) (fun H locs h => ?_)
              have h : bn_H (mo_y D ar ad) s.heap H locs (o_Mo_tell (sI (sU (sI q 6 (4 * (x / 4) + k) 0) 7 (4 * (x / 4) + k) 1) 9 (4 * (x / 4) + k) 4) (4 * (x / 4) + k)) := h
              refine lv_iinc (v := (nI (4 * (x / 4) + k + 1))) E1 E2 d_Mo_agree_85 hl (k := 3) rfl (nI_1 _) (by decide) rfl (fun ls hl => ?_)
              have hl : lv_has ls 4 [(3, .int (nI (4 * (x / 4) + k + 1))), (0, .ref (ad 0 0)), (1, .int (nI x)), (2, .int (nI (x / 4)))] := hl
              refine lv_goto E1 E2 d_Mo_agree_88 rfl ?_
              have hq : (bd_Mo_agree x k q) = (o_Mo_tell (sI (sU (sI q 6 (4 * (x / 4) + k) 0) 7 (4 * (x / 4) + k) 1) 9 (4 * (x / 4) + k) 4) (4 * (x / 4) + k)) := Eq.trans (if_pos h1) (Eq.trans (if_neg h2) (Eq.trans (if_neg h3) (Eq.trans (if_pos h4) (if_pos h5))))
              rw [hq] at kk
              exact kk _ _ ls (lv_sub hl [1, 2, 3, 0] rfl) h
  refine hs8 _ 0 (by decide) N _ _ ls (lv_sub hl [2, 3, 1, 0] rfl) h (fun H locs ls hl h => ?_)
  rw [it_Mo_agree_0] at h
  refine hs8 _ 1 (by decide) (it_Mo_agree x N 1) _ _ ls hl h (fun H locs ls hl h => ?_)
  rw [it_Mo_agree_s] at h
  refine hs8 _ 2 (by decide) (it_Mo_agree x N 2) _ _ ls hl h (fun H locs ls hl h => ?_)
  rw [it_Mo_agree_s] at h
  refine hs8 _ 3 (by decide) (it_Mo_agree x N 3) _ _ ls hl h (fun H locs ls hl h => ?_)
  rw [it_Mo_agree_s] at h
  have hl : lv_has ls 4 [(0, .ref (ad 0 0)), (1, .int (nI x)), (2, .int (nI (x / 4))), (3, .int (nI (4 * (x / 4) + 4)))] := hl
  have h : bn_H (mo_y D ar ad) s.heap H locs (it_Mo_agree x N 4) := h
  refine lv_iload_n E1 E2 d_Mo_agree_8 rfl (lv_at hl 3 rfl) ?_
  refine lv_iconst (v := 4) E1 E2 d_Mo_agree_9 (by decide) ?_
  refine lv_iload_n E1 E2 d_Mo_agree_10 rfl (lv_at hl 2 rfl) ?_
  refine lv_imul E1 E2 d_Mo_agree_11 ?_
  refine bn_ti (y := nI (4 * (x / 4))) (pk_mul 4 (x / 4)) ?_
  refine lv_iconst (v := 4) E1 E2 d_Mo_agree_12 (by decide) ?_
  refine lv_iadd E1 E2 d_Mo_agree_13 ?_
  refine bn_ti (y := nI ((4 * (x / 4)) + 4)) (nI_add (4 * (x / 4)) 4) ?_
  refine lv_icmp_ge E1 E2 d_Mo_agree_14 rfl (fun _ => ?_) (fun hz => absurd ((nI_leI (a := (4 * (x / 4)) + 4) (b := 4 * (x / 4) + 4) (by omega) (by omega)).mpr (by omega)) hz)
  refine lv_aload_n E1 E2 d_Mo_agree_91 rfl (lv_at hl 0 rfl) ?_
  refine lv_iload_n E1 E2 d_Mo_agree_92 rfl (lv_at hl 1 rfl) ?_
  refine lv_iconst (v := 2) E1 E2 d_Mo_agree_93 (by decide) ?_
  have hwf := h.2.2.2
  refine bn_calli F h (bn_runV (n := 2) (As := [.int (nI x), .int 2]) (rest := []) F hml hl.1 h mi_0 rfl rfl (c_Mo_post l D ar ad (it_Mo_agree x N 4) x (by omega) 2 (by rw [kj_agree]; exact hj1) (by rw [kj_agree]; exact hj2) _) (bn_goodV k_876 k_878 ks_Mo_post k_7 k_879) rfl rfl (by decide) ⟨by decide, by decide⟩ rfl rfl (Nat.le_of_ble_eq_true rfl) d_Mo_agree_94 ⟨Nat.zero_le _, Nat.zero_le _⟩) (fun H locs h => ?_)
  have h : bn_H (mo_y D ar ad) s.heap H locs (o_Mo_post (it_Mo_agree x N 4) x 2).2 := h
  refine lv_istore_n E1 E2 d_Mo_agree_97 rfl hl (by decide) rfl (fun ls hl => ?_)
  have hl : lv_has ls 4 [(3, .int ((o_Mo_post (it_Mo_agree x N 4) x 2).1)), (0, .ref (ad 0 0)), (1, .int (nI x)), (2, .int (nI (x / 4)))] := hl
  refine lv_iload_n E1 E2 d_Mo_agree_98 rfl (lv_at hl 0 rfl) ?_
  refine lv_if_lt E1 E2 d_Mo_agree_99 rfl (fun h6 => ?_) (fun h6 => ?_)
  · have h6 : (o_Mo_post (it_Mo_agree x N 4) x 2).1 < 0 := h6
    have hq : o_Mo_agree N x = (o_Mo_post (it_Mo_agree x N 4) x 2).2 := if_pos h6
    exact bn_retv F hr hk h hq.symm d_Mo_agree_118
  · have h6 : ¬ ((o_Mo_post (it_Mo_agree x N 4) x 2).1 < 0) := h6
    refine lv_aload_n E1 E2 d_Mo_agree_102 rfl (lv_at hl 1 rfl) ?_
    refine g_Mo_told F h k_717 d_Mo_agree_103 ?_
    refine lv_iload_n E1 E2 d_Mo_agree_106 rfl (lv_at hl 0 rfl) ?_
    have hpl := mo_pst hwf (by rw [kj_agree]; exact hj1) (by rw [kj_agree]; exact hj2) h6
    have hpl2 := hpl.2
    refine bn_ti hpl.1 ?_
    refine lv_aload_n E1 E2 d_Mo_agree_107 rfl (lv_at hl 1 rfl) ?_
    refine g_Mo_best F h k_724 d_Mo_agree_108 ?_
    refine lv_iload_n E1 E2 d_Mo_agree_111 rfl (lv_at hl 3 rfl) ?_
    refine ml_best F h (i := x / 4) (by omega) (v := ((o_Mo_post (it_Mo_agree x N 4) x 2).2).2.2.1 22 (x / 4)) rfl d_Mo_agree_112 ?_
    refine bn_calli F h (bn_runS (n := 1) (As := [.long (((o_Mo_post (it_Mo_agree x N 4) x 2).2).2.2.1 22 (x / 4))]) (rest := [.int (nI (((o_Mo_post (it_Mo_agree x N 4) x 2).1).toNatClampNeg)), .ref (ad 15 0)]) F hml hl.1 h (c_Mo_rootOf l D ar ad ((o_Mo_post (it_Mo_agree x N 4) x 2).2) (((o_Mo_post (it_Mo_agree x N 4) x 2).2).2.2.1 22 (x / 4)) _) (bn_goodS k_833 k_834 k_7 k_835) rfl rfl (by decide) ⟨by decide, by decide⟩ rfl rfl (Nat.le_of_ble_eq_true rfl) d_Mo_agree_113 ⟨Nat.zero_le _, Nat.zero_le _⟩) (fun H locs h => ?_)
    refine lv_i2l (v := Int32.toInt64 (r_Mo_rootOf ((o_Mo_post (it_Mo_agree x N 4) x 2).2) (((o_Mo_post (it_Mo_agree x N 4) x 2).2).2.2.1 22 (x / 4)))) E1 E2 d_Mo_agree_116 rfl ?_
    refine ms_told F h (i := ((o_Mo_post (it_Mo_agree x N 4) x 2).1).toNatClampNeg) (by omega) (v := Int32.toInt64 (r_Mo_rootOf ((o_Mo_post (it_Mo_agree x N 4) x 2).2) (((o_Mo_post (it_Mo_agree x N 4) x 2).2).2.2.1 22 (x / 4)))) d_Mo_agree_117 (fun H locs h => ?_)
    have h : bn_H (mo_y D ar ad) s.heap H locs (sJ ((o_Mo_post (it_Mo_agree x N 4) x 2).2) 15 (((o_Mo_post (it_Mo_agree x N 4) x 2).1).toNatClampNeg) (Int32.toInt64 (r_Mo_rootOf ((o_Mo_post (it_Mo_agree x N 4) x 2).2) (((o_Mo_post (it_Mo_agree x N 4) x 2).2).2.2.1 22 (x / 4))))) := h
    have hq : o_Mo_agree N x = (sJ ((o_Mo_post (it_Mo_agree x N 4) x 2).2) 15 (((o_Mo_post (it_Mo_agree x N 4) x 2).1).toNatClampNeg) (Int32.toInt64 (r_Mo_rootOf ((o_Mo_post (it_Mo_agree x N 4) x 2).2) (((o_Mo_post (it_Mo_agree x N 4) x 2).2).2.2.1 22 (x / 4))))) := if_neg h6
    exact bn_retv F hr hk h hq.symm d_Mo_agree_118
def o_Mo_out (N : bn_S) (x : Nat) : Int32 × bn_S := (if N.1 6 x = 2 then (if r_Mo_has N x (nI (N.2.1 20 240)) = 0 then (0, N) else (if r_Mo_isLinked N x = 0 then (if (N.2.1 28 ((N.2.1 4 x) - 100)) = (N.2.1 20 240) then (if 40 ≤ (N.2.1 29 ((N.2.1 4 x) - 100)) then (1, N) else (1, (sU (sJ N 30 ((40 * ((N.2.1 4 x) - 100)) + (N.2.1 29 ((N.2.1 4 x) - 100))) ((((Int32.toInt64 (N.1 21 240)) &&& 4294967295) + ((Int32.toInt64 (nI (N.2.1 18 240))) <<< (Int32.toInt64 32 &&& 63))) + ((Int32.toInt64 (nI (N.2.1 19 240))) <<< (Int32.toInt64 36 &&& 63)))) 29 ((N.2.1 4 x) - 100) ((N.2.1 29 ((N.2.1 4 x) - 100)) + 1)))) else (1, N)) else (if (o_Mo_post N x 3).1 < 0 then (1, (o_Mo_post N x 3).2) else (1, (o_Mo_copy ((o_Mo_post N x 3).2) 240 (((o_Mo_post N x 3).1).toNatClampNeg)))))) else (0, N))
set_option maxHeartbeats 4000000 in
set_option maxRecDepth 100000 in
theorem c_Mo_out (l : Launch) (D : va_G) (ar : Nat → ClassId) (ad : Nat → Nat → Nat) (N : bn_S)  (x : Nat) (hx : x < 20) (hP : N.1 6 x = 2 → ¬ N.2.1 4 x = 0) : bn_I l y_Mo_out w_Mo_out { frames := 1, cells := 0, slots := 0, locals := 24 } (mo_y D ar ad) N [.ref (ad 0 0), .int (nI x)] (o_Mo_out N x).1 (o_Mo_out N x).2 := by
  intro sz
  refine bn_start (cc := b_Mo_out) (maxL := 4) (ret := (Option.some Jvm.ClassFile.FieldType.int)) (by decide) rfl (Nat.le_of_ble_eq_true rfl) ?_
  intro p e s m args below meth c ls hsz F hml hr hk hl h
  subst hsz
  have E1 := F.1
  have E2 := F.2.1
  have hl : lv_has ls 4 [(0, .ref (ad 0 0)), (1, .int (nI x))] := hl
  refine lv_aload_n E1 E2 d_Mo_out_0 rfl (lv_at hl 0 rfl) ?_
  refine g_Mo_vlan F h k_722 d_Mo_out_1 ?_
  refine lv_sipush (v := 240) E1 E2 d_Mo_out_4 (by decide) ?_
  refine ml_vlan F h (i := 240) (by omega) (v := N.2.1 20 240) rfl d_Mo_out_7 ?_
  refine lv_istore_n E1 E2 d_Mo_out_8 rfl hl (by decide) rfl (fun ls hl => ?_)
  have hl : lv_has ls 4 [(2, .int (nI (N.2.1 20 240))), (0, .ref (ad 0 0)), (1, .int (nI x))] := hl
  refine lv_aload_n E1 E2 d_Mo_out_9 rfl (lv_at hl 1 rfl) ?_
  refine g_Mo_state F h k_708 d_Mo_out_10 ?_
  refine lv_iload_n E1 E2 d_Mo_out_13 rfl (lv_at hl 2 rfl) ?_
  refine ml_state F h (i := x) (by omega) (v := N.1 6 x) rfl d_Mo_out_14 ?_
  refine lv_iconst (v := 2) E1 E2 d_Mo_out_15 (by decide) ?_
  refine lv_icmp_ne E1 E2 d_Mo_out_16 rfl (fun h1 => ?_) (fun h1 => ?_)
  · have h1 : ¬ (N.1 6 x = 2) := h1
    refine lv_iconst (v := 0) E1 E2 d_Mo_out_28 (by decide) ?_
    have hq : o_Mo_out N x = (0, N) := if_neg h1
    exact bn_reti2 F hr hk h hq d_Mo_out_29
  · have h1 : N.1 6 x = 2 := h1
    refine lv_aload_n E1 E2 d_Mo_out_19 rfl (lv_at hl 1 rfl) ?_
    refine lv_iload_n E1 E2 d_Mo_out_20 rfl (lv_at hl 2 rfl) ?_
    refine lv_iload_n E1 E2 d_Mo_out_21 rfl (lv_at hl 0 rfl) ?_
    refine bn_calli F h (bn_runV (n := 2) (As := [.int (nI x), .int (nI (N.2.1 20 240))]) (rest := []) F hml hl.1 h mi_0 rfl rfl (c_Mo_has l D ar ad N x (by omega) (nI (N.2.1 20 240)) _) (bn_goodV k_892 k_894 ks_Mo_has k_7 k_895) rfl rfl (by decide) ⟨by decide, by decide⟩ rfl rfl (Nat.le_of_ble_eq_true rfl) d_Mo_out_22 ⟨Nat.zero_le _, Nat.zero_le _⟩) (fun H locs h => ?_)
    refine lv_if_ne E1 E2 d_Mo_out_25 rfl (fun h2 => ?_) (fun h2 => ?_)
    · have h2 : ¬ (r_Mo_has N x (nI (N.2.1 20 240)) = 0) := h2
      refine lv_aload_n E1 E2 d_Mo_out_30 rfl (lv_at hl 1 rfl) ?_
      refine lv_iload_n E1 E2 d_Mo_out_31 rfl (lv_at hl 2 rfl) ?_
      refine bn_calli F h (bn_runV (n := 1) (As := [.int (nI x)]) (rest := []) F hml hl.1 h mi_0 rfl rfl (c_Mo_isLinked l D ar ad N x (by omega) _) (bn_goodV k_864 k_866 ks_Mo_isLinked k_7 k_867) rfl rfl (by decide) ⟨by decide, by decide⟩ rfl rfl (Nat.le_of_ble_eq_true rfl) d_Mo_out_32 ⟨Nat.zero_le _, Nat.zero_le _⟩) (fun H locs h => ?_)
      refine lv_if_eq E1 E2 d_Mo_out_35 rfl (fun h3 => ?_) (fun h3 => ?_)
      · have h3 : r_Mo_isLinked N x = 0 := h3
        refine lv_aload_n E1 E2 d_Mo_out_59 rfl (lv_at hl 1 rfl) ?_
        refine g_Mo_joined F h k_706 d_Mo_out_60 ?_
        refine lv_iload_n E1 E2 d_Mo_out_63 rfl (lv_at hl 2 rfl) ?_
        refine ml_joined F h (i := x) (by omega) (v := N.2.1 4 x) rfl d_Mo_out_64 ?_
        refine lv_bipush (v := 100) E1 E2 d_Mo_out_65 (by decide) ?_
        refine lv_isub E1 E2 d_Mo_out_67 ?_
        have hnl := mo_nl (h.2.2.2.2.1 x) h3 (hP h1)
        have hnl2 := hnl
        have hwjoined : N.2.1 4 x < 108 := mw_joined h.2.2.2 x
        refine bn_ti (y := nI ((N.2.1 4 x) - 100)) (pk_sub (a := (N.2.1 4 x)) (b := 100) (by omega)) ?_
        refine lv_istore_n E1 E2 d_Mo_out_68 rfl hl (by decide) rfl (fun ls hl => ?_)
        have hl : lv_has ls 4 [(3, .int (nI ((N.2.1 4 x) - 100))), (2, .int (nI (N.2.1 20 240))), (0, .ref (ad 0 0)), (1, .int (nI x))] := hl
        refine lv_aload_n E1 E2 d_Mo_out_69 rfl (lv_at hl 2 rfl) ?_
        refine g_Mo_in F h k_730 d_Mo_out_70 ?_
        refine lv_iload_n E1 E2 d_Mo_out_73 rfl (lv_at hl 0 rfl) ?_
        have hwjoined : N.2.1 4 x < 108 := mw_joined h.2.2.2 x
        refine ml_in F h (i := (N.2.1 4 x) - 100) (by omega) (v := N.2.1 28 ((N.2.1 4 x) - 100)) rfl d_Mo_out_74 ?_
        refine lv_iload_n E1 E2 d_Mo_out_75 rfl (lv_at hl 1 rfl) ?_
        have hwin : N.2.1 28 ((N.2.1 4 x) - 100) < 3 := mw_in h.2.2.2 ((N.2.1 4 x) - 100)
        have hwjoined : N.2.1 4 x < 108 := mw_joined h.2.2.2 x
        have hwvlan : N.2.1 20 240 < 3 := mw_vlan h.2.2.2 240
        refine lv_icmp_ne E1 E2 d_Mo_out_76 rfl (fun h4 => ?_) (fun h4 => ?_)
        · have h4 : ¬ ((N.2.1 28 ((N.2.1 4 x) - 100)) = (N.2.1 20 240)) := (fun hw => h4 ((nI_eq (a := N.2.1 28 ((N.2.1 4 x) - 100)) (b := N.2.1 20 240) (by omega) (by omega)).mpr hw))
          refine lv_iconst (v := 1) E1 E2 d_Mo_out_155 (by decide) ?_
          have hq : o_Mo_out N x = (1, N) := Eq.trans (if_pos h1) (Eq.trans (if_neg h2) (Eq.trans (if_pos h3) (if_neg h4)))
          exact bn_reti2 F hr hk h hq d_Mo_out_156
        · have h4 : (N.2.1 28 ((N.2.1 4 x) - 100)) = (N.2.1 20 240) := ((nI_eq (a := N.2.1 28 ((N.2.1 4 x) - 100)) (b := N.2.1 20 240) (by omega) (by omega)).mp h4)
          refine lv_aload_n E1 E2 d_Mo_out_79 rfl (lv_at hl 2 rfl) ?_
          refine g_Mo_got F h k_731 d_Mo_out_80 ?_
          refine lv_iload_n E1 E2 d_Mo_out_83 rfl (lv_at hl 0 rfl) ?_
          have hwjoined : N.2.1 4 x < 108 := mw_joined h.2.2.2 x
          refine ml_got F h (i := (N.2.1 4 x) - 100) (by omega) (v := N.2.1 29 ((N.2.1 4 x) - 100)) rfl d_Mo_out_84 ?_
          refine lv_bipush (v := 40) E1 E2 d_Mo_out_85 (by decide) ?_
          have hwgot : N.2.1 29 ((N.2.1 4 x) - 100) < 41 := mw_got h.2.2.2 ((N.2.1 4 x) - 100)
          have hwjoined : N.2.1 4 x < 108 := mw_joined h.2.2.2 x
          refine lv_icmp_ge E1 E2 d_Mo_out_87 rfl (fun h5 => ?_) (fun h5 => ?_)
          · have h5 : 40 ≤ (N.2.1 29 ((N.2.1 4 x) - 100)) := ((nI_leI (a := 40) (b := N.2.1 29 ((N.2.1 4 x) - 100)) (by omega) (by omega)).mp h5)
            refine lv_iconst (v := 1) E1 E2 d_Mo_out_155 (by decide) ?_
            have hq : o_Mo_out N x = (1, N) := Eq.trans (if_pos h1) (Eq.trans (if_neg h2) (Eq.trans (if_pos h3) (Eq.trans (if_pos h4) (if_pos h5))))
            exact bn_reti2 F hr hk h hq d_Mo_out_156
          · have h5 : ¬ (40 ≤ (N.2.1 29 ((N.2.1 4 x) - 100))) := (fun hw => h5 ((nI_leI (a := 40) (b := N.2.1 29 ((N.2.1 4 x) - 100)) (by omega) (by omega)).mpr hw))
            refine lv_aload_n E1 E2 d_Mo_out_90 rfl (lv_at hl 2 rfl) ?_
            refine g_Mo_inbox F h k_732 d_Mo_out_91 ?_
            refine lv_bipush (v := 40) E1 E2 d_Mo_out_94 (by decide) ?_
            refine lv_iload_n E1 E2 d_Mo_out_96 rfl (lv_at hl 0 rfl) ?_
            refine lv_imul E1 E2 d_Mo_out_97 ?_
            have hwjoined : N.2.1 4 x < 108 := mw_joined h.2.2.2 x
            refine bn_ti (y := nI (40 * ((N.2.1 4 x) - 100))) (pk_mul 40 ((N.2.1 4 x) - 100)) ?_
            refine lv_aload_n E1 E2 d_Mo_out_98 rfl (lv_at hl 2 rfl) ?_
            refine g_Mo_got F h k_731 d_Mo_out_99 ?_
            refine lv_iload_n E1 E2 d_Mo_out_102 rfl (lv_at hl 0 rfl) ?_
            have hwjoined : N.2.1 4 x < 108 := mw_joined h.2.2.2 x
            refine ml_got F h (i := (N.2.1 4 x) - 100) (by omega) (v := N.2.1 29 ((N.2.1 4 x) - 100)) rfl d_Mo_out_103 ?_
            refine lv_iadd E1 E2 d_Mo_out_104 ?_
            have hwjoined : N.2.1 4 x < 108 := mw_joined h.2.2.2 x
            have hwgot : N.2.1 29 ((N.2.1 4 x) - 100) < 41 := mw_got h.2.2.2 ((N.2.1 4 x) - 100)
            refine bn_ti (y := nI ((40 * ((N.2.1 4 x) - 100)) + (N.2.1 29 ((N.2.1 4 x) - 100)))) (nI_add (40 * ((N.2.1 4 x) - 100)) (N.2.1 29 ((N.2.1 4 x) - 100))) ?_
            refine lv_aload_n E1 E2 d_Mo_out_105 rfl (lv_at hl 2 rfl) ?_
            refine g_Mo_value F h k_723 d_Mo_out_106 ?_
            refine lv_sipush (v := 240) E1 E2 d_Mo_out_109 (by decide) ?_
            refine ml_value F h (i := 240) (by omega) (v := N.1 21 240) rfl d_Mo_out_112 ?_
            refine lv_i2l (v := Int32.toInt64 (N.1 21 240)) E1 E2 d_Mo_out_113 rfl ?_
            refine lv_ldc2 (own := "BridgeNetModel") E1 E2 F.2.2.1 (F.2.2.2.1 _ k_900) d_Mo_out_114 ?_
            refine lv_land E1 E2 d_Mo_out_117 ?_
            refine lv_aload_n E1 E2 d_Mo_out_118 rfl (lv_at hl 2 rfl) ?_
            refine g_Mo_source F h k_720 d_Mo_out_119 ?_
            refine lv_sipush (v := 240) E1 E2 d_Mo_out_122 (by decide) ?_
            refine ml_source F h (i := 240) (by omega) (v := N.2.1 18 240) rfl d_Mo_out_125 ?_
            refine lv_i2l (v := Int32.toInt64 (nI (N.2.1 18 240))) E1 E2 d_Mo_out_126 rfl ?_
            refine lv_bipush (v := 32) E1 E2 d_Mo_out_127 (by decide) ?_
            refine lv_lshl (v := (Int32.toInt64 (nI (N.2.1 18 240))) <<< (Int32.toInt64 32 &&& 63)) E1 E2 d_Mo_out_129 rfl ?_
            refine lv_ladd E1 E2 d_Mo_out_130 ?_
            refine lv_aload_n E1 E2 d_Mo_out_131 rfl (lv_at hl 2 rfl) ?_
            refine g_Mo_destination F h k_721 d_Mo_out_132 ?_
            refine lv_sipush (v := 240) E1 E2 d_Mo_out_135 (by decide) ?_
            refine ml_destination F h (i := 240) (by omega) (v := N.2.1 19 240) rfl d_Mo_out_138 ?_
            refine lv_i2l (v := Int32.toInt64 (nI (N.2.1 19 240))) E1 E2 d_Mo_out_139 rfl ?_
            refine lv_bipush (v := 36) E1 E2 d_Mo_out_140 (by decide) ?_
            refine lv_lshl (v := (Int32.toInt64 (nI (N.2.1 19 240))) <<< (Int32.toInt64 36 &&& 63)) E1 E2 d_Mo_out_142 rfl ?_
            refine lv_ladd E1 E2 d_Mo_out_143 ?_
            have hwjoined : N.2.1 4 x < 108 := mw_joined h.2.2.2 x
            have hwgot : N.2.1 29 ((N.2.1 4 x) - 100) < 41 := mw_got h.2.2.2 ((N.2.1 4 x) - 100)
            refine ms_inbox F h (i := (40 * ((N.2.1 4 x) - 100)) + (N.2.1 29 ((N.2.1 4 x) - 100))) (by omega) (v := (((Int32.toInt64 (N.1 21 240)) &&& 4294967295) + ((Int32.toInt64 (nI (N.2.1 18 240))) <<< (Int32.toInt64 32 &&& 63))) + ((Int32.toInt64 (nI (N.2.1 19 240))) <<< (Int32.toInt64 36 &&& 63))) d_Mo_out_144 (fun H locs h => ?_)
            have h : bn_H (mo_y D ar ad) s.heap H locs (sJ N 30 ((40 * ((N.2.1 4 x) - 100)) + (N.2.1 29 ((N.2.1 4 x) - 100))) ((((Int32.toInt64 (N.1 21 240)) &&& 4294967295) + ((Int32.toInt64 (nI (N.2.1 18 240))) <<< (Int32.toInt64 32 &&& 63))) + ((Int32.toInt64 (nI (N.2.1 19 240))) <<< (Int32.toInt64 36 &&& 63)))) := h
            refine lv_aload_n E1 E2 d_Mo_out_145 rfl (lv_at hl 2 rfl) ?_
            refine g_Mo_got F h k_731 d_Mo_out_146 ?_
            refine lv_iload_n E1 E2 d_Mo_out_149 rfl (lv_at hl 0 rfl) ?_
            refine lv_dup2_11 E1 E2 d_Mo_out_150 rfl rfl ?_
            have hwjoined : N.2.1 4 x < 108 := mw_joined h.2.2.2 x
            refine ml_got F h (i := (N.2.1 4 x) - 100) (by omega) (v := N.2.1 29 ((N.2.1 4 x) - 100)) rfl d_Mo_out_151 ?_
            refine lv_iconst (v := 1) E1 E2 d_Mo_out_152 (by decide) ?_
            refine lv_iadd E1 E2 d_Mo_out_153 ?_
            have hwgot : N.2.1 29 ((N.2.1 4 x) - 100) < 41 := mw_got h.2.2.2 ((N.2.1 4 x) - 100)
            have hwjoined : N.2.1 4 x < 108 := mw_joined h.2.2.2 x
            refine bn_ti (y := nI ((N.2.1 29 ((N.2.1 4 x) - 100)) + 1)) (nI_add (N.2.1 29 ((N.2.1 4 x) - 100)) 1) ?_
            have hwjoined : N.2.1 4 x < 108 := mw_joined h.2.2.2 x
            have hwgot : N.2.1 29 ((N.2.1 4 x) - 100) < 41 := mw_got h.2.2.2 ((N.2.1 4 x) - 100)
            have hwjoined : N.2.1 4 x < 108 := mw_joined h.2.2.2 x
            refine ms_got F h (i := (N.2.1 4 x) - 100) (by omega) (v := (N.2.1 29 ((N.2.1 4 x) - 100)) + 1) (by omega) d_Mo_out_154 (fun H locs h => ?_)
            have h : bn_H (mo_y D ar ad) s.heap H locs (sU (sJ N 30 ((40 * ((N.2.1 4 x) - 100)) + (N.2.1 29 ((N.2.1 4 x) - 100))) ((((Int32.toInt64 (N.1 21 240)) &&& 4294967295) + ((Int32.toInt64 (nI (N.2.1 18 240))) <<< (Int32.toInt64 32 &&& 63))) + ((Int32.toInt64 (nI (N.2.1 19 240))) <<< (Int32.toInt64 36 &&& 63)))) 29 ((N.2.1 4 x) - 100) ((N.2.1 29 ((N.2.1 4 x) - 100)) + 1)) := h
            refine lv_iconst (v := 1) E1 E2 d_Mo_out_155 (by decide) ?_
            have hq : o_Mo_out N x = (1, (sU (sJ N 30 ((40 * ((N.2.1 4 x) - 100)) + (N.2.1 29 ((N.2.1 4 x) - 100))) ((((Int32.toInt64 (N.1 21 240)) &&& 4294967295) + ((Int32.toInt64 (nI (N.2.1 18 240))) <<< (Int32.toInt64 32 &&& 63))) + ((Int32.toInt64 (nI (N.2.1 19 240))) <<< (Int32.toInt64 36 &&& 63)))) 29 ((N.2.1 4 x) - 100) ((N.2.1 29 ((N.2.1 4 x) - 100)) + 1))) := Eq.trans (if_pos h1) (Eq.trans (if_neg h2) (Eq.trans (if_pos h3) (Eq.trans (if_pos h4) (if_neg h5))))
            exact bn_reti2 F hr hk h hq d_Mo_out_156
      · have h3 : ¬ (r_Mo_isLinked N x = 0) := h3
        refine lv_aload_n E1 E2 d_Mo_out_38 rfl (lv_at hl 1 rfl) ?_
        refine lv_iload_n E1 E2 d_Mo_out_39 rfl (lv_at hl 2 rfl) ?_
        refine lv_iconst (v := 3) E1 E2 d_Mo_out_40 (by decide) ?_
        have hwf := h.2.2.2
        refine bn_calli F h (bn_runV (n := 2) (As := [.int (nI x), .int 3]) (rest := []) F hml hl.1 h mi_0 rfl rfl (c_Mo_post l D ar ad N x (by omega) 3 (mo_lk (h.2.2.2.2.1 x) h3).1 (mo_lk (h.2.2.2.2.1 x) h3).2 _) (bn_goodV k_876 k_878 ks_Mo_post k_7 k_879) rfl rfl (by decide) ⟨by decide, by decide⟩ rfl rfl (Nat.le_of_ble_eq_true rfl) d_Mo_out_41 ⟨Nat.zero_le _, Nat.zero_le _⟩) (fun H locs h => ?_)
        have h : bn_H (mo_y D ar ad) s.heap H locs (o_Mo_post N x 3).2 := h
        refine lv_istore_n E1 E2 d_Mo_out_44 rfl hl (by decide) rfl (fun ls hl => ?_)
        have hl : lv_has ls 4 [(3, .int ((o_Mo_post N x 3).1)), (2, .int (nI (N.2.1 20 240))), (0, .ref (ad 0 0)), (1, .int (nI x))] := hl
        refine lv_iload_n E1 E2 d_Mo_out_45 rfl (lv_at hl 0 rfl) ?_
        refine lv_if_lt E1 E2 d_Mo_out_46 rfl (fun h6 => ?_) (fun h6 => ?_)
        · have h6 : (o_Mo_post N x 3).1 < 0 := h6
          refine lv_iconst (v := 1) E1 E2 d_Mo_out_57 (by decide) ?_
          have hq : o_Mo_out N x = (1, (o_Mo_post N x 3).2) := Eq.trans (if_pos h1) (Eq.trans (if_neg h2) (Eq.trans (if_neg h3) (if_pos h6)))
          exact bn_reti2 F hr hk h hq d_Mo_out_58
        · have h6 : ¬ ((o_Mo_post N x 3).1 < 0) := h6
          refine lv_aload_n E1 E2 d_Mo_out_49 rfl (lv_at hl 2 rfl) ?_
          refine lv_sipush (v := 240) E1 E2 d_Mo_out_50 (by decide) ?_
          refine lv_iload_n E1 E2 d_Mo_out_53 rfl (lv_at hl 0 rfl) ?_
          have hpl := mo_pst hwf (mo_lk (hwf.2.1 _) h3).1 (mo_lk (hwf.2.1 _) h3).2 h6
          have hpl2 := hpl.2
          refine bn_ti hpl.1 ?_
          refine bn_callv F h (bn_runV (n := 2) (As := [.int 240, .int (nI (((o_Mo_post N x 3).1).toNatClampNeg))]) (rest := []) F hml hl.1 h mi_0 rfl rfl (c_Mo_copy l D ar ad ((o_Mo_post N x 3).2) 240 (by omega) (((o_Mo_post N x 3).1).toNatClampNeg) (by omega) _) (bn_goodV k_821 k_823 ks_Mo_copy k_7 k_824) rfl rfl (by decide) ⟨by decide, by decide⟩ rfl rfl (Nat.le_of_ble_eq_true rfl) d_Mo_out_54 ⟨Nat.zero_le _, Nat.zero_le _⟩) (fun H locs h => ?_)
          have h : bn_H (mo_y D ar ad) s.heap H locs (o_Mo_copy ((o_Mo_post N x 3).2) 240 (((o_Mo_post N x 3).1).toNatClampNeg)) := h
          refine lv_iconst (v := 1) E1 E2 d_Mo_out_57 (by decide) ?_
          have hq : o_Mo_out N x = (1, (o_Mo_copy ((o_Mo_post N x 3).2) 240 (((o_Mo_post N x 3).1).toNatClampNeg))) := Eq.trans (if_pos h1) (Eq.trans (if_neg h2) (Eq.trans (if_neg h3) (if_neg h6)))
          exact bn_reti2 F hr hk h hq d_Mo_out_58
    · have h2 : r_Mo_has N x (nI (N.2.1 20 240)) = 0 := h2
      refine lv_iconst (v := 0) E1 E2 d_Mo_out_28 (by decide) ?_
      have hq : o_Mo_out N x = (0, N) := Eq.trans (if_pos h1) (if_pos h2)
      exact bn_reti2 F hr hk h hq d_Mo_out_29
theorem kP_out {N : bn_S} {x : Nat} (h : mo_P N) : mo_P (o_Mo_out N x).2 := by
  have key : (o_Mo_out N x).2.1 6 = N.1 6 ∧ (o_Mo_out N x).2.2.1 4 = N.2.1 4 := by
    unfold o_Mo_out
    repeat' split
    all_goals first | exact ⟨rfl, rfl⟩ | exact ⟨(ks_copy _ _ _).trans (ks_post _ _ _), (kj_copy _ _ _).trans (kj_post _ _ _)⟩ | exact ⟨ks_post _ _ _, kj_post _ _ _⟩ | exact ⟨rfl, by funext i; simp [sU, sJ, bn_up]⟩
  intro y hy h2
  rw [key.1] at h2
  rw [key.2]
  exact h y hy h2
def bd_Mo_frameU (x : Nat) (k : Nat) (q : Int32 × bn_S) : Int32 × bn_S := (if (4 * (x / 4) + k) = x then ((q.1) + 0, q.2) else ((q.1) + ((o_Mo_out (q.2) (4 * (x / 4) + k)).1), (o_Mo_out (q.2) (4 * (x / 4) + k)).2))
def it_Mo_frameU (x : Nat) (q0 : Int32 × bn_S) : Nat → Int32 × bn_S
  | 0 => q0
  | k + 1 => bd_Mo_frameU x k (it_Mo_frameU x q0 k)
theorem it_Mo_frameU_0 (x : Nat) (q0 : Int32 × bn_S) : bd_Mo_frameU x 0 q0 = it_Mo_frameU x q0 1 := rfl
theorem it_Mo_frameU_s (x : Nat) (q0 : Int32 × bn_S) (k : Nat) : bd_Mo_frameU x k (it_Mo_frameU x q0 k) = it_Mo_frameU x q0 (k + 1) := rfl
def bd_Mo_frameL (x : Nat) (gj : Nat) (k : Nat) (q : Int32 × bn_S) : Int32 × bn_S := (if (4 * (x / 4) + k) = x then ((q.1) + 0, q.2) else (if ((q.2).2.1 26 gj) = ((4 * (x / 4) + k) % 4) then ((q.1) + ((o_Mo_out (q.2) (4 * (x / 4) + k)).1), (o_Mo_out (q.2) (4 * (x / 4) + k)).2) else ((q.1) + 0, q.2)))
def it_Mo_frameL (x : Nat) (gj : Nat) (q0 : Int32 × bn_S) : Nat → Int32 × bn_S
  | 0 => q0
  | k + 1 => bd_Mo_frameL x gj k (it_Mo_frameL x gj q0 k)
theorem it_Mo_frameL_0 (x : Nat) (gj : Nat) (q0 : Int32 × bn_S) : bd_Mo_frameL x gj 0 q0 = it_Mo_frameL x gj q0 1 := rfl
theorem it_Mo_frameL_s (x : Nat) (gj : Nat) (q0 : Int32 × bn_S) (k : Nat) : bd_Mo_frameL x gj k (it_Mo_frameL x gj q0 k) = it_Mo_frameL x gj q0 (k + 1) := rfl
def o_Mo_frame (N : bn_S) (x : Nat) : Int32 × bn_S := (if N.1 6 x = 0 then (0, N) else (if r_Mo_has N x (nI (N.2.1 20 240)) = 0 then (0, N) else (if N.1 6 x = 2 then (if (N.2.1 19 240) = 9 then (0, (sU (sI N 25 ((((16 * (x / 4)) + (2 * (N.2.1 18 240))) + (N.2.1 20 240)) - 1) 12) 26 ((((16 * (x / 4)) + (2 * (N.2.1 18 240))) + (N.2.1 20 240)) - 1) (x % 4))) else (if 8 ≤ (N.2.1 19 240) then ((it_Mo_frameU x (0, (sU (sI N 25 ((((16 * (x / 4)) + (2 * (N.2.1 18 240))) + (N.2.1 20 240)) - 1) 12) 26 ((((16 * (x / 4)) + (2 * (N.2.1 18 240))) + (N.2.1 20 240)) - 1) (x % 4))) 4).1, (it_Mo_frameU x (0, (sU (sI N 25 ((((16 * (x / 4)) + (2 * (N.2.1 18 240))) + (N.2.1 20 240)) - 1) 12) 26 ((((16 * (x / 4)) + (2 * (N.2.1 18 240))) + (N.2.1 20 240)) - 1) (x % 4))) 4).2) else (if (sI N 25 ((((16 * (x / 4)) + (2 * (N.2.1 18 240))) + (N.2.1 20 240)) - 1) 12).1 25 ((((16 * (x / 4)) + (2 * (N.2.1 19 240))) + (N.2.1 20 240)) - 1) ≤ 0 then ((it_Mo_frameU x (0, (sU (sI N 25 ((((16 * (x / 4)) + (2 * (N.2.1 18 240))) + (N.2.1 20 240)) - 1) 12) 26 ((((16 * (x / 4)) + (2 * (N.2.1 18 240))) + (N.2.1 20 240)) - 1) (x % 4))) 4).1, (it_Mo_frameU x (0, (sU (sI N 25 ((((16 * (x / 4)) + (2 * (N.2.1 18 240))) + (N.2.1 20 240)) - 1) 12) 26 ((((16 * (x / 4)) + (2 * (N.2.1 18 240))) + (N.2.1 20 240)) - 1) (x % 4))) 4).2) else ((it_Mo_frameL x ((((16 * (x / 4)) + (2 * (N.2.1 19 240))) + (N.2.1 20 240)) - 1) (0, (sU (sI N 25 ((((16 * (x / 4)) + (2 * (N.2.1 18 240))) + (N.2.1 20 240)) - 1) 12) 26 ((((16 * (x / 4)) + (2 * (N.2.1 18 240))) + (N.2.1 20 240)) - 1) (x % 4))) 4).1, (it_Mo_frameL x ((((16 * (x / 4)) + (2 * (N.2.1 19 240))) + (N.2.1 20 240)) - 1) (0, (sU (sI N 25 ((((16 * (x / 4)) + (2 * (N.2.1 18 240))) + (N.2.1 20 240)) - 1) 12) 26 ((((16 * (x / 4)) + (2 * (N.2.1 18 240))) + (N.2.1 20 240)) - 1) (x % 4))) 4).2)))) else (0, (sU (sI N 25 ((((16 * (x / 4)) + (2 * (N.2.1 18 240))) + (N.2.1 20 240)) - 1) 12) 26 ((((16 * (x / 4)) + (2 * (N.2.1 18 240))) + (N.2.1 20 240)) - 1) (x % 4))))))
set_option maxHeartbeats 4000000 in
set_option maxRecDepth 100000 in
theorem c_Mo_frame (l : Launch) (D : va_G) (ar : Nat → ClassId) (ad : Nat → Nat → Nat) (N : bn_S)  (x : Nat) (hx : x < 20) (hP0 : mo_P N) (hv1 : 1 ≤ N.2.1 20 240) : bn_I l y_Mo_frame w_Mo_frame { frames := 2, cells := 0, slots := 0, locals := 47 } (mo_y D ar ad) N [.ref (ad 0 0), .int (nI x)] (o_Mo_frame N x).1 (o_Mo_frame N x).2 := by
  intro sz
  refine bn_start (cc := b_Mo_frame) (maxL := 11) (ret := (Option.some Jvm.ClassFile.FieldType.int)) (by decide) rfl (Nat.le_of_ble_eq_true rfl) ?_
  intro p e s m args below meth c ls hsz F hml hr hk hl h
  subst hsz
  have E1 := F.1
  have E2 := F.2.1
  have hl : lv_has ls 11 [(0, .ref (ad 0 0)), (1, .int (nI x))] := hl
  refine lv_aload_n E1 E2 d_Mo_frame_0 rfl (lv_at hl 0 rfl) ?_
  refine g_Mo_vlan F h k_722 d_Mo_frame_1 ?_
  refine lv_sipush (v := 240) E1 E2 d_Mo_frame_4 (by decide) ?_
  refine ml_vlan F h (i := 240) (by omega) (v := N.2.1 20 240) rfl d_Mo_frame_7 ?_
  refine lv_istore_n E1 E2 d_Mo_frame_8 rfl hl (by decide) rfl (fun ls hl => ?_)
  have hl : lv_has ls 11 [(2, .int (nI (N.2.1 20 240))), (0, .ref (ad 0 0)), (1, .int (nI x))] := hl
  refine lv_iload_n E1 E2 d_Mo_frame_9 rfl (lv_at hl 2 rfl) ?_
  refine lv_iconst (v := 4) E1 E2 d_Mo_frame_10 (by decide) ?_
  refine lv_idiv E1 E2 d_Mo_frame_11 (by decide) ?_
  refine bn_ti (y := nI (x / 4)) (pk_div (a := x) (d := 4) (by omega) (by omega) (by omega)) ?_
  refine lv_istore_n E1 E2 d_Mo_frame_12 rfl hl (by decide) rfl (fun ls hl => ?_)
  have hl : lv_has ls 11 [(3, .int (nI (x / 4))), (2, .int (nI (N.2.1 20 240))), (0, .ref (ad 0 0)), (1, .int (nI x))] := hl
  refine lv_aload_n E1 E2 d_Mo_frame_13 rfl (lv_at hl 2 rfl) ?_
  refine g_Mo_state F h k_708 d_Mo_frame_14 ?_
  refine lv_iload_n E1 E2 d_Mo_frame_17 rfl (lv_at hl 3 rfl) ?_
  refine ml_state F h (i := x) (by omega) (v := N.1 6 x) rfl d_Mo_frame_18 ?_
  refine lv_if_eq E1 E2 d_Mo_frame_19 rfl (fun h1 => ?_) (fun h1 => ?_)
  · have h1 : N.1 6 x = 0 := h1
    refine lv_iconst (v := 0) E1 E2 d_Mo_frame_31 (by decide) ?_
    have hq : o_Mo_frame N x = (0, N) := if_pos h1
    exact bn_reti2 F hr hk h hq d_Mo_frame_32
  · have h1 : ¬ (N.1 6 x = 0) := h1
    refine lv_aload_n E1 E2 d_Mo_frame_22 rfl (lv_at hl 2 rfl) ?_
    refine lv_iload_n E1 E2 d_Mo_frame_23 rfl (lv_at hl 3 rfl) ?_
    refine lv_iload_n E1 E2 d_Mo_frame_24 rfl (lv_at hl 1 rfl) ?_
    refine bn_calli F h (bn_runV (n := 2) (As := [.int (nI x), .int (nI (N.2.1 20 240))]) (rest := []) F hml hl.1 h mi_0 rfl rfl (c_Mo_has l D ar ad N x (by omega) (nI (N.2.1 20 240)) _) (bn_goodV k_892 k_894 ks_Mo_has k_7 k_895) rfl rfl (by decide) ⟨by decide, by decide⟩ rfl rfl (Nat.le_of_ble_eq_true rfl) d_Mo_frame_25 ⟨Nat.zero_le _, Nat.zero_le _⟩) (fun H locs h => ?_)
    refine lv_if_ne E1 E2 d_Mo_frame_28 rfl (fun h2 => ?_) (fun h2 => ?_)
    · have h2 : ¬ (r_Mo_has N x (nI (N.2.1 20 240)) = 0) := h2
      refine lv_bipush (v := 16) E1 E2 d_Mo_frame_33 (by decide) ?_
      refine lv_iload_n E1 E2 d_Mo_frame_35 rfl (lv_at hl 0 rfl) ?_
      refine lv_imul E1 E2 d_Mo_frame_36 ?_
      refine bn_ti (y := nI (16 * (x / 4))) (pk_mul 16 (x / 4)) ?_
      refine lv_iconst (v := 2) E1 E2 d_Mo_frame_37 (by decide) ?_
      refine lv_aload_n E1 E2 d_Mo_frame_38 rfl (lv_at hl 2 rfl) ?_
      refine g_Mo_source F h k_720 d_Mo_frame_39 ?_
      refine lv_sipush (v := 240) E1 E2 d_Mo_frame_42 (by decide) ?_
      refine ml_source F h (i := 240) (by omega) (v := N.2.1 18 240) rfl d_Mo_frame_45 ?_
      refine lv_imul E1 E2 d_Mo_frame_46 ?_
      have hwsource : N.2.1 18 240 < 8 := mw_source h.2.2.2 240
      refine bn_ti (y := nI (2 * (N.2.1 18 240))) (pk_mul 2 (N.2.1 18 240)) ?_
      refine lv_iadd E1 E2 d_Mo_frame_47 ?_
      have hwsource : N.2.1 18 240 < 8 := mw_source h.2.2.2 240
      refine bn_ti (y := nI ((16 * (x / 4)) + (2 * (N.2.1 18 240)))) (nI_add (16 * (x / 4)) (2 * (N.2.1 18 240))) ?_
      refine lv_iload_n E1 E2 d_Mo_frame_48 rfl (lv_at hl 1 rfl) ?_
      refine lv_iadd E1 E2 d_Mo_frame_49 ?_
      have hwsource : N.2.1 18 240 < 8 := mw_source h.2.2.2 240
      have hwvlan : N.2.1 20 240 < 3 := mw_vlan h.2.2.2 240
      refine bn_ti (y := nI (((16 * (x / 4)) + (2 * (N.2.1 18 240))) + (N.2.1 20 240))) (nI_add ((16 * (x / 4)) + (2 * (N.2.1 18 240))) (N.2.1 20 240)) ?_
      refine lv_iconst (v := 1) E1 E2 d_Mo_frame_50 (by decide) ?_
      refine lv_isub E1 E2 d_Mo_frame_51 ?_
      have hwsource : N.2.1 18 240 < 8 := mw_source h.2.2.2 240
      have hwvlan : N.2.1 20 240 < 3 := mw_vlan h.2.2.2 240
      refine bn_ti (y := nI ((((16 * (x / 4)) + (2 * (N.2.1 18 240))) + (N.2.1 20 240)) - 1)) (pk_sub (a := (((16 * (x / 4)) + (2 * (N.2.1 18 240))) + (N.2.1 20 240))) (b := 1) (by omega)) ?_
      refine lv_istore E1 E2 d_Mo_frame_52 hl (by decide) rfl (fun ls hl => ?_)
      have hl : lv_has ls 11 [(4, .int (nI ((((16 * (x / 4)) + (2 * (N.2.1 18 240))) + (N.2.1 20 240)) - 1))), (3, .int (nI (x / 4))), (2, .int (nI (N.2.1 20 240))), (0, .ref (ad 0 0)), (1, .int (nI x))] := hl
      refine lv_aload_n E1 E2 d_Mo_frame_54 rfl (lv_at hl 3 rfl) ?_
      refine g_Mo_known F h k_727 d_Mo_frame_55 ?_
      refine lv_iload E1 E2 d_Mo_frame_58 (lv_at hl 0 rfl) ?_
      refine lv_bipush (v := 12) E1 E2 d_Mo_frame_60 (by decide) ?_
      have hwsource : N.2.1 18 240 < 8 := mw_source h.2.2.2 240
      have hwvlan : N.2.1 20 240 < 3 := mw_vlan h.2.2.2 240
      refine ms_known F h (i := (((16 * (x / 4)) + (2 * (N.2.1 18 240))) + (N.2.1 20 240)) - 1) (by omega) (v := 12) d_Mo_frame_62 (fun H locs h => ?_)
      have h : bn_H (mo_y D ar ad) s.heap H locs (sI N 25 ((((16 * (x / 4)) + (2 * (N.2.1 18 240))) + (N.2.1 20 240)) - 1) 12) := h
      refine lv_aload_n E1 E2 d_Mo_frame_63 rfl (lv_at hl 3 rfl) ?_
      refine g_Mo_behind F h k_728 d_Mo_frame_64 ?_
      refine lv_iload E1 E2 d_Mo_frame_67 (lv_at hl 0 rfl) ?_
      refine lv_iload_n E1 E2 d_Mo_frame_69 rfl (lv_at hl 4 rfl) ?_
      refine lv_iconst (v := 4) E1 E2 d_Mo_frame_70 (by decide) ?_
      refine lv_irem E1 E2 d_Mo_frame_71 (by decide) ?_
      refine bn_ti (y := nI (x % 4)) (pk_rem (a := x) (d := 4) (by omega) (by omega) (by omega)) ?_
      have hwsource : N.2.1 18 240 < 8 := mw_source h.2.2.2 240
      have hwvlan : N.2.1 20 240 < 3 := mw_vlan h.2.2.2 240
      refine ms_behind F h (i := (((16 * (x / 4)) + (2 * (N.2.1 18 240))) + (N.2.1 20 240)) - 1) (by omega) (v := x % 4) (by omega) d_Mo_frame_72 (fun H locs h => ?_)
      have h : bn_H (mo_y D ar ad) s.heap H locs (sU (sI N 25 ((((16 * (x / 4)) + (2 * (N.2.1 18 240))) + (N.2.1 20 240)) - 1) 12) 26 ((((16 * (x / 4)) + (2 * (N.2.1 18 240))) + (N.2.1 20 240)) - 1) (x % 4)) := h
      refine lv_aload_n E1 E2 d_Mo_frame_73 rfl (lv_at hl 3 rfl) ?_
      refine g_Mo_destination F h k_721 d_Mo_frame_74 ?_
      refine lv_sipush (v := 240) E1 E2 d_Mo_frame_77 (by decide) ?_
      refine ml_destination F h (i := 240) (by omega) (v := N.2.1 19 240) rfl d_Mo_frame_80 ?_
      refine lv_istore E1 E2 d_Mo_frame_81 hl (by decide) rfl (fun ls hl => ?_)
      have hl : lv_has ls 11 [(5, .int (nI (N.2.1 19 240))), (4, .int (nI ((((16 * (x / 4)) + (2 * (N.2.1 18 240))) + (N.2.1 20 240)) - 1))), (3, .int (nI (x / 4))), (2, .int (nI (N.2.1 20 240))), (0, .ref (ad 0 0)), (1, .int (nI x))] := hl
      refine lv_aload_n E1 E2 d_Mo_frame_83 rfl (lv_at hl 4 rfl) ?_
      refine g_Mo_state F h k_708 d_Mo_frame_84 ?_
      refine lv_iload_n E1 E2 d_Mo_frame_87 rfl (lv_at hl 5 rfl) ?_
      refine ml_state F h (i := x) (by omega) (v := N.1 6 x) rfl d_Mo_frame_88 ?_
      refine lv_iconst (v := 2) E1 E2 d_Mo_frame_89 (by decide) ?_
      refine lv_icmp_ne E1 E2 d_Mo_frame_90 rfl (fun h3 => ?_) (fun h3 => ?_)
      · have h3 : ¬ (N.1 6 x = 2) := h3
        refine lv_iconst (v := 0) E1 E2 d_Mo_frame_100 (by decide) ?_
        have hq : o_Mo_frame N x = (0, (sU (sI N 25 ((((16 * (x / 4)) + (2 * (N.2.1 18 240))) + (N.2.1 20 240)) - 1) 12) 26 ((((16 * (x / 4)) + (2 * (N.2.1 18 240))) + (N.2.1 20 240)) - 1) (x % 4))) := Eq.trans (if_neg h1) (Eq.trans (if_neg h2) (if_neg h3))
        exact bn_reti2 F hr hk h hq d_Mo_frame_101
      · have h3 : N.1 6 x = 2 := h3
        refine lv_iload E1 E2 d_Mo_frame_93 (lv_at hl 0 rfl) ?_
        refine lv_bipush (v := 9) E1 E2 d_Mo_frame_95 (by decide) ?_
        have hwdestination : N.2.1 19 240 < 10 := mw_destination h.2.2.2 240
        refine lv_icmp_ne E1 E2 d_Mo_frame_97 rfl (fun h4 => ?_) (fun h4 => ?_)
        · have h4 : ¬ ((N.2.1 19 240) = 9) := (fun hw => h4 ((nI_eq (a := N.2.1 19 240) (b := 9) (by omega) (by omega)).mpr hw))
          refine lv_iload E1 E2 d_Mo_frame_102 (lv_at hl 0 rfl) ?_
          refine lv_bipush (v := 8) E1 E2 d_Mo_frame_104 (by decide) ?_
          have hwdestination : N.2.1 19 240 < 10 := mw_destination h.2.2.2 240
          refine lv_icmp_ge E1 E2 d_Mo_frame_106 rfl (fun h5 => ?_) (fun h5 => ?_)
          · have h5 : 8 ≤ (N.2.1 19 240) := ((nI_leI (a := 8) (b := N.2.1 19 240) (by omega) (by omega)).mp h5)
            refine lv_iconst (v := (-1)) E1 E2 d_Mo_frame_125 (by decide) ?_
            refine lv_istore E1 E2 d_Mo_frame_126 hl (by decide) rfl (fun ls hl => ?_)
            have hl : lv_has ls 11 [(6, .int (-1)), (5, .int (nI (N.2.1 19 240))), (4, .int (nI ((((16 * (x / 4)) + (2 * (N.2.1 18 240))) + (N.2.1 20 240)) - 1))), (3, .int (nI (x / 4))), (2, .int (nI (N.2.1 20 240))), (0, .ref (ad 0 0)), (1, .int (nI x))] := hl
            refine lv_iload E1 E2 d_Mo_frame_128 (lv_at hl 0 rfl) ?_
            refine lv_if_lt E1 E2 d_Mo_frame_130 rfl (fun _ => ?_) (fun hz => absurd hz (by decide))
            refine lv_iconst (v := 0) E1 E2 d_Mo_frame_147 (by decide) ?_
            refine lv_istore E1 E2 d_Mo_frame_148 hl (by decide) rfl (fun ls hl => ?_)
            have hl : lv_has ls 11 [(7, .int 0), (6, .int (-1)), (5, .int (nI (N.2.1 19 240))), (4, .int (nI ((((16 * (x / 4)) + (2 * (N.2.1 18 240))) + (N.2.1 20 240)) - 1))), (3, .int (nI (x / 4))), (2, .int (nI (N.2.1 20 240))), (0, .ref (ad 0 0)), (1, .int (nI x))] := hl
            refine lv_iconst (v := 0) E1 E2 d_Mo_frame_150 (by decide) ?_
            refine lv_istore E1 E2 d_Mo_frame_151 hl (by decide) rfl (fun ls hl => ?_)
            have hl : lv_has ls 11 [(8, .int 0), (7, .int 0), (6, .int (-1)), (5, .int (nI (N.2.1 19 240))), (4, .int (nI ((((16 * (x / 4)) + (2 * (N.2.1 18 240))) + (N.2.1 20 240)) - 1))), (3, .int (nI (x / 4))), (2, .int (nI (N.2.1 20 240))), (0, .ref (ad 0 0)), (1, .int (nI x))] := hl
            refine lv_iconst (v := 4) E1 E2 d_Mo_frame_153 (by decide) ?_
            refine lv_iload_n E1 E2 d_Mo_frame_154 rfl (lv_at hl 5 rfl) ?_
            refine lv_imul E1 E2 d_Mo_frame_155 ?_
            refine bn_ti (y := nI (4 * (x / 4))) (pk_mul 4 (x / 4)) ?_
            refine lv_istore E1 E2 d_Mo_frame_156 hl (by decide) rfl (fun ls hl => ?_)
            have hl : lv_has ls 11 [(9, .int (nI (4 * (x / 4)))), (8, .int 0), (7, .int 0), (6, .int (-1)), (5, .int (nI (N.2.1 19 240))), (4, .int (nI ((((16 * (x / 4)) + (2 * (N.2.1 18 240))) + (N.2.1 20 240)) - 1))), (3, .int (nI (x / 4))), (2, .int (nI (N.2.1 20 240))), (0, .ref (ad 0 0)), (1, .int (nI x))] := hl
            have hs158 : ∀ (Q0 : State → Prop) (k : Nat), k < 4 → ∀ (q : Int32 × bn_S) (H : Heap) (locs : List Loc) (ls : Array Slot), lv_has ls 11 [(0, .ref (ad 0 0)), (1, .int (nI x)), (3, .int (nI (x / 4))), (7, .int 0), (8, .int (q.1)), (9, .int (nI (4 * (x / 4) + k)))] → bn_H (mo_y D ar ad) s.heap H locs q.2 → mo_P (q.2) → (∀ (H : Heap) (locs : List Loc) (ls : Array Slot), lv_has ls 11 [(0, .ref (ad 0 0)), (1, .int (nI x)), (3, .int (nI (x / 4))), (7, .int 0), (8, .int ((bd_Mo_frameU x k q).1)), (9, .int (nI (4 * (x / 4) + k + 1)))] → bn_H (mo_y D ar ad) s.heap H locs (bd_Mo_frameU x k q).2 → mo_P ((bd_Mo_frameU x k q).2) → W p l e { frames := 2, cells := 0, slots := 0, locals := 47 } s m args below meth c H locs 0 0 Q0 (F0 m 158 ls [])) → W p l e { frames := 2, cells := 0, slots := 0, locals := 47 } s m args below meth c H locs 0 0 Q0 (F0 m 158 ls []) := by
              intro Q0 k hkk q H locs ls hl h hinv kk
              refine lv_iload E1 E2 d_Mo_frame_158 (lv_at hl 5 rfl) ?_
              refine lv_iconst (v := 4) E1 E2 d_Mo_frame_160 (by decide) ?_
              refine lv_iload_n E1 E2 d_Mo_frame_161 rfl (lv_at hl 2 rfl) ?_
              refine lv_imul E1 E2 d_Mo_frame_162 ?_
              refine bn_ti (y := nI (4 * (x / 4))) (pk_mul 4 (x / 4)) ?_
              refine lv_iconst (v := 4) E1 E2 d_Mo_frame_163 (by decide) ?_
              refine lv_iadd E1 E2 d_Mo_frame_164 ?_
              refine bn_ti (y := nI ((4 * (x / 4)) + 4)) (nI_add (4 * (x / 4)) 4) ?_
              refine lv_icmp_ge E1 E2 d_Mo_frame_165 rfl (fun hz => absurd ((nI_leI (a := (4 * (x / 4)) + 4) (b := 4 * (x / 4) + k) (by omega) (by omega)).mp hz) (by omega)) (fun _ => ?_)
              refine lv_iload E1 E2 d_Mo_frame_168 (lv_at hl 5 rfl) ?_
              refine lv_iload_n E1 E2 d_Mo_frame_170 rfl (lv_at hl 1 rfl) ?_
              refine lv_icmp_eq E1 E2 d_Mo_frame_171 rfl (fun h6 => ?_) (fun h6 => ?_)
              · have h6 : (4 * (x / 4) + k) = x := ((nI_eq (a := 4 * (x / 4) + k) (b := x) (by omega) (by omega)).mp h6)
                refine lv_iconst (v := 0) E1 E2 d_Mo_frame_197 (by decide) ?_
                refine lv_istore E1 E2 d_Mo_frame_198 hl (by decide) rfl (fun ls hl => ?_)
                have hl : lv_has ls 11 [(10, .int 0), (0, .ref (ad 0 0)), (1, .int (nI x)), (3, .int (nI (x / 4))), (7, .int 0), (8, .int (q.1)), (9, .int (nI (4 * (x / 4) + k)))] := hl
                refine lv_iload E1 E2 d_Mo_frame_200 (lv_at hl 5 rfl) ?_
                refine lv_iload E1 E2 d_Mo_frame_202 (lv_at hl 0 rfl) ?_
                refine lv_if_eq E1 E2 d_Mo_frame_204 rfl (fun _ => ?_) (fun hz => absurd hz (by decide))
                refine lv_iconst (v := 0) E1 E2 d_Mo_frame_216 (by decide) ?_
                refine lv_iadd E1 E2 d_Mo_frame_217 ?_
                refine lv_istore E1 E2 d_Mo_frame_218 hl (by decide) rfl (fun ls hl => ?_)
                have hl : lv_has ls 11 [(8, .int ((q.1) + 0)), (10, .int 0), (0, .ref (ad 0 0)), (1, .int (nI x)), (3, .int (nI (x / 4))), (7, .int 0), (9, .int (nI (4 * (x / 4) + k)))] := hl
                refine lv_iinc (v := (nI (4 * (x / 4) + k + 1))) E1 E2 d_Mo_frame_220 hl (k := 6) rfl (nI_1 _) (by decide) rfl (fun ls hl => ?_)
                have hl : lv_has ls 11 [(9, .int (nI (4 * (x / 4) + k + 1))), (8, .int ((q.1) + 0)), (10, .int 0), (0, .ref (ad 0 0)), (1, .int (nI x)), (3, .int (nI (x / 4))), (7, .int 0)] := hl
                refine lv_goto E1 E2 d_Mo_frame_223 rfl ?_
                have hq : (bd_Mo_frameU x k q) = ((q.1) + 0, q.2) := if_pos h6
                rw [hq] at kk
                exact kk _ _ ls (lv_sub hl [3, 4, 5, 6, 1, 0] rfl) h hinv
              · have h6 : ¬ ((4 * (x / 4) + k) = x) := (fun hw => h6 ((nI_eq (a := 4 * (x / 4) + k) (b := x) (by omega) (by omega)).mpr hw))
                refine lv_iload E1 E2 d_Mo_frame_174 (lv_at hl 3 rfl) ?_
                refine lv_if_eq E1 E2 d_Mo_frame_176 rfl (fun _ => ?_) (fun hz => absurd hz (by decide))
                refine lv_iconst (v := 1) E1 E2 d_Mo_frame_193 (by decide) ?_
                refine lv_goto E1 E2 d_Mo_frame_194 rfl ?_
                refine lv_istore E1 E2 d_Mo_frame_198 hl (by decide) rfl (fun ls hl => ?_)
                have hl : lv_has ls 11 [(10, .int 1), (0, .ref (ad 0 0)), (1, .int (nI x)), (3, .int (nI (x / 4))), (7, .int 0), (8, .int (q.1)), (9, .int (nI (4 * (x / 4) + k)))] := hl
                refine lv_iload E1 E2 d_Mo_frame_200 (lv_at hl 5 rfl) ?_
                refine lv_iload E1 E2 d_Mo_frame_202 (lv_at hl 0 rfl) ?_
                refine lv_if_eq E1 E2 d_Mo_frame_204 rfl (fun hz => absurd hz (by decide)) (fun _ => ?_)
                refine lv_aload_n E1 E2 d_Mo_frame_207 rfl (lv_at hl 1 rfl) ?_
                refine lv_iload E1 E2 d_Mo_frame_208 (lv_at hl 6 rfl) ?_
                refine bn_calli F h (bn_runV (n := 1) (As := [.int (nI (4 * (x / 4) + k))]) (rest := [.int (q.1)]) F hml hl.1 h mi_0 rfl rfl (c_Mo_out l D ar ad (q.2) (4 * (x / 4) + k) (by omega) (hinv _ (by omega)) _) (bn_goodV k_896 k_898 ks_Mo_out k_7 k_899) rfl rfl (by decide) ⟨by decide, by decide⟩ rfl rfl (Nat.le_of_ble_eq_true rfl) d_Mo_frame_210 ⟨Nat.zero_le _, Nat.zero_le _⟩) (fun H locs h => ?_)
                have h : bn_H (mo_y D ar ad) s.heap H locs (o_Mo_out (q.2) (4 * (x / 4) + k)).2 := h
                refine lv_goto E1 E2 d_Mo_frame_213 rfl ?_
                refine lv_iadd E1 E2 d_Mo_frame_217 ?_
                refine lv_istore E1 E2 d_Mo_frame_218 hl (by decide) rfl (fun ls hl => ?_)
                have hl : lv_has ls 11 [(8, .int ((q.1) + ((o_Mo_out (q.2) (4 * (x / 4) + k)).1))), (10, .int 1), (0, .ref (ad 0 0)), (1, .int (nI x)), (3, .int (nI (x / 4))), (7, .int 0), (9, .int (nI (4 * (x / 4) + k)))] := hl
                refine lv_iinc (v := (nI (4 * (x / 4) + k + 1))) E1 E2 d_Mo_frame_220 hl (k := 6) rfl (nI_1 _) (by decide) rfl (fun ls hl => ?_)
                have hl : lv_has ls 11 [(9, .int (nI (4 * (x / 4) + k + 1))), (8, .int ((q.1) + ((o_Mo_out (q.2) (4 * (x / 4) + k)).1))), (10, .int 1), (0, .ref (ad 0 0)), (1, .int (nI x)), (3, .int (nI (x / 4))), (7, .int 0)] := hl
                refine lv_goto E1 E2 d_Mo_frame_223 rfl ?_
                have hq : (bd_Mo_frameU x k q) = ((q.1) + ((o_Mo_out (q.2) (4 * (x / 4) + k)).1), (o_Mo_out (q.2) (4 * (x / 4) + k)).2) := if_neg h6
                rw [hq] at kk
                exact kk _ _ ls (lv_sub hl [3, 4, 5, 6, 1, 0] rfl) h (kP_out hinv)
            refine hs158 _ 0 (by decide) (0, (sU (sI N 25 ((((16 * (x / 4)) + (2 * (N.2.1 18 240))) + (N.2.1 20 240)) - 1) 12) 26 ((((16 * (x / 4)) + (2 * (N.2.1 18 240))) + (N.2.1 20 240)) - 1) (x % 4))) _ _ ls (lv_sub hl [8, 9, 6, 2, 1, 0] rfl) h hP0 (fun H locs ls hl h hinv => ?_)
            rw [it_Mo_frameU_0] at hl h hinv
            refine hs158 _ 1 (by decide) (it_Mo_frameU x (0, (sU (sI N 25 ((((16 * (x / 4)) + (2 * (N.2.1 18 240))) + (N.2.1 20 240)) - 1) 12) 26 ((((16 * (x / 4)) + (2 * (N.2.1 18 240))) + (N.2.1 20 240)) - 1) (x % 4))) 1) _ _ ls hl h hinv (fun H locs ls hl h hinv => ?_)
            rw [it_Mo_frameU_s] at hl h hinv
            refine hs158 _ 2 (by decide) (it_Mo_frameU x (0, (sU (sI N 25 ((((16 * (x / 4)) + (2 * (N.2.1 18 240))) + (N.2.1 20 240)) - 1) 12) 26 ((((16 * (x / 4)) + (2 * (N.2.1 18 240))) + (N.2.1 20 240)) - 1) (x % 4))) 2) _ _ ls hl h hinv (fun H locs ls hl h hinv => ?_)
            rw [it_Mo_frameU_s] at hl h hinv
            refine hs158 _ 3 (by decide) (it_Mo_frameU x (0, (sU (sI N 25 ((((16 * (x / 4)) + (2 * (N.2.1 18 240))) + (N.2.1 20 240)) - 1) 12) 26 ((((16 * (x / 4)) + (2 * (N.2.1 18 240))) + (N.2.1 20 240)) - 1) (x % 4))) 3) _ _ ls hl h hinv (fun H locs ls hl h hinv => ?_)
            rw [it_Mo_frameU_s] at hl h hinv
            have hl : lv_has ls 11 [(0, .ref (ad 0 0)), (1, .int (nI x)), (3, .int (nI (x / 4))), (7, .int 0), (8, .int ((it_Mo_frameU x (0, (sU (sI N 25 ((((16 * (x / 4)) + (2 * (N.2.1 18 240))) + (N.2.1 20 240)) - 1) 12) 26 ((((16 * (x / 4)) + (2 * (N.2.1 18 240))) + (N.2.1 20 240)) - 1) (x % 4))) 4).1)), (9, .int (nI (4 * (x / 4) + 4)))] := hl
            have h : bn_H (mo_y D ar ad) s.heap H locs (it_Mo_frameU x (0, (sU (sI N 25 ((((16 * (x / 4)) + (2 * (N.2.1 18 240))) + (N.2.1 20 240)) - 1) 12) 26 ((((16 * (x / 4)) + (2 * (N.2.1 18 240))) + (N.2.1 20 240)) - 1) (x % 4))) 4).2 := h
            refine lv_iload E1 E2 d_Mo_frame_158 (lv_at hl 5 rfl) ?_
            refine lv_iconst (v := 4) E1 E2 d_Mo_frame_160 (by decide) ?_
            refine lv_iload_n E1 E2 d_Mo_frame_161 rfl (lv_at hl 2 rfl) ?_
            refine lv_imul E1 E2 d_Mo_frame_162 ?_
            refine bn_ti (y := nI (4 * (x / 4))) (pk_mul 4 (x / 4)) ?_
            refine lv_iconst (v := 4) E1 E2 d_Mo_frame_163 (by decide) ?_
            refine lv_iadd E1 E2 d_Mo_frame_164 ?_
            refine bn_ti (y := nI ((4 * (x / 4)) + 4)) (nI_add (4 * (x / 4)) 4) ?_
            refine lv_icmp_ge E1 E2 d_Mo_frame_165 rfl (fun _ => ?_) (fun hz => absurd ((nI_leI (a := (4 * (x / 4)) + 4) (b := 4 * (x / 4) + 4) (by omega) (by omega)).mpr (by omega)) hz)
            refine lv_iload E1 E2 d_Mo_frame_226 (lv_at hl 4 rfl) ?_
            have hq : o_Mo_frame N x = ((it_Mo_frameU x (0, (sU (sI N 25 ((((16 * (x / 4)) + (2 * (N.2.1 18 240))) + (N.2.1 20 240)) - 1) 12) 26 ((((16 * (x / 4)) + (2 * (N.2.1 18 240))) + (N.2.1 20 240)) - 1) (x % 4))) 4).1, (it_Mo_frameU x (0, (sU (sI N 25 ((((16 * (x / 4)) + (2 * (N.2.1 18 240))) + (N.2.1 20 240)) - 1) 12) 26 ((((16 * (x / 4)) + (2 * (N.2.1 18 240))) + (N.2.1 20 240)) - 1) (x % 4))) 4).2) := Eq.trans (if_neg h1) (Eq.trans (if_neg h2) (Eq.trans (if_pos h3) (Eq.trans (if_neg h4) (if_pos h5))))
            exact bn_reti2 F hr hk h hq d_Mo_frame_228
          · have h5 : ¬ (8 ≤ (N.2.1 19 240)) := (fun hw => h5 ((nI_leI (a := 8) (b := N.2.1 19 240) (by omega) (by omega)).mpr hw))
            refine lv_bipush (v := 16) E1 E2 d_Mo_frame_109 (by decide) ?_
            refine lv_iload_n E1 E2 d_Mo_frame_111 rfl (lv_at hl 2 rfl) ?_
            refine lv_imul E1 E2 d_Mo_frame_112 ?_
            refine bn_ti (y := nI (16 * (x / 4))) (pk_mul 16 (x / 4)) ?_
            refine lv_iconst (v := 2) E1 E2 d_Mo_frame_113 (by decide) ?_
            refine lv_iload E1 E2 d_Mo_frame_114 (lv_at hl 0 rfl) ?_
            refine lv_imul E1 E2 d_Mo_frame_116 ?_
            have hwdestination : N.2.1 19 240 < 10 := mw_destination h.2.2.2 240
            refine bn_ti (y := nI (2 * (N.2.1 19 240))) (pk_mul 2 (N.2.1 19 240)) ?_
            refine lv_iadd E1 E2 d_Mo_frame_117 ?_
            have hwdestination : N.2.1 19 240 < 10 := mw_destination h.2.2.2 240
            refine bn_ti (y := nI ((16 * (x / 4)) + (2 * (N.2.1 19 240)))) (nI_add (16 * (x / 4)) (2 * (N.2.1 19 240))) ?_
            refine lv_iload_n E1 E2 d_Mo_frame_118 rfl (lv_at hl 3 rfl) ?_
            refine lv_iadd E1 E2 d_Mo_frame_119 ?_
            have hwdestination : N.2.1 19 240 < 10 := mw_destination h.2.2.2 240
            have hwvlan : N.2.1 20 240 < 3 := mw_vlan h.2.2.2 240
            refine bn_ti (y := nI (((16 * (x / 4)) + (2 * (N.2.1 19 240))) + (N.2.1 20 240))) (nI_add ((16 * (x / 4)) + (2 * (N.2.1 19 240))) (N.2.1 20 240)) ?_
            refine lv_iconst (v := 1) E1 E2 d_Mo_frame_120 (by decide) ?_
            refine lv_isub E1 E2 d_Mo_frame_121 ?_
            have hwdestination : N.2.1 19 240 < 10 := mw_destination h.2.2.2 240
            have hwvlan : N.2.1 20 240 < 3 := mw_vlan h.2.2.2 240
            refine bn_ti (y := nI ((((16 * (x / 4)) + (2 * (N.2.1 19 240))) + (N.2.1 20 240)) - 1)) (pk_sub (a := (((16 * (x / 4)) + (2 * (N.2.1 19 240))) + (N.2.1 20 240))) (b := 1) (by omega)) ?_
            refine lv_goto E1 E2 d_Mo_frame_122 rfl ?_
            refine lv_istore E1 E2 d_Mo_frame_126 hl (by decide) rfl (fun ls hl => ?_)
            have hl : lv_has ls 11 [(6, .int (nI ((((16 * (x / 4)) + (2 * (N.2.1 19 240))) + (N.2.1 20 240)) - 1))), (5, .int (nI (N.2.1 19 240))), (4, .int (nI ((((16 * (x / 4)) + (2 * (N.2.1 18 240))) + (N.2.1 20 240)) - 1))), (3, .int (nI (x / 4))), (2, .int (nI (N.2.1 20 240))), (0, .ref (ad 0 0)), (1, .int (nI x))] := hl
            refine lv_iload E1 E2 d_Mo_frame_128 (lv_at hl 0 rfl) ?_
            refine lv_if_lt E1 E2 d_Mo_frame_130 rfl (fun hz => absurd ((nI_ltI (a := (((16 * (x / 4)) + (2 * (N.2.1 19 240))) + (N.2.1 20 240)) - 1) (b := 0) (by omega) (by omega)).mp hz) (by omega)) (fun _ => ?_)
            refine lv_aload_n E1 E2 d_Mo_frame_133 rfl (lv_at hl 5 rfl) ?_
            refine g_Mo_known F h k_727 d_Mo_frame_134 ?_
            refine lv_iload E1 E2 d_Mo_frame_137 (lv_at hl 0 rfl) ?_
            have hwdestination : N.2.1 19 240 < 10 := mw_destination h.2.2.2 240
            have hwvlan : N.2.1 20 240 < 3 := mw_vlan h.2.2.2 240
            refine ml_known F h (i := (((16 * (x / 4)) + (2 * (N.2.1 19 240))) + (N.2.1 20 240)) - 1) (by omega) (v := (sI N 25 ((((16 * (x / 4)) + (2 * (N.2.1 18 240))) + (N.2.1 20 240)) - 1) 12).1 25 ((((16 * (x / 4)) + (2 * (N.2.1 19 240))) + (N.2.1 20 240)) - 1)) rfl d_Mo_frame_139 ?_
            refine lv_if_le E1 E2 d_Mo_frame_140 rfl (fun h7 => ?_) (fun h7 => ?_)
            · have h7 : (sI N 25 ((((16 * (x / 4)) + (2 * (N.2.1 18 240))) + (N.2.1 20 240)) - 1) 12).1 25 ((((16 * (x / 4)) + (2 * (N.2.1 19 240))) + (N.2.1 20 240)) - 1) ≤ 0 := h7
              refine lv_iconst (v := 0) E1 E2 d_Mo_frame_147 (by decide) ?_
              refine lv_istore E1 E2 d_Mo_frame_148 hl (by decide) rfl (fun ls hl => ?_)
              have hl : lv_has ls 11 [(7, .int 0), (6, .int (nI ((((16 * (x / 4)) + (2 * (N.2.1 19 240))) + (N.2.1 20 240)) - 1))), (5, .int (nI (N.2.1 19 240))), (4, .int (nI ((((16 * (x / 4)) + (2 * (N.2.1 18 240))) + (N.2.1 20 240)) - 1))), (3, .int (nI (x / 4))), (2, .int (nI (N.2.1 20 240))), (0, .ref (ad 0 0)), (1, .int (nI x))] := hl
              refine lv_iconst (v := 0) E1 E2 d_Mo_frame_150 (by decide) ?_
              refine lv_istore E1 E2 d_Mo_frame_151 hl (by decide) rfl (fun ls hl => ?_)
              have hl : lv_has ls 11 [(8, .int 0), (7, .int 0), (6, .int (nI ((((16 * (x / 4)) + (2 * (N.2.1 19 240))) + (N.2.1 20 240)) - 1))), (5, .int (nI (N.2.1 19 240))), (4, .int (nI ((((16 * (x / 4)) + (2 * (N.2.1 18 240))) + (N.2.1 20 240)) - 1))), (3, .int (nI (x / 4))), (2, .int (nI (N.2.1 20 240))), (0, .ref (ad 0 0)), (1, .int (nI x))] := hl
              refine lv_iconst (v := 4) E1 E2 d_Mo_frame_153 (by decide) ?_
              refine lv_iload_n E1 E2 d_Mo_frame_154 rfl (lv_at hl 5 rfl) ?_
              refine lv_imul E1 E2 d_Mo_frame_155 ?_
              refine bn_ti (y := nI (4 * (x / 4))) (pk_mul 4 (x / 4)) ?_
              refine lv_istore E1 E2 d_Mo_frame_156 hl (by decide) rfl (fun ls hl => ?_)
              have hl : lv_has ls 11 [(9, .int (nI (4 * (x / 4)))), (8, .int 0), (7, .int 0), (6, .int (nI ((((16 * (x / 4)) + (2 * (N.2.1 19 240))) + (N.2.1 20 240)) - 1))), (5, .int (nI (N.2.1 19 240))), (4, .int (nI ((((16 * (x / 4)) + (2 * (N.2.1 18 240))) + (N.2.1 20 240)) - 1))), (3, .int (nI (x / 4))), (2, .int (nI (N.2.1 20 240))), (0, .ref (ad 0 0)), (1, .int (nI x))] := hl
              have hs158 : ∀ (Q0 : State → Prop) (k : Nat), k < 4 → ∀ (q : Int32 × bn_S) (H : Heap) (locs : List Loc) (ls : Array Slot), lv_has ls 11 [(0, .ref (ad 0 0)), (1, .int (nI x)), (3, .int (nI (x / 4))), (7, .int 0), (8, .int (q.1)), (9, .int (nI (4 * (x / 4) + k)))] → bn_H (mo_y D ar ad) s.heap H locs q.2 → mo_P (q.2) → (∀ (H : Heap) (locs : List Loc) (ls : Array Slot), lv_has ls 11 [(0, .ref (ad 0 0)), (1, .int (nI x)), (3, .int (nI (x / 4))), (7, .int 0), (8, .int ((bd_Mo_frameU x k q).1)), (9, .int (nI (4 * (x / 4) + k + 1)))] → bn_H (mo_y D ar ad) s.heap H locs (bd_Mo_frameU x k q).2 → mo_P ((bd_Mo_frameU x k q).2) → W p l e { frames := 2, cells := 0, slots := 0, locals := 47 } s m args below meth c H locs 0 0 Q0 (F0 m 158 ls [])) → W p l e { frames := 2, cells := 0, slots := 0, locals := 47 } s m args below meth c H locs 0 0 Q0 (F0 m 158 ls []) := by
                intro Q0 k hkk q H locs ls hl h hinv kk
                refine lv_iload E1 E2 d_Mo_frame_158 (lv_at hl 5 rfl) ?_
                refine lv_iconst (v := 4) E1 E2 d_Mo_frame_160 (by decide) ?_
                refine lv_iload_n E1 E2 d_Mo_frame_161 rfl (lv_at hl 2 rfl) ?_
                refine lv_imul E1 E2 d_Mo_frame_162 ?_
                refine bn_ti (y := nI (4 * (x / 4))) (pk_mul 4 (x / 4)) ?_
                refine lv_iconst (v := 4) E1 E2 d_Mo_frame_163 (by decide) ?_
                refine lv_iadd E1 E2 d_Mo_frame_164 ?_
                refine bn_ti (y := nI ((4 * (x / 4)) + 4)) (nI_add (4 * (x / 4)) 4) ?_
                refine lv_icmp_ge E1 E2 d_Mo_frame_165 rfl (fun hz => absurd ((nI_leI (a := (4 * (x / 4)) + 4) (b := 4 * (x / 4) + k) (by omega) (by omega)).mp hz) (by omega)) (fun _ => ?_)
                refine lv_iload E1 E2 d_Mo_frame_168 (lv_at hl 5 rfl) ?_
                refine lv_iload_n E1 E2 d_Mo_frame_170 rfl (lv_at hl 1 rfl) ?_
                refine lv_icmp_eq E1 E2 d_Mo_frame_171 rfl (fun h8 => ?_) (fun h8 => ?_)
                · have h8 : (4 * (x / 4) + k) = x := ((nI_eq (a := 4 * (x / 4) + k) (b := x) (by omega) (by omega)).mp h8)
                  refine lv_iconst (v := 0) E1 E2 d_Mo_frame_197 (by decide) ?_
                  refine lv_istore E1 E2 d_Mo_frame_198 hl (by decide) rfl (fun ls hl => ?_)
                  have hl : lv_has ls 11 [(10, .int 0), (0, .ref (ad 0 0)), (1, .int (nI x)), (3, .int (nI (x / 4))), (7, .int 0), (8, .int (q.1)), (9, .int (nI (4 * (x / 4) + k)))] := hl
                  refine lv_iload E1 E2 d_Mo_frame_200 (lv_at hl 5 rfl) ?_
                  refine lv_iload E1 E2 d_Mo_frame_202 (lv_at hl 0 rfl) ?_
                  refine lv_if_eq E1 E2 d_Mo_frame_204 rfl (fun _ => ?_) (fun hz => absurd hz (by decide))
                  refine lv_iconst (v := 0) E1 E2 d_Mo_frame_216 (by decide) ?_
                  refine lv_iadd E1 E2 d_Mo_frame_217 ?_
                  refine lv_istore E1 E2 d_Mo_frame_218 hl (by decide) rfl (fun ls hl => ?_)
                  have hl : lv_has ls 11 [(8, .int ((q.1) + 0)), (10, .int 0), (0, .ref (ad 0 0)), (1, .int (nI x)), (3, .int (nI (x / 4))), (7, .int 0), (9, .int (nI (4 * (x / 4) + k)))] := hl
                  refine lv_iinc (v := (nI (4 * (x / 4) + k + 1))) E1 E2 d_Mo_frame_220 hl (k := 6) rfl (nI_1 _) (by decide) rfl (fun ls hl => ?_)
                  have hl : lv_has ls 11 [(9, .int (nI (4 * (x / 4) + k + 1))), (8, .int ((q.1) + 0)), (10, .int 0), (0, .ref (ad 0 0)), (1, .int (nI x)), (3, .int (nI (x / 4))), (7, .int 0)] := hl
                  refine lv_goto E1 E2 d_Mo_frame_223 rfl ?_
                  have hq : (bd_Mo_frameU x k q) = ((q.1) + 0, q.2) := if_pos h8
                  rw [hq] at kk
                  exact kk _ _ ls (lv_sub hl [3, 4, 5, 6, 1, 0] rfl) h hinv
                · have h8 : ¬ ((4 * (x / 4) + k) = x) := (fun hw => h8 ((nI_eq (a := 4 * (x / 4) + k) (b := x) (by omega) (by omega)).mpr hw))
                  refine lv_iload E1 E2 d_Mo_frame_174 (lv_at hl 3 rfl) ?_
                  refine lv_if_eq E1 E2 d_Mo_frame_176 rfl (fun _ => ?_) (fun hz => absurd hz (by decide))
                  refine lv_iconst (v := 1) E1 E2 d_Mo_frame_193 (by decide) ?_
                  refine lv_goto E1 E2 d_Mo_frame_194 rfl ?_
                  refine lv_istore E1 E2 d_Mo_frame_198 hl (by decide) rfl (fun ls hl => ?_)
                  have hl : lv_has ls 11 [(10, .int 1), (0, .ref (ad 0 0)), (1, .int (nI x)), (3, .int (nI (x / 4))), (7, .int 0), (8, .int (q.1)), (9, .int (nI (4 * (x / 4) + k)))] := hl
                  refine lv_iload E1 E2 d_Mo_frame_200 (lv_at hl 5 rfl) ?_
                  refine lv_iload E1 E2 d_Mo_frame_202 (lv_at hl 0 rfl) ?_
                  refine lv_if_eq E1 E2 d_Mo_frame_204 rfl (fun hz => absurd hz (by decide)) (fun _ => ?_)
                  refine lv_aload_n E1 E2 d_Mo_frame_207 rfl (lv_at hl 1 rfl) ?_
                  refine lv_iload E1 E2 d_Mo_frame_208 (lv_at hl 6 rfl) ?_
                  refine bn_calli F h (bn_runV (n := 1) (As := [.int (nI (4 * (x / 4) + k))]) (rest := [.int (q.1)]) F hml hl.1 h mi_0 rfl rfl (c_Mo_out l D ar ad (q.2) (4 * (x / 4) + k) (by omega) (hinv _ (by omega)) _) (bn_goodV k_896 k_898 ks_Mo_out k_7 k_899) rfl rfl (by decide) ⟨by decide, by decide⟩ rfl rfl (Nat.le_of_ble_eq_true rfl) d_Mo_frame_210 ⟨Nat.zero_le _, Nat.zero_le _⟩) (fun H locs h => ?_)
                  have h : bn_H (mo_y D ar ad) s.heap H locs (o_Mo_out (q.2) (4 * (x / 4) + k)).2 := h
                  refine lv_goto E1 E2 d_Mo_frame_213 rfl ?_
                  refine lv_iadd E1 E2 d_Mo_frame_217 ?_
                  refine lv_istore E1 E2 d_Mo_frame_218 hl (by decide) rfl (fun ls hl => ?_)
                  have hl : lv_has ls 11 [(8, .int ((q.1) + ((o_Mo_out (q.2) (4 * (x / 4) + k)).1))), (10, .int 1), (0, .ref (ad 0 0)), (1, .int (nI x)), (3, .int (nI (x / 4))), (7, .int 0), (9, .int (nI (4 * (x / 4) + k)))] := hl
                  refine lv_iinc (v := (nI (4 * (x / 4) + k + 1))) E1 E2 d_Mo_frame_220 hl (k := 6) rfl (nI_1 _) (by decide) rfl (fun ls hl => ?_)
                  have hl : lv_has ls 11 [(9, .int (nI (4 * (x / 4) + k + 1))), (8, .int ((q.1) + ((o_Mo_out (q.2) (4 * (x / 4) + k)).1))), (10, .int 1), (0, .ref (ad 0 0)), (1, .int (nI x)), (3, .int (nI (x / 4))), (7, .int 0)] := hl
                  refine lv_goto E1 E2 d_Mo_frame_223 rfl ?_
                  have hq : (bd_Mo_frameU x k q) = ((q.1) + ((o_Mo_out (q.2) (4 * (x / 4) + k)).1), (o_Mo_out (q.2) (4 * (x / 4) + k)).2) := if_neg h8
                  rw [hq] at kk
                  exact kk _ _ ls (lv_sub hl [3, 4, 5, 6, 1, 0] rfl) h (kP_out hinv)
              refine hs158 _ 0 (by decide) (0, (sU (sI N 25 ((((16 * (x / 4)) + (2 * (N.2.1 18 240))) + (N.2.1 20 240)) - 1) 12) 26 ((((16 * (x / 4)) + (2 * (N.2.1 18 240))) + (N.2.1 20 240)) - 1) (x % 4))) _ _ ls (lv_sub hl [8, 9, 6, 2, 1, 0] rfl) h hP0 (fun H locs ls hl h hinv => ?_)
              rw [it_Mo_frameU_0] at hl h hinv
              refine hs158 _ 1 (by decide) (it_Mo_frameU x (0, (sU (sI N 25 ((((16 * (x / 4)) + (2 * (N.2.1 18 240))) + (N.2.1 20 240)) - 1) 12) 26 ((((16 * (x / 4)) + (2 * (N.2.1 18 240))) + (N.2.1 20 240)) - 1) (x % 4))) 1) _ _ ls hl h hinv (fun H locs ls hl h hinv => ?_)
              rw [it_Mo_frameU_s] at hl h hinv
              refine hs158 _ 2 (by decide) (it_Mo_frameU x (0, (sU (sI N 25 ((((16 * (x / 4)) + (2 * (N.2.1 18 240))) + (N.2.1 20 240)) - 1) 12) 26 ((((16 * (x / 4)) + (2 * (N.2.1 18 240))) + (N.2.1 20 240)) - 1) (x % 4))) 2) _ _ ls hl h hinv (fun H locs ls hl h hinv => ?_)
              rw [it_Mo_frameU_s] at hl h hinv
              refine hs158 _ 3 (by decide) (it_Mo_frameU x (0, (sU (sI N 25 ((((16 * (x / 4)) + (2 * (N.2.1 18 240))) + (N.2.1 20 240)) - 1) 12) 26 ((((16 * (x / 4)) + (2 * (N.2.1 18 240))) + (N.2.1 20 240)) - 1) (x % 4))) 3) _ _ ls hl h hinv (fun H locs ls hl h hinv => ?_)
              rw [it_Mo_frameU_s] at hl h hinv
              have hl : lv_has ls 11 [(0, .ref (ad 0 0)), (1, .int (nI x)), (3, .int (nI (x / 4))), (7, .int 0), (8, .int ((it_Mo_frameU x (0, (sU (sI N 25 ((((16 * (x / 4)) + (2 * (N.2.1 18 240))) + (N.2.1 20 240)) - 1) 12) 26 ((((16 * (x / 4)) + (2 * (N.2.1 18 240))) + (N.2.1 20 240)) - 1) (x % 4))) 4).1)), (9, .int (nI (4 * (x / 4) + 4)))] := hl
              have h : bn_H (mo_y D ar ad) s.heap H locs (it_Mo_frameU x (0, (sU (sI N 25 ((((16 * (x / 4)) + (2 * (N.2.1 18 240))) + (N.2.1 20 240)) - 1) 12) 26 ((((16 * (x / 4)) + (2 * (N.2.1 18 240))) + (N.2.1 20 240)) - 1) (x % 4))) 4).2 := h
              refine lv_iload E1 E2 d_Mo_frame_158 (lv_at hl 5 rfl) ?_
              refine lv_iconst (v := 4) E1 E2 d_Mo_frame_160 (by decide) ?_
              refine lv_iload_n E1 E2 d_Mo_frame_161 rfl (lv_at hl 2 rfl) ?_
              refine lv_imul E1 E2 d_Mo_frame_162 ?_
              refine bn_ti (y := nI (4 * (x / 4))) (pk_mul 4 (x / 4)) ?_
              refine lv_iconst (v := 4) E1 E2 d_Mo_frame_163 (by decide) ?_
              refine lv_iadd E1 E2 d_Mo_frame_164 ?_
              refine bn_ti (y := nI ((4 * (x / 4)) + 4)) (nI_add (4 * (x / 4)) 4) ?_
              refine lv_icmp_ge E1 E2 d_Mo_frame_165 rfl (fun _ => ?_) (fun hz => absurd ((nI_leI (a := (4 * (x / 4)) + 4) (b := 4 * (x / 4) + 4) (by omega) (by omega)).mpr (by omega)) hz)
              refine lv_iload E1 E2 d_Mo_frame_226 (lv_at hl 4 rfl) ?_
              have hq : o_Mo_frame N x = ((it_Mo_frameU x (0, (sU (sI N 25 ((((16 * (x / 4)) + (2 * (N.2.1 18 240))) + (N.2.1 20 240)) - 1) 12) 26 ((((16 * (x / 4)) + (2 * (N.2.1 18 240))) + (N.2.1 20 240)) - 1) (x % 4))) 4).1, (it_Mo_frameU x (0, (sU (sI N 25 ((((16 * (x / 4)) + (2 * (N.2.1 18 240))) + (N.2.1 20 240)) - 1) 12) 26 ((((16 * (x / 4)) + (2 * (N.2.1 18 240))) + (N.2.1 20 240)) - 1) (x % 4))) 4).2) := Eq.trans (if_neg h1) (Eq.trans (if_neg h2) (Eq.trans (if_pos h3) (Eq.trans (if_neg h4) (Eq.trans (if_neg h5) (if_pos h7)))))
              exact bn_reti2 F hr hk h hq d_Mo_frame_228
            · have h7 : ¬ ((sI N 25 ((((16 * (x / 4)) + (2 * (N.2.1 18 240))) + (N.2.1 20 240)) - 1) 12).1 25 ((((16 * (x / 4)) + (2 * (N.2.1 19 240))) + (N.2.1 20 240)) - 1) ≤ 0) := h7
              refine lv_iconst (v := 1) E1 E2 d_Mo_frame_143 (by decide) ?_
              refine lv_goto E1 E2 d_Mo_frame_144 rfl ?_
              refine lv_istore E1 E2 d_Mo_frame_148 hl (by decide) rfl (fun ls hl => ?_)
              have hl : lv_has ls 11 [(7, .int 1), (6, .int (nI ((((16 * (x / 4)) + (2 * (N.2.1 19 240))) + (N.2.1 20 240)) - 1))), (5, .int (nI (N.2.1 19 240))), (4, .int (nI ((((16 * (x / 4)) + (2 * (N.2.1 18 240))) + (N.2.1 20 240)) - 1))), (3, .int (nI (x / 4))), (2, .int (nI (N.2.1 20 240))), (0, .ref (ad 0 0)), (1, .int (nI x))] := hl
              refine lv_iconst (v := 0) E1 E2 d_Mo_frame_150 (by decide) ?_
              refine lv_istore E1 E2 d_Mo_frame_151 hl (by decide) rfl (fun ls hl => ?_)
              have hl : lv_has ls 11 [(8, .int 0), (7, .int 1), (6, .int (nI ((((16 * (x / 4)) + (2 * (N.2.1 19 240))) + (N.2.1 20 240)) - 1))), (5, .int (nI (N.2.1 19 240))), (4, .int (nI ((((16 * (x / 4)) + (2 * (N.2.1 18 240))) + (N.2.1 20 240)) - 1))), (3, .int (nI (x / 4))), (2, .int (nI (N.2.1 20 240))), (0, .ref (ad 0 0)), (1, .int (nI x))] := hl
              refine lv_iconst (v := 4) E1 E2 d_Mo_frame_153 (by decide) ?_
              refine lv_iload_n E1 E2 d_Mo_frame_154 rfl (lv_at hl 5 rfl) ?_
              refine lv_imul E1 E2 d_Mo_frame_155 ?_
              refine bn_ti (y := nI (4 * (x / 4))) (pk_mul 4 (x / 4)) ?_
              refine lv_istore E1 E2 d_Mo_frame_156 hl (by decide) rfl (fun ls hl => ?_)
              have hl : lv_has ls 11 [(9, .int (nI (4 * (x / 4)))), (8, .int 0), (7, .int 1), (6, .int (nI ((((16 * (x / 4)) + (2 * (N.2.1 19 240))) + (N.2.1 20 240)) - 1))), (5, .int (nI (N.2.1 19 240))), (4, .int (nI ((((16 * (x / 4)) + (2 * (N.2.1 18 240))) + (N.2.1 20 240)) - 1))), (3, .int (nI (x / 4))), (2, .int (nI (N.2.1 20 240))), (0, .ref (ad 0 0)), (1, .int (nI x))] := hl
              have hwdestination : N.2.1 19 240 < 10 := mw_destination h.2.2.2 240
              have hwvlan : N.2.1 20 240 < 3 := mw_vlan h.2.2.2 240
              obtain ⟨gj, hg_gj⟩ : ∃ z : Nat, z = (((16 * (x / 4)) + (2 * (N.2.1 19 240))) + (N.2.1 20 240)) - 1 := ⟨_, rfl⟩
              have hb_gj : gj < 80 := by omega
              have hs158 : ∀ (Q0 : State → Prop) (k : Nat), k < 4 → ∀ (q : Int32 × bn_S) (H : Heap) (locs : List Loc) (ls : Array Slot), lv_has ls 11 [(0, .ref (ad 0 0)), (1, .int (nI x)), (3, .int (nI (x / 4))), (6, .int (nI gj)), (7, .int 1), (8, .int (q.1)), (9, .int (nI (4 * (x / 4) + k)))] → bn_H (mo_y D ar ad) s.heap H locs q.2 → mo_P (q.2) → (∀ (H : Heap) (locs : List Loc) (ls : Array Slot), lv_has ls 11 [(0, .ref (ad 0 0)), (1, .int (nI x)), (3, .int (nI (x / 4))), (6, .int (nI gj)), (7, .int 1), (8, .int ((bd_Mo_frameL x gj k q).1)), (9, .int (nI (4 * (x / 4) + k + 1)))] → bn_H (mo_y D ar ad) s.heap H locs (bd_Mo_frameL x gj k q).2 → mo_P ((bd_Mo_frameL x gj k q).2) → W p l e { frames := 2, cells := 0, slots := 0, locals := 47 } s m args below meth c H locs 0 0 Q0 (F0 m 158 ls [])) → W p l e { frames := 2, cells := 0, slots := 0, locals := 47 } s m args below meth c H locs 0 0 Q0 (F0 m 158 ls []) := by
                intro Q0 k hkk q H locs ls hl h hinv kk
                refine lv_iload E1 E2 d_Mo_frame_158 (lv_at hl 6 rfl) ?_
                refine lv_iconst (v := 4) E1 E2 d_Mo_frame_160 (by decide) ?_
                refine lv_iload_n E1 E2 d_Mo_frame_161 rfl (lv_at hl 2 rfl) ?_
                refine lv_imul E1 E2 d_Mo_frame_162 ?_
                refine bn_ti (y := nI (4 * (x / 4))) (pk_mul 4 (x / 4)) ?_
                refine lv_iconst (v := 4) E1 E2 d_Mo_frame_163 (by decide) ?_
                refine lv_iadd E1 E2 d_Mo_frame_164 ?_
                refine bn_ti (y := nI ((4 * (x / 4)) + 4)) (nI_add (4 * (x / 4)) 4) ?_
                refine lv_icmp_ge E1 E2 d_Mo_frame_165 rfl (fun hz => absurd ((nI_leI (a := (4 * (x / 4)) + 4) (b := 4 * (x / 4) + k) (by omega) (by omega)).mp hz) (by omega)) (fun _ => ?_)
                refine lv_iload E1 E2 d_Mo_frame_168 (lv_at hl 6 rfl) ?_
                refine lv_iload_n E1 E2 d_Mo_frame_170 rfl (lv_at hl 1 rfl) ?_
                refine lv_icmp_eq E1 E2 d_Mo_frame_171 rfl (fun h9 => ?_) (fun h9 => ?_)
                · have h9 : (4 * (x / 4) + k) = x := ((nI_eq (a := 4 * (x / 4) + k) (b := x) (by omega) (by omega)).mp h9)
                  refine lv_iconst (v := 0) E1 E2 d_Mo_frame_197 (by decide) ?_
                  refine lv_istore E1 E2 d_Mo_frame_198 hl (by decide) rfl (fun ls hl => ?_)
                  have hl : lv_has ls 11 [(10, .int 0), (0, .ref (ad 0 0)), (1, .int (nI x)), (3, .int (nI (x / 4))), (6, .int (nI gj)), (7, .int 1), (8, .int (q.1)), (9, .int (nI (4 * (x / 4) + k)))] := hl
                  refine lv_iload E1 E2 d_Mo_frame_200 (lv_at hl 6 rfl) ?_
                  refine lv_iload E1 E2 d_Mo_frame_202 (lv_at hl 0 rfl) ?_
                  refine lv_if_eq E1 E2 d_Mo_frame_204 rfl (fun _ => ?_) (fun hz => absurd hz (by decide))
                  refine lv_iconst (v := 0) E1 E2 d_Mo_frame_216 (by decide) ?_
                  refine lv_iadd E1 E2 d_Mo_frame_217 ?_
                  refine lv_istore E1 E2 d_Mo_frame_218 hl (by decide) rfl (fun ls hl => ?_)
                  have hl : lv_has ls 11 [(8, .int ((q.1) + 0)), (10, .int 0), (0, .ref (ad 0 0)), (1, .int (nI x)), (3, .int (nI (x / 4))), (6, .int (nI gj)), (7, .int 1), (9, .int (nI (4 * (x / 4) + k)))] := hl
                  refine lv_iinc (v := (nI (4 * (x / 4) + k + 1))) E1 E2 d_Mo_frame_220 hl (k := 7) rfl (nI_1 _) (by decide) rfl (fun ls hl => ?_)
                  have hl : lv_has ls 11 [(9, .int (nI (4 * (x / 4) + k + 1))), (8, .int ((q.1) + 0)), (10, .int 0), (0, .ref (ad 0 0)), (1, .int (nI x)), (3, .int (nI (x / 4))), (6, .int (nI gj)), (7, .int 1)] := hl
                  refine lv_goto E1 E2 d_Mo_frame_223 rfl ?_
                  have hq : (bd_Mo_frameL x gj k q) = ((q.1) + 0, q.2) := if_pos h9
                  rw [hq] at kk
                  exact kk _ _ ls (lv_sub hl [3, 4, 5, 6, 7, 1, 0] rfl) h hinv
                · have h9 : ¬ ((4 * (x / 4) + k) = x) := (fun hw => h9 ((nI_eq (a := 4 * (x / 4) + k) (b := x) (by omega) (by omega)).mpr hw))
                  refine lv_iload E1 E2 d_Mo_frame_174 (lv_at hl 4 rfl) ?_
                  refine lv_if_eq E1 E2 d_Mo_frame_176 rfl (fun hz => absurd hz (by decide)) (fun _ => ?_)
                  refine lv_aload_n E1 E2 d_Mo_frame_179 rfl (lv_at hl 0 rfl) ?_
                  refine g_Mo_behind F h k_728 d_Mo_frame_180 ?_
                  refine lv_iload E1 E2 d_Mo_frame_183 (lv_at hl 3 rfl) ?_
                  refine ml_behind F h (i := gj) (by omega) (v := (q.2).2.1 26 gj) rfl d_Mo_frame_185 ?_
                  refine lv_iload E1 E2 d_Mo_frame_186 (lv_at hl 6 rfl) ?_
                  refine lv_iconst (v := 4) E1 E2 d_Mo_frame_188 (by decide) ?_
                  refine lv_irem E1 E2 d_Mo_frame_189 (by decide) ?_
                  refine bn_ti (y := nI ((4 * (x / 4) + k) % 4)) (pk_rem (a := (4 * (x / 4) + k)) (d := 4) (by omega) (by omega) (by omega)) ?_
                  have hwbehind : (q.2).2.1 26 gj < 4 := mw_behind h.2.2.2 gj
                  refine lv_icmp_ne E1 E2 d_Mo_frame_190 rfl (fun h10 => ?_) (fun h10 => ?_)
                  · have h10 : ¬ (((q.2).2.1 26 gj) = ((4 * (x / 4) + k) % 4)) := (fun hw => h10 ((nI_eq (a := (q.2).2.1 26 gj) (b := (4 * (x / 4) + k) % 4) (by omega) (by omega)).mpr hw))
                    refine lv_iconst (v := 0) E1 E2 d_Mo_frame_197 (by decide) ?_
                    refine lv_istore E1 E2 d_Mo_frame_198 hl (by decide) rfl (fun ls hl => ?_)
                    have hl : lv_has ls 11 [(10, .int 0), (0, .ref (ad 0 0)), (1, .int (nI x)), (3, .int (nI (x / 4))), (6, .int (nI gj)), (7, .int 1), (8, .int (q.1)), (9, .int (nI (4 * (x / 4) + k)))] := hl
                    refine lv_iload E1 E2 d_Mo_frame_200 (lv_at hl 6 rfl) ?_
                    refine lv_iload E1 E2 d_Mo_frame_202 (lv_at hl 0 rfl) ?_
                    refine lv_if_eq E1 E2 d_Mo_frame_204 rfl (fun _ => ?_) (fun hz => absurd hz (by decide))
                    refine lv_iconst (v := 0) E1 E2 d_Mo_frame_216 (by decide) ?_
                    refine lv_iadd E1 E2 d_Mo_frame_217 ?_
                    refine lv_istore E1 E2 d_Mo_frame_218 hl (by decide) rfl (fun ls hl => ?_)
                    have hl : lv_has ls 11 [(8, .int ((q.1) + 0)), (10, .int 0), (0, .ref (ad 0 0)), (1, .int (nI x)), (3, .int (nI (x / 4))), (6, .int (nI gj)), (7, .int 1), (9, .int (nI (4 * (x / 4) + k)))] := hl
                    refine lv_iinc (v := (nI (4 * (x / 4) + k + 1))) E1 E2 d_Mo_frame_220 hl (k := 7) rfl (nI_1 _) (by decide) rfl (fun ls hl => ?_)
                    have hl : lv_has ls 11 [(9, .int (nI (4 * (x / 4) + k + 1))), (8, .int ((q.1) + 0)), (10, .int 0), (0, .ref (ad 0 0)), (1, .int (nI x)), (3, .int (nI (x / 4))), (6, .int (nI gj)), (7, .int 1)] := hl
                    refine lv_goto E1 E2 d_Mo_frame_223 rfl ?_
                    have hq : (bd_Mo_frameL x gj k q) = ((q.1) + 0, q.2) := Eq.trans (if_neg h9) (if_neg h10)
                    rw [hq] at kk
                    exact kk _ _ ls (lv_sub hl [3, 4, 5, 6, 7, 1, 0] rfl) h hinv
                  · have h10 : ((q.2).2.1 26 gj) = ((4 * (x / 4) + k) % 4) := ((nI_eq (a := (q.2).2.1 26 gj) (b := (4 * (x / 4) + k) % 4) (by omega) (by omega)).mp h10)
                    refine lv_iconst (v := 1) E1 E2 d_Mo_frame_193 (by decide) ?_
                    refine lv_goto E1 E2 d_Mo_frame_194 rfl ?_
                    refine lv_istore E1 E2 d_Mo_frame_198 hl (by decide) rfl (fun ls hl => ?_)
                    have hl : lv_has ls 11 [(10, .int 1), (0, .ref (ad 0 0)), (1, .int (nI x)), (3, .int (nI (x / 4))), (6, .int (nI gj)), (7, .int 1), (8, .int (q.1)), (9, .int (nI (4 * (x / 4) + k)))] := hl
                    refine lv_iload E1 E2 d_Mo_frame_200 (lv_at hl 6 rfl) ?_
                    refine lv_iload E1 E2 d_Mo_frame_202 (lv_at hl 0 rfl) ?_
                    refine lv_if_eq E1 E2 d_Mo_frame_204 rfl (fun hz => absurd hz (by decide)) (fun _ => ?_)
                    refine lv_aload_n E1 E2 d_Mo_frame_207 rfl (lv_at hl 1 rfl) ?_
                    refine lv_iload E1 E2 d_Mo_frame_208 (lv_at hl 7 rfl) ?_
                    refine bn_calli F h (bn_runV (n := 1) (As := [.int (nI (4 * (x / 4) + k))]) (rest := [.int (q.1)]) F hml hl.1 h mi_0 rfl rfl (c_Mo_out l D ar ad (q.2) (4 * (x / 4) + k) (by omega) (hinv _ (by omega)) _) (bn_goodV k_896 k_898 ks_Mo_out k_7 k_899) rfl rfl (by decide) ⟨by decide, by decide⟩ rfl rfl (Nat.le_of_ble_eq_true rfl) d_Mo_frame_210 ⟨Nat.zero_le _, Nat.zero_le _⟩) (fun H locs h => ?_)
                    have h : bn_H (mo_y D ar ad) s.heap H locs (o_Mo_out (q.2) (4 * (x / 4) + k)).2 := h
                    refine lv_goto E1 E2 d_Mo_frame_213 rfl ?_
                    refine lv_iadd E1 E2 d_Mo_frame_217 ?_
                    refine lv_istore E1 E2 d_Mo_frame_218 hl (by decide) rfl (fun ls hl => ?_)
                    have hl : lv_has ls 11 [(8, .int ((q.1) + ((o_Mo_out (q.2) (4 * (x / 4) + k)).1))), (10, .int 1), (0, .ref (ad 0 0)), (1, .int (nI x)), (3, .int (nI (x / 4))), (6, .int (nI gj)), (7, .int 1), (9, .int (nI (4 * (x / 4) + k)))] := hl
                    refine lv_iinc (v := (nI (4 * (x / 4) + k + 1))) E1 E2 d_Mo_frame_220 hl (k := 7) rfl (nI_1 _) (by decide) rfl (fun ls hl => ?_)
                    have hl : lv_has ls 11 [(9, .int (nI (4 * (x / 4) + k + 1))), (8, .int ((q.1) + ((o_Mo_out (q.2) (4 * (x / 4) + k)).1))), (10, .int 1), (0, .ref (ad 0 0)), (1, .int (nI x)), (3, .int (nI (x / 4))), (6, .int (nI gj)), (7, .int 1)] := hl
                    refine lv_goto E1 E2 d_Mo_frame_223 rfl ?_
                    have hq : (bd_Mo_frameL x gj k q) = ((q.1) + ((o_Mo_out (q.2) (4 * (x / 4) + k)).1), (o_Mo_out (q.2) (4 * (x / 4) + k)).2) := Eq.trans (if_neg h9) (if_pos h10)
                    rw [hq] at kk
                    exact kk _ _ ls (lv_sub hl [3, 4, 5, 6, 7, 1, 0] rfl) h (kP_out hinv)
              have hl : lv_has ls 11 [(0, .ref (ad 0 0)), (1, .int (nI x)), (3, .int (nI (x / 4))), (6, .int (nI gj)), (7, .int 1), (8, .int ((0, (sU (sI N 25 ((((16 * (x / 4)) + (2 * (N.2.1 18 240))) + (N.2.1 20 240)) - 1) 12) 26 ((((16 * (x / 4)) + (2 * (N.2.1 18 240))) + (N.2.1 20 240)) - 1) (x % 4))).1)), (9, .int (nI (4 * (x / 4) + 0)))] := by (rw [hg_gj]; exact lv_sub hl [8, 9, 6, 3, 2, 1, 0] rfl)
              refine hs158 _ 0 (by decide) (0, (sU (sI N 25 ((((16 * (x / 4)) + (2 * (N.2.1 18 240))) + (N.2.1 20 240)) - 1) 12) 26 ((((16 * (x / 4)) + (2 * (N.2.1 18 240))) + (N.2.1 20 240)) - 1) (x % 4))) _ _ ls hl h hP0 (fun H locs ls hl h hinv => ?_)
              rw [it_Mo_frameL_0] at hl h hinv
              refine hs158 _ 1 (by decide) (it_Mo_frameL x gj (0, (sU (sI N 25 ((((16 * (x / 4)) + (2 * (N.2.1 18 240))) + (N.2.1 20 240)) - 1) 12) 26 ((((16 * (x / 4)) + (2 * (N.2.1 18 240))) + (N.2.1 20 240)) - 1) (x % 4))) 1) _ _ ls hl h hinv (fun H locs ls hl h hinv => ?_)
              rw [it_Mo_frameL_s] at hl h hinv
              refine hs158 _ 2 (by decide) (it_Mo_frameL x gj (0, (sU (sI N 25 ((((16 * (x / 4)) + (2 * (N.2.1 18 240))) + (N.2.1 20 240)) - 1) 12) 26 ((((16 * (x / 4)) + (2 * (N.2.1 18 240))) + (N.2.1 20 240)) - 1) (x % 4))) 2) _ _ ls hl h hinv (fun H locs ls hl h hinv => ?_)
              rw [it_Mo_frameL_s] at hl h hinv
              refine hs158 _ 3 (by decide) (it_Mo_frameL x gj (0, (sU (sI N 25 ((((16 * (x / 4)) + (2 * (N.2.1 18 240))) + (N.2.1 20 240)) - 1) 12) 26 ((((16 * (x / 4)) + (2 * (N.2.1 18 240))) + (N.2.1 20 240)) - 1) (x % 4))) 3) _ _ ls hl h hinv (fun H locs ls hl h hinv => ?_)
              rw [it_Mo_frameL_s] at hl h hinv
              subst hg_gj
              have hl : lv_has ls 11 [(0, .ref (ad 0 0)), (1, .int (nI x)), (3, .int (nI (x / 4))), (6, .int (nI ((((16 * (x / 4)) + (2 * (N.2.1 19 240))) + (N.2.1 20 240)) - 1))), (7, .int 1), (8, .int ((it_Mo_frameL x ((((16 * (x / 4)) + (2 * (N.2.1 19 240))) + (N.2.1 20 240)) - 1) (0, (sU (sI N 25 ((((16 * (x / 4)) + (2 * (N.2.1 18 240))) + (N.2.1 20 240)) - 1) 12) 26 ((((16 * (x / 4)) + (2 * (N.2.1 18 240))) + (N.2.1 20 240)) - 1) (x % 4))) 4).1)), (9, .int (nI (4 * (x / 4) + 4)))] := hl
              have h : bn_H (mo_y D ar ad) s.heap H locs (it_Mo_frameL x ((((16 * (x / 4)) + (2 * (N.2.1 19 240))) + (N.2.1 20 240)) - 1) (0, (sU (sI N 25 ((((16 * (x / 4)) + (2 * (N.2.1 18 240))) + (N.2.1 20 240)) - 1) 12) 26 ((((16 * (x / 4)) + (2 * (N.2.1 18 240))) + (N.2.1 20 240)) - 1) (x % 4))) 4).2 := h
              refine lv_iload E1 E2 d_Mo_frame_158 (lv_at hl 6 rfl) ?_
              refine lv_iconst (v := 4) E1 E2 d_Mo_frame_160 (by decide) ?_
              refine lv_iload_n E1 E2 d_Mo_frame_161 rfl (lv_at hl 2 rfl) ?_
              refine lv_imul E1 E2 d_Mo_frame_162 ?_
              refine bn_ti (y := nI (4 * (x / 4))) (pk_mul 4 (x / 4)) ?_
              refine lv_iconst (v := 4) E1 E2 d_Mo_frame_163 (by decide) ?_
              refine lv_iadd E1 E2 d_Mo_frame_164 ?_
              refine bn_ti (y := nI ((4 * (x / 4)) + 4)) (nI_add (4 * (x / 4)) 4) ?_
              refine lv_icmp_ge E1 E2 d_Mo_frame_165 rfl (fun _ => ?_) (fun hz => absurd ((nI_leI (a := (4 * (x / 4)) + 4) (b := 4 * (x / 4) + 4) (by omega) (by omega)).mpr (by omega)) hz)
              refine lv_iload E1 E2 d_Mo_frame_226 (lv_at hl 5 rfl) ?_
              have hq : o_Mo_frame N x = ((it_Mo_frameL x ((((16 * (x / 4)) + (2 * (N.2.1 19 240))) + (N.2.1 20 240)) - 1) (0, (sU (sI N 25 ((((16 * (x / 4)) + (2 * (N.2.1 18 240))) + (N.2.1 20 240)) - 1) 12) 26 ((((16 * (x / 4)) + (2 * (N.2.1 18 240))) + (N.2.1 20 240)) - 1) (x % 4))) 4).1, (it_Mo_frameL x ((((16 * (x / 4)) + (2 * (N.2.1 19 240))) + (N.2.1 20 240)) - 1) (0, (sU (sI N 25 ((((16 * (x / 4)) + (2 * (N.2.1 18 240))) + (N.2.1 20 240)) - 1) 12) 26 ((((16 * (x / 4)) + (2 * (N.2.1 18 240))) + (N.2.1 20 240)) - 1) (x % 4))) 4).2) := Eq.trans (if_neg h1) (Eq.trans (if_neg h2) (Eq.trans (if_pos h3) (Eq.trans (if_neg h4) (Eq.trans (if_neg h5) (if_neg h7)))))
              exact bn_reti2 F hr hk h hq d_Mo_frame_228
        · have h4 : (N.2.1 19 240) = 9 := ((nI_eq (a := N.2.1 19 240) (b := 9) (by omega) (by omega)).mp h4)
          refine lv_iconst (v := 0) E1 E2 d_Mo_frame_100 (by decide) ?_
          have hq : o_Mo_frame N x = (0, (sU (sI N 25 ((((16 * (x / 4)) + (2 * (N.2.1 18 240))) + (N.2.1 20 240)) - 1) 12) 26 ((((16 * (x / 4)) + (2 * (N.2.1 18 240))) + (N.2.1 20 240)) - 1) (x % 4))) := Eq.trans (if_neg h1) (Eq.trans (if_neg h2) (Eq.trans (if_pos h3) (if_pos h4)))
          exact bn_reti2 F hr hk h hq d_Mo_frame_101
    · have h2 : r_Mo_has N x (nI (N.2.1 20 240)) = 0 := h2
      refine lv_iconst (v := 0) E1 E2 d_Mo_frame_31 (by decide) ?_
      have hq : o_Mo_frame N x = (0, N) := Eq.trans (if_neg h1) (if_pos h2)
      exact bn_reti2 F hr hk h hq d_Mo_frame_32
