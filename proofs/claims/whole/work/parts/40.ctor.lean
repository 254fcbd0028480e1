/-! constructors of message, station, bridge: written by wip/whole/gen_ctor.py -/
set_option maxHeartbeats 4000000 in
theorem c_Ms_init (l : Launch) (D : va_G) (ar : Nat → ClassId) (z q sz : Nat) : rw_C l y_Ms_init w_Ms_init { frames := 1, cells := 0, slots := 0, locals := 12 } D ar z q sz (.inr (4, [.int 0, .int 0, .long 0, .int 0, .int 0, .null])) [] 0 0 [(q, .inr (4, [.int 0, .int 0, .long 0, .int 0, .int 0, .null]))] := by
  refine rw_start (cc := b_Ms_init) (maxL := 1) (by decide) rfl (Nat.le_of_ble_eq_true rfl) ?_
  intro p e s m args below meth c ls hsz F hO hnm hml hr hk hl h
  subst hsz
  have E1 := F.1
  have E2 := F.2.1
  have hl : lv_has ls 1 [(0, .ref q)] := hl
  refine lv_aload_n E1 E2 d_Ms_init_0 rfl (lv_at hl 0 rfl) ?_
  refine bn_obj F hml hl.1 k_87 d_Ms_init_1 (by decide) (by decide) ?_
  refine lv_aload_n E1 E2 d_Ms_init_4 rfl (lv_at hl 0 rfl) ?_
  refine lv_iconst (v := 0) E1 E2 d_Ms_init_5 (by decide) ?_
  refine rw_put F h 0 rfl rfl i_Ms t_Ms t_Ms_ok n_Ms 0 (by decide) rfl rfl k_88 rfl rfl (by simp) d_Ms_init_6 (fun H locs h => ?_)
  have h : rw_H D (rw_A q s.heap.size) s.heap H _ [(q, .inr (4, [.int 0, .int 0, .long 0, .int 0, .int 0, .null]))] := h
  refine lv_aload_n E1 E2 d_Ms_init_9 rfl (lv_at hl 0 rfl) ?_
  refine lv_iconst (v := 0) E1 E2 d_Ms_init_10 (by decide) ?_
  refine rw_put F h 0 rfl rfl i_Ms t_Ms t_Ms_ok n_Ms 1 (by decide) rfl rfl k_91 rfl rfl (by simp) d_Ms_init_11 (fun H locs h => ?_)
  have h : rw_H D (rw_A q s.heap.size) s.heap H _ [(q, .inr (4, [.int 0, .int 0, .long 0, .int 0, .int 0, .null]))] := h
  refine lv_aload_n E1 E2 d_Ms_init_14 rfl (lv_at hl 0 rfl) ?_
  refine lv_lconst (v := 0) E1 E2 d_Ms_init_15 (by decide) ?_
  refine rw_put F h 0 rfl rfl i_Ms t_Ms t_Ms_ok n_Ms 2 (by decide) rfl rfl k_94 rfl rfl (by simp) d_Ms_init_16 (fun H locs h => ?_)
  have h : rw_H D (rw_A q s.heap.size) s.heap H _ [(q, .inr (4, [.int 0, .int 0, .long 0, .int 0, .int 0, .null]))] := h
  refine lv_aload_n E1 E2 d_Ms_init_19 rfl (lv_at hl 0 rfl) ?_
  refine lv_iconst (v := 0) E1 E2 d_Ms_init_20 (by decide) ?_
  refine rw_put F h 0 rfl rfl i_Ms t_Ms t_Ms_ok n_Ms 3 (by decide) rfl rfl k_97 rfl rfl (by simp) d_Ms_init_21 (fun H locs h => ?_)
  have h : rw_H D (rw_A q s.heap.size) s.heap H _ [(q, .inr (4, [.int 0, .int 0, .long 0, .int 0, .int 0, .null]))] := h
  refine lv_aload_n E1 E2 d_Ms_init_24 rfl (lv_at hl 0 rfl) ?_
  refine lv_iconst (v := 0) E1 E2 d_Ms_init_25 (by decide) ?_
  refine rw_put F h 0 rfl rfl i_Ms t_Ms t_Ms_ok n_Ms 4 (by decide) rfl rfl k_100 rfl rfl (by simp) d_Ms_init_26 (fun H locs h => ?_)
  have h : rw_H D (rw_A q s.heap.size) s.heap H _ [(q, .inr (4, [.int 0, .int 0, .long 0, .int 0, .int 0, .null]))] := h
  refine lv_aload_n E1 E2 d_Ms_init_29 rfl (lv_at hl 0 rfl) ?_
  refine lv_null E1 E2 d_Ms_init_30 ?_
  refine rw_put F h 0 rfl rfl i_Ms t_Ms t_Ms_ok n_Ms 5 (by decide) rfl rfl k_103 rfl rfl (by simp) d_Ms_init_31 (fun H locs h => ?_)
  have h : rw_H D (rw_A q s.heap.size) s.heap H _ [(q, .inr (4, [.int 0, .int 0, .long 0, .int 0, .int 0, .null]))] := h
  refine rw_le (fun hle => ?_)
  have hn : H.size = s.heap.size := Nat.le_antisymm hle h.2.2.1
  exact rw_ret F hr hk h hn d_Ms_init_34
set_option maxHeartbeats 4000000 in
theorem c_St_init (l : Launch) (D : va_G) (ar : Nat → ClassId) (z q sz : Nat) : rw_C l y_St_init w_St_init { frames := 1, cells := 1, slots := 40, locals := 12 } D ar z q sz (.inr (5, [.null, .int 0, .null, .int 0])) [] 1 40 [(q, .inr (5, [.null, .int 1, .ref sz, .int 0])), (sz, .inl (ar 1, 40, .inr (.inl (fun _ => 0))))] := by
  refine rw_start (cc := b_St_init) (maxL := 1) (by decide) rfl (Nat.le_of_ble_eq_true rfl) ?_
  intro p e s m args below meth c ls hsz F hO hnm hml hr hk hl h
  subst hsz
  have E1 := F.1
  have E2 := F.2.1
  have hl : lv_has ls 1 [(0, .ref q)] := hl
  refine lv_aload_n E1 E2 d_St_init_0 rfl (lv_at hl 0 rfl) ?_
  refine bn_obj F hml hl.1 k_200 d_St_init_1 (by decide) (by decide) ?_
  refine lv_aload_n E1 E2 d_St_init_4 rfl (lv_at hl 0 rfl) ?_
  refine lv_null E1 E2 d_St_init_5 ?_
  refine rw_put F h 0 rfl rfl i_St t_St t_St_ok n_St 0 (by decide) rfl rfl k_201 rfl rfl (by simp) d_St_init_6 (fun H locs h => ?_)
  have h : rw_H D (rw_A q s.heap.size) s.heap H _ [(q, .inr (5, [.null, .int 0, .null, .int 0]))] := h
  refine lv_aload_n E1 E2 d_St_init_9 rfl (lv_at hl 0 rfl) ?_
  refine lv_iconst (v := 1) E1 E2 d_St_init_10 (by decide) ?_
  refine rw_put F h 0 rfl rfl i_St t_St t_St_ok n_St 1 (by decide) rfl rfl k_203 rfl rfl (by simp) d_St_init_11 (fun H locs h => ?_)
  have h : rw_H D (rw_A q s.heap.size) s.heap H _ [(q, .inr (5, [.null, .int 1, .null, .int 0]))] := h
  refine lv_aload_n E1 E2 d_St_init_14 rfl (lv_at hl 0 rfl) ?_
  refine lv_bipush (v := 40) E1 E2 d_St_init_15 (by decide) ?_
  refine rw_le (fun hle => ?_)
  have hn : H.size = s.heap.size := Nat.le_antisymm hle h.2.2.1
  refine rw_newa (atype := .long) F h (fun x hx => Or.inr hx) hn k_218 rfl (t0 := 1) rfl (fun _ hz => by cases hz) (k := 40) (a0 := (40, .inr (.inl (fun _ => 0)))) (by rfl) (by decide) (by decide) (by decide) (by decide) (by decide) d_St_init_17 (fun H hn h => ?_)
  have h : rw_H D (rw_A q s.heap.size) s.heap H _ [(q, .inr (5, [.null, .int 1, .null, .int 0])), (s.heap.size, .inl (ar 1, 40, .inr (.inl (fun _ => 0))))] := h
  refine rw_putF F h 0 rfl rfl i_St t_St t_St_ok n_St 2 (by decide) rfl rfl rfl hnm k_206 rfl rfl (by simp) d_St_init_19 (fun H locs h => ?_)
  have h : rw_H D (rw_A q s.heap.size) s.heap H _ [(q, .inr (5, [.null, .int 1, .ref s.heap.size, .int 0])), (s.heap.size, .inl (ar 1, 40, .inr (.inl (fun _ => 0))))] := h
  refine lv_aload_n E1 E2 d_St_init_22 rfl (lv_at hl 0 rfl) ?_
  refine lv_iconst (v := 0) E1 E2 d_St_init_23 (by decide) ?_
  refine rw_put F h 0 rfl rfl i_St t_St t_St_ok n_St 3 (by decide) rfl rfl k_207 rfl rfl (by simp) d_St_init_24 (fun H locs h => ?_)
  have h : rw_H D (rw_A q s.heap.size) s.heap H _ [(q, .inr (5, [.null, .int 1, .ref s.heap.size, .int 0])), (s.heap.size, .inl (ar 1, 40, .inr (.inl (fun _ => 0))))] := h
  refine rw_le (fun hle => ?_)
  have hlt := (h.1 1 _ rfl).lt
  have hn : H.size = s.heap.size + 1 := Nat.le_antisymm hle hlt
  exact rw_ret F hr hk h hn d_St_init_27
set_option maxHeartbeats 4000000 in
theorem c_Br_init (l : Launch) (D : va_G) (ar : Nat → ClassId) (z q sz : Nat) (b : Int32) : rw_C l y_Br_init w_Br_init { frames := 1, cells := 3, slots := 36, locals := 12 } D ar z q sz (.inr (1, [.int 0, .int 0, .null, .int 0, .int 0, .int 0, .null, .null, .null])) [.int b] 3 36 [(q, .inr (1, [.int b, .int (64 + b), .ref sz, .int (64 + b), .int 0, .int 0, .null, .ref (sz + 1), .ref (sz + 2)])), (sz, .inl (ar 4, 4, .inr (.inr (.inr (.inr (fun _ => none)))))), (sz + 1, .inl (ar 0, 16, .inl (fun _ => 0))), (sz + 2, .inl (ar 0, 16, .inl (fun _ => 0)))] := by
  refine rw_start (cc := b_Br_init) (maxL := 2) (by decide) rfl (Nat.le_of_ble_eq_true rfl) ?_
  intro p e s m args below meth c ls hsz F hO hnm hml hr hk hl h
  subst hsz
  have E1 := F.1
  have E2 := F.2.1
  have hl : lv_has ls 2 [(0, .ref q), (1, .int b)] := hl
  refine lv_aload_n E1 E2 d_Br_init_0 rfl (lv_at hl 0 rfl) ?_
  refine bn_obj F hml hl.1 k_33 d_Br_init_1 (by decide) (by decide) ?_
  refine lv_aload_n E1 E2 d_Br_init_4 rfl (lv_at hl 0 rfl) ?_
  refine lv_iconst (v := 4) E1 E2 d_Br_init_5 (by decide) ?_
  have hn : s.heap.size = s.heap.size := rfl
  refine rw_newq F h (fun x hx => Or.inr hx) hn k_34 (bx_AO hO.to ao_Po) (t0 := 4) rfl (k := 4) (by decide) (by decide) (by decide) (by decide) (by decide) d_Br_init_6 (fun H hn h => ?_)
  have h : rw_H D (rw_A q s.heap.size) s.heap H _ [(q, .inr (1, [.int 0, .int 0, .null, .int 0, .int 0, .int 0, .null, .null, .null])), (s.heap.size, .inl (ar 4, 4, .inr (.inr (.inr (.inr (fun _ => none))))))] := h
  refine rw_putF F h 0 rfl rfl i_Br t_Br t_Br_ok n_Br 2 (by decide) rfl rfl rfl hnm k_38 rfl rfl (by simp) d_Br_init_9 (fun H locs h => ?_)
  have h : rw_H D (rw_A q s.heap.size) s.heap H _ [(q, .inr (1, [.int 0, .int 0, .ref s.heap.size, .int 0, .int 0, .int 0, .null, .null, .null])), (s.heap.size, .inl (ar 4, 4, .inr (.inr (.inr (.inr (fun _ => none))))))] := h
  refine lv_aload_n E1 E2 d_Br_init_12 rfl (lv_at hl 0 rfl) ?_
  refine lv_iconst (v := 0) E1 E2 d_Br_init_13 (by decide) ?_
  refine rw_put F h 0 rfl rfl i_Br t_Br t_Br_ok n_Br 4 (by decide) rfl rfl k_41 rfl rfl (by simp) d_Br_init_14 (fun H locs h => ?_)
  have h : rw_H D (rw_A q s.heap.size) s.heap H _ [(q, .inr (1, [.int 0, .int 0, .ref s.heap.size, .int 0, .int 0, .int 0, .null, .null, .null])), (s.heap.size, .inl (ar 4, 4, .inr (.inr (.inr (.inr (fun _ => none))))))] := h
  refine lv_aload_n E1 E2 d_Br_init_17 rfl (lv_at hl 0 rfl) ?_
  refine lv_iconst (v := 0) E1 E2 d_Br_init_18 (by decide) ?_
  refine rw_put F h 0 rfl rfl i_Br t_Br t_Br_ok n_Br 5 (by decide) rfl rfl k_42 rfl rfl (by simp) d_Br_init_19 (fun H locs h => ?_)
  have h : rw_H D (rw_A q s.heap.size) s.heap H _ [(q, .inr (1, [.int 0, .int 0, .ref s.heap.size, .int 0, .int 0, .int 0, .null, .null, .null])), (s.heap.size, .inl (ar 4, 4, .inr (.inr (.inr (.inr (fun _ => none))))))] := h
  refine lv_aload_n E1 E2 d_Br_init_22 rfl (lv_at hl 0 rfl) ?_
  refine lv_null E1 E2 d_Br_init_23 ?_
  refine rw_put F h 0 rfl rfl i_Br t_Br t_Br_ok n_Br 6 (by decide) rfl rfl k_43 rfl rfl (by simp) d_Br_init_24 (fun H locs h => ?_)
  have h : rw_H D (rw_A q s.heap.size) s.heap H _ [(q, .inr (1, [.int 0, .int 0, .ref s.heap.size, .int 0, .int 0, .int 0, .null, .null, .null])), (s.heap.size, .inl (ar 4, 4, .inr (.inr (.inr (.inr (fun _ => none))))))] := h
  refine lv_aload_n E1 E2 d_Br_init_27 rfl (lv_at hl 0 rfl) ?_
  refine lv_bipush (v := 16) E1 E2 d_Br_init_28 (by decide) ?_
  refine rw_le (fun hle => ?_)
  have hlt := (h.1 1 _ rfl).lt
  have hn : H.size = s.heap.size + 1 := Nat.le_antisymm hle hlt
  refine rw_newa (atype := .int) F h (fun x hx => Or.inr hx) hn k_65 rfl (t0 := 0) rfl (fun _ hz => by cases hz) (k := 16) (a0 := (16, .inl (fun _ => 0))) (by rfl) (by decide) (by decide) (by decide) (by decide) (by decide) d_Br_init_30 (fun H hn h => ?_)
  have h : rw_H D (rw_A q s.heap.size) s.heap H _ [(q, .inr (1, [.int 0, .int 0, .ref s.heap.size, .int 0, .int 0, .int 0, .null, .null, .null])), (s.heap.size, .inl (ar 4, 4, .inr (.inr (.inr (.inr (fun _ => none)))))), (s.heap.size + 1, .inl (ar 0, 16, .inl (fun _ => 0)))] := h
  refine rw_putF F h 0 rfl rfl i_Br t_Br t_Br_ok n_Br 7 (by decide) rfl rfl rfl hnm k_44 rfl rfl (by simp) d_Br_init_32 (fun H locs h => ?_)
  have h : rw_H D (rw_A q s.heap.size) s.heap H _ [(q, .inr (1, [.int 0, .int 0, .ref s.heap.size, .int 0, .int 0, .int 0, .null, .ref (s.heap.size + 1), .null])), (s.heap.size, .inl (ar 4, 4, .inr (.inr (.inr (.inr (fun _ => none)))))), (s.heap.size + 1, .inl (ar 0, 16, .inl (fun _ => 0)))] := h
  refine lv_aload_n E1 E2 d_Br_init_35 rfl (lv_at hl 0 rfl) ?_
  refine lv_bipush (v := 16) E1 E2 d_Br_init_36 (by decide) ?_
  refine rw_le (fun hle => ?_)
  have hlt := (h.1 2 _ rfl).lt
  have hn : H.size = s.heap.size + 2 := Nat.le_antisymm hle hlt
  refine rw_newa (atype := .int) F h (fun x hx => Or.inr hx) hn k_65 rfl (t0 := 0) rfl (fun _ hz => by cases hz) (k := 16) (a0 := (16, .inl (fun _ => 0))) (by rfl) (by decide) (by decide) (by decide) (by decide) (by decide) d_Br_init_38 (fun H hn h => ?_)
  have h : rw_H D (rw_A q s.heap.size) s.heap H _ [(q, .inr (1, [.int 0, .int 0, .ref s.heap.size, .int 0, .int 0, .int 0, .null, .ref (s.heap.size + 1), .null])), (s.heap.size, .inl (ar 4, 4, .inr (.inr (.inr (.inr (fun _ => none)))))), (s.heap.size + 1, .inl (ar 0, 16, .inl (fun _ => 0))), (s.heap.size + 2, .inl (ar 0, 16, .inl (fun _ => 0)))] := h
  refine rw_putF F h 0 rfl rfl i_Br t_Br t_Br_ok n_Br 8 (by decide) rfl rfl rfl hnm k_45 rfl rfl (by simp) d_Br_init_40 (fun H locs h => ?_)
  have h : rw_H D (rw_A q s.heap.size) s.heap H _ [(q, .inr (1, [.int 0, .int 0, .ref s.heap.size, .int 0, .int 0, .int 0, .null, .ref (s.heap.size + 1), .ref (s.heap.size + 2)])), (s.heap.size, .inl (ar 4, 4, .inr (.inr (.inr (.inr (fun _ => none)))))), (s.heap.size + 1, .inl (ar 0, 16, .inl (fun _ => 0))), (s.heap.size + 2, .inl (ar 0, 16, .inl (fun _ => 0)))] := h
  refine lv_aload_n E1 E2 d_Br_init_43 rfl (lv_at hl 0 rfl) ?_
  refine lv_iload_n E1 E2 d_Br_init_44 rfl (lv_at hl 1 rfl) ?_
  refine rw_putF F h 0 rfl rfl i_Br t_Br t_Br_ok n_Br 0 (by decide) rfl rfl rfl hnm k_36 rfl rfl (by simp) d_Br_init_45 (fun H locs h => ?_)
  have h : rw_H D (rw_A q s.heap.size) s.heap H _ [(q, .inr (1, [.int b, .int 0, .ref s.heap.size, .int 0, .int 0, .int 0, .null, .ref (s.heap.size + 1), .ref (s.heap.size + 2)])), (s.heap.size, .inl (ar 4, 4, .inr (.inr (.inr (.inr (fun _ => none)))))), (s.heap.size + 1, .inl (ar 0, 16, .inl (fun _ => 0))), (s.heap.size + 2, .inl (ar 0, 16, .inl (fun _ => 0)))] := h
  refine lv_aload_n E1 E2 d_Br_init_48 rfl (lv_at hl 0 rfl) ?_
  refine lv_bipush (v := 64) E1 E2 d_Br_init_49 (by decide) ?_
  refine lv_iload_n E1 E2 d_Br_init_51 rfl (lv_at hl 1 rfl) ?_
  refine lv_iadd E1 E2 d_Br_init_52 ?_
  refine rw_put F h 0 rfl rfl i_Br t_Br t_Br_ok n_Br 1 (by decide) rfl rfl k_37 rfl rfl (by simp) d_Br_init_53 (fun H locs h => ?_)
  have h : rw_H D (rw_A q s.heap.size) s.heap H _ [(q, .inr (1, [.int b, .int (64 + b), .ref s.heap.size, .int 0, .int 0, .int 0, .null, .ref (s.heap.size + 1), .ref (s.heap.size + 2)])), (s.heap.size, .inl (ar 4, 4, .inr (.inr (.inr (.inr (fun _ => none)))))), (s.heap.size + 1, .inl (ar 0, 16, .inl (fun _ => 0))), (s.heap.size + 2, .inl (ar 0, 16, .inl (fun _ => 0)))] := h
  refine lv_aload_n E1 E2 d_Br_init_56 rfl (lv_at hl 0 rfl) ?_
  refine lv_aload_n E1 E2 d_Br_init_57 rfl (lv_at hl 0 rfl) ?_
  refine rw_get F h 0 rfl rfl i_Br 1 (by decide) rfl k_37 rfl d_Br_init_58 ?_
  refine rw_put F h 0 rfl rfl i_Br t_Br t_Br_ok n_Br 3 (by decide) rfl rfl k_40 rfl rfl (by simp) d_Br_init_61 (fun H locs h => ?_)
  have h : rw_H D (rw_A q s.heap.size) s.heap H _ [(q, .inr (1, [.int b, .int (64 + b), .ref s.heap.size, .int (64 + b), .int 0, .int 0, .null, .ref (s.heap.size + 1), .ref (s.heap.size + 2)])), (s.heap.size, .inl (ar 4, 4, .inr (.inr (.inr (.inr (fun _ => none)))))), (s.heap.size + 1, .inl (ar 0, 16, .inl (fun _ => 0))), (s.heap.size + 2, .inl (ar 0, 16, .inl (fun _ => 0)))] := h
  refine rw_le (fun hle => ?_)
  have hlt := (h.1 3 _ rfl).lt
  have hn : H.size = s.heap.size + 3 := Nat.le_antisymm hle hlt
  exact rw_ret F hr hk h hn d_Br_init_64
