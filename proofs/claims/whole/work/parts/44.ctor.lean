/-! the constructor of the class: written by wip/whole/gen_ctor2.py -/
def neB (a : Nat) : Nat → Option Nat := fun i => some (a + 2 + 64 * i)
def neS (a : Nat) : Nat → Option Nat := fun i => some (a + 322 + 2 * i)
theorem neB_5 (a : Nat) : ∀ i : Nat, i < 5 → (va_up (va_up (va_up (va_up (va_up (fun _ => none) 0 (some (a + 2))) 1 (some (a + 66))) 2 (some (a + 130))) 3 (some (a + 194))) 4 (some (a + 258))) i = neB a i := by
  intro i hi
  have h : i = 0 ∨ i = 1 ∨ i = 2 ∨ i = 3 ∨ i = 4 := by omega
  rcases h with rfl | rfl | rfl | rfl | rfl <;> rfl
theorem neS_8 (a : Nat) : ∀ i : Nat, i < 8 → (va_up (va_up (va_up (va_up (va_up (va_up (va_up (va_up (fun _ => none) 0 (some (a + 322))) 1 (some (a + 324))) 2 (some (a + 326))) 3 (some (a + 328))) 4 (some (a + 330))) 5 (some (a + 332))) 6 (some (a + 334))) 7 (some (a + 336))) i = neS a i := by
  intro i hi
  have h : i = 0 ∨ i = 1 ∨ i = 2 ∨ i = 3 ∨ i = 4 ∨ i = 5 ∨ i = 6 ∨ i = 7 := by omega
  rcases h with rfl | rfl | rfl | rfl | rfl | rfl | rfl | rfl <;> rfl
def neW (ar : Nat → ClassId) (o a : Nat) : va_W := (o, .inr (0, [.ref a, .ref (a + 1), .int 0])) :: (a, .inl (ar 3, 5, .inr (.inr (.inr (.inr (neB a)))))) :: (a + 1, .inl (ar 6, 8, .inr (.inr (.inr (.inr (neS a)))))) :: ((((((((((((brW ar 0 (a + 2) ++ brW ar 1 (a + 66)) ++ brW ar 2 (a + 130)) ++ brW ar 3 (a + 194)) ++ brW ar 4 (a + 258)) ++ stW ar (a + 322)) ++ stW ar (a + 324)) ++ stW ar (a + 326)) ++ stW ar (a + 328)) ++ stW ar (a + 330)) ++ stW ar (a + 332)) ++ stW ar (a + 334)) ++ stW ar (a + 336))
set_option maxHeartbeats 8000000 in
set_option maxRecDepth 100000 in
theorem c_Ne_init (l : Launch) (D : va_G) (ar : Nat → ClassId) (z q sz : Nat) (hzq : z ≤ q) : rw_C l y_Ne_init w_Ne_init { frames := 5, cells := 338, slots := 2650, locals := 130 } D ar z q sz (.inr (0, [.null, .null, .int 0])) [] 338 2650 (neW ar q sz) := by
  refine rw_start (cc := b_Ne_init) (maxL := 2) (by decide) rfl (Nat.le_of_ble_eq_true rfl) ?_
  intro p e s m args below meth c ls hsz F hO hnm hml hr hk hl h
  have E1 := F.1
  have E2 := F.2.1
  subst hsz
  have hq := (h.1 0 _ rfl).lt
  have hzA : ∀ a : Nat, a < z → a < s.heap.size ∧ ¬ rw_A q s.heap.size a := fun a ha => ⟨by have hq : q < s.heap.size := hq; omega, by have hq : q < s.heap.size := hq; rintro (h1 | h1) <;> omega⟩
  have hn : s.heap.size = s.heap.size := rfl
  have hl : lv_has ls 2 [(0, .ref q)] := hl
  have hzs : z ≤ s.heap.size := Nat.le_trans hzq (Nat.le_of_lt hq)
  refine lv_aload_n E1 E2 d_Ne_init_0 rfl (lv_at hl 0 rfl) ?_
  refine bn_obj F hml hl.1 k_22 d_Ne_init_1 (by decide) (by decide) ?_
  refine lv_aload_n E1 E2 d_Ne_init_4 rfl (lv_at hl 0 rfl) ?_
  refine lv_iconst (v := 5) E1 E2 d_Ne_init_5 (by decide) ?_
  refine rw_newq F h (fun x hx => Or.inr hx) hn k_25 (bx_AO hO.to ao_Br) (t0 := 3) rfl (k := 5) (by decide) (by decide) (by decide) (by decide) (by decide) d_Ne_init_6 (fun H hn h => ?_)
  have h : rw_H D (rw_A q s.heap.size) s.heap H _ ([(q, .inr (0, [.null, .null, .int 0])), (s.heap.size, .inl (ar 3, 5, .inr (.inr (.inr (.inr (fun _ => none))))))]) := h
  refine rw_putF F h 0 rfl rfl i_Ne t_Ne t_Ne_ok n_Ne 0 (by decide) rfl rfl rfl hnm k_219 rfl rfl (by simp) d_Ne_init_9 (fun H locs h => ?_)
  have h : rw_H D (rw_A q s.heap.size) s.heap H _ ([(q, .inr (0, [.ref s.heap.size, .null, .int 0])), (s.heap.size, .inl (ar 3, 5, .inr (.inr (.inr (.inr (fun _ => none))))))]) := h
  refine lv_aload_n E1 E2 d_Ne_init_12 rfl (lv_at hl 0 rfl) ?_
  refine lv_bipush (v := 8) E1 E2 d_Ne_init_13 (by decide) ?_
  refine rw_le (fun hle => ?_)
  have hlt := (h.1 1 _ rfl).lt
  have hn : H.size = s.heap.size + 1 := Nat.le_antisymm hle hlt
  refine rw_newq F h (fun x hx => Or.inr hx) hn k_27 (bx_AO hO.to ao_St) (t0 := 6) rfl (k := 8) (by decide) (by decide) (by decide) (by decide) (by decide) d_Ne_init_15 (fun H hn h => ?_)
  have h : rw_H D (rw_A q s.heap.size) s.heap H _ ([(q, .inr (0, [.ref s.heap.size, .null, .int 0])), (s.heap.size, .inl (ar 3, 5, .inr (.inr (.inr (.inr (fun _ => none)))))), (s.heap.size + 1, .inl (ar 6, 8, .inr (.inr (.inr (.inr (fun _ => none))))))]) := h
  refine rw_putF F h 0 rfl rfl i_Ne t_Ne t_Ne_ok n_Ne 1 (by decide) rfl rfl rfl hnm k_220 rfl rfl (by simp) d_Ne_init_18 (fun H locs h => ?_)
  have h : rw_H D (rw_A q s.heap.size) s.heap H _ ([(q, .inr (0, [.ref s.heap.size, .ref (s.heap.size + 1), .int 0])), (s.heap.size, .inl (ar 3, 5, .inr (.inr (.inr (.inr (fun _ => none)))))), (s.heap.size + 1, .inl (ar 6, 8, .inr (.inr (.inr (.inr (fun _ => none))))))]) := h
  refine lv_aload_n E1 E2 d_Ne_init_21 rfl (lv_at hl 0 rfl) ?_
  refine lv_iconst (v := 0) E1 E2 d_Ne_init_22 (by decide) ?_
  refine rw_put F h 0 rfl rfl i_Ne t_Ne t_Ne_ok n_Ne 2 (by decide) rfl rfl k_221 rfl rfl (by simp) d_Ne_init_23 (fun H locs h => ?_)
  have h : rw_H D (rw_A q s.heap.size) s.heap H _ ([(q, .inr (0, [.ref s.heap.size, .ref (s.heap.size + 1), .int 0])), (s.heap.size, .inl (ar 3, 5, .inr (.inr (.inr (.inr (fun _ => none)))))), (s.heap.size + 1, .inl (ar 6, 8, .inr (.inr (.inr (.inr (fun _ => none))))))]) := h
  refine lv_iconst (v := 0) E1 E2 d_Ne_init_26 (by decide) ?_
  refine lv_istore_n E1 E2 d_Ne_init_27 rfl hl (by decide) rfl (fun ls hl => ?_)
  have hl : lv_has ls 2 [(1, .int 0), (0, .ref q)] := hl
  refine lv_iload_n E1 E2 d_Ne_init_28 rfl (lv_at hl 0 rfl) ?_
  refine lv_iconst (v := 5) E1 E2 d_Ne_init_29 (by decide) ?_
  refine lv_icmp_ge E1 E2 d_Ne_init_30 rfl (fun hz => absurd hz (by decide)) (fun _ => ?_)
  refine lv_aload_n E1 E2 d_Ne_init_33 rfl (lv_at hl 1 rfl) ?_
  refine rw_get F h 0 rfl rfl i_Ne 0 (by decide) rfl k_219 rfl d_Ne_init_34 ?_
  refine lv_iload_n E1 E2 d_Ne_init_37 rfl (lv_at hl 0 rfl) ?_
  refine rw_le (fun hle => ?_)
  have hlt := (h.1 2 _ rfl).lt
  have hn : H.size = s.heap.size + 2 := Nat.le_antisymm hle hlt
  have h : rw_H D (rw_A q s.heap.size) s.heap H _ ((q, .inr (0, [.ref s.heap.size, .ref (s.heap.size + 1), .int 0])) :: (s.heap.size, .inl (ar 3, 5, .inr (.inr (.inr (.inr (fun _ => none)))))) :: (s.heap.size + 1, .inl (ar 6, 8, .inr (.inr (.inr (.inr (fun _ => none)))))) :: []) := h
  refine rw_new F h (fun x hx => Or.inr hx) hn i_Br t_Br t_Br_ok k_25 k_29 k_2 (ci := 1) rfl (fs := [.int 0, .int 0, .null, .int 0, .int 0, .int 0, .null, .null, .null]) df_Br (by decide) (by decide) d_Ne_init_38 (fun H hn h => ?_)
  refine lv_dup E1 E2 d_Ne_init_41 rfl ?_
  refine lv_iload_n E1 E2 d_Ne_init_42 rfl (lv_at hl 0 rfl) ?_
  have h : rw_H D (rw_A q s.heap.size) s.heap H _ (((q, .inr (0, [.ref s.heap.size, .ref (s.heap.size + 1), .int 0])) :: (s.heap.size, .inl (ar 3, 5, .inr (.inr (.inr (.inr (fun _ => none)))))) :: (s.heap.size + 1, .inl (ar 6, 8, .inr (.inr (.inr (.inr (fun _ => none)))))) :: []) ++ [(s.heap.size + 2, .inr (1, [.int 0, .int 0, .null, .int 0, .int 0, .int 0, .null, .null, .null]))]) := h
  refine rw_ctorA (k := 1) (As := [.int 0]) (rest := [.ref (s.heap.size + 2), .int 0, .ref s.heap.size]) F hO hzA (fun x hx => Or.inr hx) hml hl.1 h hn (c_Br_init l D ar z (s.heap.size + 2) (s.heap.size + 3) 0) k_32 k_2 k_30 k_31 rfl ⟨rfl, rfl⟩ (by decide) ⟨by decide, by decide⟩ rfl rfl (Nat.le_of_ble_eq_true rfl) d_Ne_init_43 ⟨by decide, by decide⟩ (fun H locs hn h => ?_)
  have h : rw_H D (rw_A q s.heap.size) s.heap H _ (((q, .inr (0, [.ref s.heap.size, .ref (s.heap.size + 1), .int 0])) :: (s.heap.size, .inl (ar 3, 5, .inr (.inr (.inr (.inr (fun _ => none)))))) :: (s.heap.size + 1, .inl (ar 6, 8, .inr (.inr (.inr (.inr (fun _ => none)))))) :: []) ++ [(s.heap.size + 2, .inr (1, brV 0 (s.heap.size + 2))), (s.heap.size + 3, .inl (ar 4, 4, .inr (.inr (.inr (.inr (fun _ => none)))))), (s.heap.size + 4, .inl (ar 0, 16, .inl (fun _ => 0))), (s.heap.size + 5, .inl (ar 0, 16, .inl (fun _ => 0)))]) := h
  refine rw_astq F h 1 3 _ 1 rfl rfl rw_at rfl (i := 0) (by decide) (by decide) d_Ne_init_46 (fun H locs h => ?_)
  have h : rw_H D (rw_A q s.heap.size) s.heap H _ (((q, .inr (0, [.ref s.heap.size, .ref (s.heap.size + 1), .int 0])) :: (s.heap.size, .inl (ar 3, 5, .inr (.inr (.inr (.inr (va_up (fun _ => none) 0 (some (s.heap.size + 2)))))))) :: (s.heap.size + 1, .inl (ar 6, 8, .inr (.inr (.inr (.inr (fun _ => none)))))) :: []) ++ [(s.heap.size + 2, .inr (1, brV 0 (s.heap.size + 2))), (s.heap.size + 3, .inl (ar 4, 4, .inr (.inr (.inr (.inr (fun _ => none)))))), (s.heap.size + 4, .inl (ar 0, 16, .inl (fun _ => 0))), (s.heap.size + 5, .inl (ar 0, 16, .inl (fun _ => 0)))]) := h
  refine rw_le (fun hle => ?_)
  have h9 : H.size ≤ s.heap.size + 6 := hle
  have hlt : s.heap.size + 5 < H.size := (h.1 _ _ rw_at3).lt
  have hn : H.size = s.heap.size + 6 := Nat.le_antisymm h9 hlt
  clear hle h9 hlt
  refine lv_aload_n E1 E2 d_Ne_init_47 rfl (lv_at hl 1 rfl) ?_
  refine rw_get F h 0 rfl rfl i_Ne 0 (by decide) rfl k_219 rfl d_Ne_init_48 ?_
  refine lv_iload_n E1 E2 d_Ne_init_51 rfl (lv_at hl 0 rfl) ?_
  refine va_aldq F.1 F.2.1 F.2.2.2.2 h.1 1 3 rfl rfl (show vp_in (nI 0) 5 from vp_in_nI (by decide) (by decide)) d_Ne_init_52 ?_
  show W p l e _ s m args below meth c H _ _ _ _ (F0 m _ ls [.ref (s.heap.size + 2)])
  refine rw_callM (As := []) (rest := []) (B := s.heap.size + 2) F hO hzA (fun x hx => Or.inr hx) hml hl.1 h hn (ci := 1) rfl rfl (c_Br_addPorts l D ar z (s.heap.size + 2) 0 (Nat.le_trans hzs (Nat.le_add_right _ _))) (bn_goodV k_66 k_67 k_68 k_2 k_69) ⟨rfl, rfl⟩ (by decide) ⟨by decide, by decide⟩ rfl rfl (Nat.le_of_ble_eq_true rfl) d_Ne_init_53 ⟨by decide, by decide⟩ (fun H locs hn h => ?_)
  have h : rw_H D (rw_A q s.heap.size) s.heap H _ ((q, .inr (0, [.ref s.heap.size, .ref (s.heap.size + 1), .int 0])) :: (s.heap.size, .inl (ar 3, 5, .inr (.inr (.inr (.inr (va_up (fun _ => none) 0 (some (s.heap.size + 2)))))))) :: (s.heap.size + 1, .inl (ar 6, 8, .inr (.inr (.inr (.inr (fun _ => none)))))) :: brW ar 0 (s.heap.size + 2)) := h
  obtain ⟨R1, hR1⟩ : ∃ X : va_W, X = brW ar 0 (s.heap.size + 2) := ⟨_, rfl⟩
  rw [← hR1] at h
  refine lv_iinc (v := 1) E1 E2 d_Ne_init_56 hl (k := 0) rfl rfl (by decide) rfl (fun ls hl => ?_)
  have hl : lv_has ls 2 [(1, .int 1), (0, .ref q)] := hl
  refine lv_goto E1 E2 d_Ne_init_59 rfl ?_
  refine lv_iload_n E1 E2 d_Ne_init_28 rfl (lv_at hl 0 rfl) ?_
  refine lv_iconst (v := 5) E1 E2 d_Ne_init_29 (by decide) ?_
  refine lv_icmp_ge E1 E2 d_Ne_init_30 rfl (fun hz => absurd hz (by decide)) (fun _ => ?_)
  refine lv_aload_n E1 E2 d_Ne_init_33 rfl (lv_at hl 1 rfl) ?_
  refine rw_get F h 0 rfl rfl i_Ne 0 (by decide) rfl k_219 rfl d_Ne_init_34 ?_
  refine lv_iload_n E1 E2 d_Ne_init_37 rfl (lv_at hl 0 rfl) ?_
  have h : rw_H D (rw_A q s.heap.size) s.heap H _ ((q, .inr (0, [.ref s.heap.size, .ref (s.heap.size + 1), .int 0])) :: (s.heap.size, .inl (ar 3, 5, .inr (.inr (.inr (.inr (va_up (fun _ => none) 0 (some (s.heap.size + 2)))))))) :: (s.heap.size + 1, .inl (ar 6, 8, .inr (.inr (.inr (.inr (fun _ => none)))))) :: R1) := h
  refine rw_new F h (fun x hx => Or.inr hx) hn i_Br t_Br t_Br_ok k_25 k_29 k_2 (ci := 1) rfl (fs := [.int 0, .int 0, .null, .int 0, .int 0, .int 0, .null, .null, .null]) df_Br (by decide) (by decide) d_Ne_init_38 (fun H hn h => ?_)
  refine lv_dup E1 E2 d_Ne_init_41 rfl ?_
  refine lv_iload_n E1 E2 d_Ne_init_42 rfl (lv_at hl 0 rfl) ?_
  have h : rw_H D (rw_A q s.heap.size) s.heap H _ (((q, .inr (0, [.ref s.heap.size, .ref (s.heap.size + 1), .int 0])) :: (s.heap.size, .inl (ar 3, 5, .inr (.inr (.inr (.inr (va_up (fun _ => none) 0 (some (s.heap.size + 2)))))))) :: (s.heap.size + 1, .inl (ar 6, 8, .inr (.inr (.inr (.inr (fun _ => none)))))) :: R1) ++ [(s.heap.size + 66, .inr (1, [.int 0, .int 0, .null, .int 0, .int 0, .int 0, .null, .null, .null]))]) := h
  refine rw_ctorA (k := 1) (As := [.int 1]) (rest := [.ref (s.heap.size + 66), .int 1, .ref s.heap.size]) F hO hzA (fun x hx => Or.inr hx) hml hl.1 h hn (c_Br_init l D ar z (s.heap.size + 66) (s.heap.size + 67) 1) k_32 k_2 k_30 k_31 rfl ⟨rfl, rfl⟩ (by decide) ⟨by decide, by decide⟩ rfl rfl (Nat.le_of_ble_eq_true rfl) d_Ne_init_43 ⟨by decide, by decide⟩ (fun H locs hn h => ?_)
  have h : rw_H D (rw_A q s.heap.size) s.heap H _ (((q, .inr (0, [.ref s.heap.size, .ref (s.heap.size + 1), .int 0])) :: (s.heap.size, .inl (ar 3, 5, .inr (.inr (.inr (.inr (va_up (fun _ => none) 0 (some (s.heap.size + 2)))))))) :: (s.heap.size + 1, .inl (ar 6, 8, .inr (.inr (.inr (.inr (fun _ => none)))))) :: R1) ++ [(s.heap.size + 66, .inr (1, brV 1 (s.heap.size + 66))), (s.heap.size + 67, .inl (ar 4, 4, .inr (.inr (.inr (.inr (fun _ => none)))))), (s.heap.size + 68, .inl (ar 0, 16, .inl (fun _ => 0))), (s.heap.size + 69, .inl (ar 0, 16, .inl (fun _ => 0)))]) := h
  refine rw_astq F h 1 3 _ 1 rfl rfl rw_at rfl (i := 1) (by decide) (by decide) d_Ne_init_46 (fun H locs h => ?_)
  have h : rw_H D (rw_A q s.heap.size) s.heap H _ (((q, .inr (0, [.ref s.heap.size, .ref (s.heap.size + 1), .int 0])) :: (s.heap.size, .inl (ar 3, 5, .inr (.inr (.inr (.inr (va_up (va_up (fun _ => none) 0 (some (s.heap.size + 2))) 1 (some (s.heap.size + 66)))))))) :: (s.heap.size + 1, .inl (ar 6, 8, .inr (.inr (.inr (.inr (fun _ => none)))))) :: R1) ++ [(s.heap.size + 66, .inr (1, brV 1 (s.heap.size + 66))), (s.heap.size + 67, .inl (ar 4, 4, .inr (.inr (.inr (.inr (fun _ => none)))))), (s.heap.size + 68, .inl (ar 0, 16, .inl (fun _ => 0))), (s.heap.size + 69, .inl (ar 0, 16, .inl (fun _ => 0)))]) := h
  refine rw_le (fun hle => ?_)
  have h9 : H.size ≤ s.heap.size + 70 := hle
  have hlt : s.heap.size + 69 < H.size := (h.1 _ _ rw_at3).lt
  have hn : H.size = s.heap.size + 70 := Nat.le_antisymm h9 hlt
  clear hle h9 hlt
  refine lv_aload_n E1 E2 d_Ne_init_47 rfl (lv_at hl 1 rfl) ?_
  refine rw_get F h 0 rfl rfl i_Ne 0 (by decide) rfl k_219 rfl d_Ne_init_48 ?_
  refine lv_iload_n E1 E2 d_Ne_init_51 rfl (lv_at hl 0 rfl) ?_
  refine va_aldq F.1 F.2.1 F.2.2.2.2 h.1 1 3 rfl rfl (show vp_in (nI 1) 5 from vp_in_nI (by decide) (by decide)) d_Ne_init_52 ?_
  show W p l e _ s m args below meth c H _ _ _ _ (F0 m _ ls [.ref (s.heap.size + 66)])
  refine rw_callM (As := []) (rest := []) (B := s.heap.size + 66) F hO hzA (fun x hx => Or.inr hx) hml hl.1 h hn (ci := 1) rfl rfl (c_Br_addPorts l D ar z (s.heap.size + 66) 1 (Nat.le_trans hzs (Nat.le_add_right _ _))) (bn_goodV k_66 k_67 k_68 k_2 k_69) ⟨rfl, rfl⟩ (by decide) ⟨by decide, by decide⟩ rfl rfl (Nat.le_of_ble_eq_true rfl) d_Ne_init_53 ⟨by decide, by decide⟩ (fun H locs hn h => ?_)
  have h : rw_H D (rw_A q s.heap.size) s.heap H _ ((q, .inr (0, [.ref s.heap.size, .ref (s.heap.size + 1), .int 0])) :: (s.heap.size, .inl (ar 3, 5, .inr (.inr (.inr (.inr (va_up (va_up (fun _ => none) 0 (some (s.heap.size + 2))) 1 (some (s.heap.size + 66)))))))) :: (s.heap.size + 1, .inl (ar 6, 8, .inr (.inr (.inr (.inr (fun _ => none)))))) :: (R1 ++ brW ar 1 (s.heap.size + 66))) := h
  obtain ⟨R2, hR2⟩ : ∃ X : va_W, X = (R1 ++ brW ar 1 (s.heap.size + 66)) := ⟨_, rfl⟩
  rw [← hR2] at h
  refine lv_iinc (v := 2) E1 E2 d_Ne_init_56 hl (k := 0) rfl rfl (by decide) rfl (fun ls hl => ?_)
  have hl : lv_has ls 2 [(1, .int 2), (0, .ref q)] := hl
  refine lv_goto E1 E2 d_Ne_init_59 rfl ?_
  refine lv_iload_n E1 E2 d_Ne_init_28 rfl (lv_at hl 0 rfl) ?_
  refine lv_iconst (v := 5) E1 E2 d_Ne_init_29 (by decide) ?_
  refine lv_icmp_ge E1 E2 d_Ne_init_30 rfl (fun hz => absurd hz (by decide)) (fun _ => ?_)
  refine lv_aload_n E1 E2 d_Ne_init_33 rfl (lv_at hl 1 rfl) ?_
  refine rw_get F h 0 rfl rfl i_Ne 0 (by decide) rfl k_219 rfl d_Ne_init_34 ?_
  refine lv_iload_n E1 E2 d_Ne_init_37 rfl (lv_at hl 0 rfl) ?_
  have h : rw_H D (rw_A q s.heap.size) s.heap H _ ((q, .inr (0, [.ref s.heap.size, .ref (s.heap.size + 1), .int 0])) :: (s.heap.size, .inl (ar 3, 5, .inr (.inr (.inr (.inr (va_up (va_up (fun _ => none) 0 (some (s.heap.size + 2))) 1 (some (s.heap.size + 66)))))))) :: (s.heap.size + 1, .inl (ar 6, 8, .inr (.inr (.inr (.inr (fun _ => none)))))) :: R2) := h
  refine rw_new F h (fun x hx => Or.inr hx) hn i_Br t_Br t_Br_ok k_25 k_29 k_2 (ci := 1) rfl (fs := [.int 0, .int 0, .null, .int 0, .int 0, .int 0, .null, .null, .null]) df_Br (by decide) (by decide) d_Ne_init_38 (fun H hn h => ?_)
  refine lv_dup E1 E2 d_Ne_init_41 rfl ?_
  refine lv_iload_n E1 E2 d_Ne_init_42 rfl (lv_at hl 0 rfl) ?_
  have h : rw_H D (rw_A q s.heap.size) s.heap H _ (((q, .inr (0, [.ref s.heap.size, .ref (s.heap.size + 1), .int 0])) :: (s.heap.size, .inl (ar 3, 5, .inr (.inr (.inr (.inr (va_up (va_up (fun _ => none) 0 (some (s.heap.size + 2))) 1 (some (s.heap.size + 66)))))))) :: (s.heap.size + 1, .inl (ar 6, 8, .inr (.inr (.inr (.inr (fun _ => none)))))) :: R2) ++ [(s.heap.size + 130, .inr (1, [.int 0, .int 0, .null, .int 0, .int 0, .int 0, .null, .null, .null]))]) := h
  refine rw_ctorA (k := 1) (As := [.int 2]) (rest := [.ref (s.heap.size + 130), .int 2, .ref s.heap.size]) F hO hzA (fun x hx => Or.inr hx) hml hl.1 h hn (c_Br_init l D ar z (s.heap.size + 130) (s.heap.size + 131) 2) k_32 k_2 k_30 k_31 rfl ⟨rfl, rfl⟩ (by decide) ⟨by decide, by decide⟩ rfl rfl (Nat.le_of_ble_eq_true rfl) d_Ne_init_43 ⟨by decide, by decide⟩ (fun H locs hn h => ?_)
  have h : rw_H D (rw_A q s.heap.size) s.heap H _ (((q, .inr (0, [.ref s.heap.size, .ref (s.heap.size + 1), .int 0])) :: (s.heap.size, .inl (ar 3, 5, .inr (.inr (.inr (.inr (va_up (va_up (fun _ => none) 0 (some (s.heap.size + 2))) 1 (some (s.heap.size + 66)))))))) :: (s.heap.size + 1, .inl (ar 6, 8, .inr (.inr (.inr (.inr (fun _ => none)))))) :: R2) ++ [(s.heap.size + 130, .inr (1, brV 2 (s.heap.size + 130))), (s.heap.size + 131, .inl (ar 4, 4, .inr (.inr (.inr (.inr (fun _ => none)))))), (s.heap.size + 132, .inl (ar 0, 16, .inl (fun _ => 0))), (s.heap.size + 133, .inl (ar 0, 16, .inl (fun _ => 0)))]) := h
  refine rw_astq F h 1 3 _ 1 rfl rfl rw_at rfl (i := 2) (by decide) (by decide) d_Ne_init_46 (fun H locs h => ?_)
  have h : rw_H D (rw_A q s.heap.size) s.heap H _ (((q, .inr (0, [.ref s.heap.size, .ref (s.heap.size + 1), .int 0])) :: (s.heap.size, .inl (ar 3, 5, .inr (.inr (.inr (.inr (va_up (va_up (va_up (fun _ => none) 0 (some (s.heap.size + 2))) 1 (some (s.heap.size + 66))) 2 (some (s.heap.size + 130)))))))) :: (s.heap.size + 1, .inl (ar 6, 8, .inr (.inr (.inr (.inr (fun _ => none)))))) :: R2) ++ [(s.heap.size + 130, .inr (1, brV 2 (s.heap.size + 130))), (s.heap.size + 131, .inl (ar 4, 4, .inr (.inr (.inr (.inr (fun _ => none)))))), (s.heap.size + 132, .inl (ar 0, 16, .inl (fun _ => 0))), (s.heap.size + 133, .inl (ar 0, 16, .inl (fun _ => 0)))]) := h
  refine rw_le (fun hle => ?_)
  have h9 : H.size ≤ s.heap.size + 134 := hle
  have hlt : s.heap.size + 133 < H.size := (h.1 _ _ rw_at3).lt
  have hn : H.size = s.heap.size + 134 := Nat.le_antisymm h9 hlt
  clear hle h9 hlt
  refine lv_aload_n E1 E2 d_Ne_init_47 rfl (lv_at hl 1 rfl) ?_
  refine rw_get F h 0 rfl rfl i_Ne 0 (by decide) rfl k_219 rfl d_Ne_init_48 ?_
  refine lv_iload_n E1 E2 d_Ne_init_51 rfl (lv_at hl 0 rfl) ?_
  refine va_aldq F.1 F.2.1 F.2.2.2.2 h.1 1 3 rfl rfl (show vp_in (nI 2) 5 from vp_in_nI (by decide) (by decide)) d_Ne_init_52 ?_
  show W p l e _ s m args below meth c H _ _ _ _ (F0 m _ ls [.ref (s.heap.size + 130)])
  refine rw_callM (As := []) (rest := []) (B := s.heap.size + 130) F hO hzA (fun x hx => Or.inr hx) hml hl.1 h hn (ci := 1) rfl rfl (c_Br_addPorts l D ar z (s.heap.size + 130) 2 (Nat.le_trans hzs (Nat.le_add_right _ _))) (bn_goodV k_66 k_67 k_68 k_2 k_69) ⟨rfl, rfl⟩ (by decide) ⟨by decide, by decide⟩ rfl rfl (Nat.le_of_ble_eq_true rfl) d_Ne_init_53 ⟨by decide, by decide⟩ (fun H locs hn h => ?_)
  have h : rw_H D (rw_A q s.heap.size) s.heap H _ ((q, .inr (0, [.ref s.heap.size, .ref (s.heap.size + 1), .int 0])) :: (s.heap.size, .inl (ar 3, 5, .inr (.inr (.inr (.inr (va_up (va_up (va_up (fun _ => none) 0 (some (s.heap.size + 2))) 1 (some (s.heap.size + 66))) 2 (some (s.heap.size + 130)))))))) :: (s.heap.size + 1, .inl (ar 6, 8, .inr (.inr (.inr (.inr (fun _ => none)))))) :: (R2 ++ brW ar 2 (s.heap.size + 130))) := h
  obtain ⟨R3, hR3⟩ : ∃ X : va_W, X = (R2 ++ brW ar 2 (s.heap.size + 130)) := ⟨_, rfl⟩
  rw [← hR3] at h
  refine lv_iinc (v := 3) E1 E2 d_Ne_init_56 hl (k := 0) rfl rfl (by decide) rfl (fun ls hl => ?_)
  have hl : lv_has ls 2 [(1, .int 3), (0, .ref q)] := hl
  refine lv_goto E1 E2 d_Ne_init_59 rfl ?_
  refine lv_iload_n E1 E2 d_Ne_init_28 rfl (lv_at hl 0 rfl) ?_
  refine lv_iconst (v := 5) E1 E2 d_Ne_init_29 (by decide) ?_
  refine lv_icmp_ge E1 E2 d_Ne_init_30 rfl (fun hz => absurd hz (by decide)) (fun _ => ?_)
  refine lv_aload_n E1 E2 d_Ne_init_33 rfl (lv_at hl 1 rfl) ?_
  refine rw_get F h 0 rfl rfl i_Ne 0 (by decide) rfl k_219 rfl d_Ne_init_34 ?_
  refine lv_iload_n E1 E2 d_Ne_init_37 rfl (lv_at hl 0 rfl) ?_
  have h : rw_H D (rw_A q s.heap.size) s.heap H _ ((q, .inr (0, [.ref s.heap.size, .ref (s.heap.size + 1), .int 0])) :: (s.heap.size, .inl (ar 3, 5, .inr (.inr (.inr (.inr (va_up (va_up (va_up (fun _ => none) 0 (some (s.heap.size + 2))) 1 (some (s.heap.size + 66))) 2 (some (s.heap.size + 130)))))))) :: (s.heap.size + 1, .inl (ar 6, 8, .inr (.inr (.inr (.inr (fun _ => none)))))) :: R3) := h
  refine rw_new F h (fun x hx => Or.inr hx) hn i_Br t_Br t_Br_ok k_25 k_29 k_2 (ci := 1) rfl (fs := [.int 0, .int 0, .null, .int 0, .int 0, .int 0, .null, .null, .null]) df_Br (by decide) (by decide) d_Ne_init_38 (fun H hn h => ?_)
  refine lv_dup E1 E2 d_Ne_init_41 rfl ?_
  refine lv_iload_n E1 E2 d_Ne_init_42 rfl (lv_at hl 0 rfl) ?_
  have h : rw_H D (rw_A q s.heap.size) s.heap H _ (((q, .inr (0, [.ref s.heap.size, .ref (s.heap.size + 1), .int 0])) :: (s.heap.size, .inl (ar 3, 5, .inr (.inr (.inr (.inr (va_up (va_up (va_up (fun _ => none) 0 (some (s.heap.size + 2))) 1 (some (s.heap.size + 66))) 2 (some (s.heap.size + 130)))))))) :: (s.heap.size + 1, .inl (ar 6, 8, .inr (.inr (.inr (.inr (fun _ => none)))))) :: R3) ++ [(s.heap.size + 194, .inr (1, [.int 0, .int 0, .null, .int 0, .int 0, .int 0, .null, .null, .null]))]) := h
  refine rw_ctorA (k := 1) (As := [.int 3]) (rest := [.ref (s.heap.size + 194), .int 3, .ref s.heap.size]) F hO hzA (fun x hx => Or.inr hx) hml hl.1 h hn (c_Br_init l D ar z (s.heap.size + 194) (s.heap.size + 195) 3) k_32 k_2 k_30 k_31 rfl ⟨rfl, rfl⟩ (by decide) ⟨by decide, by decide⟩ rfl rfl (Nat.le_of_ble_eq_true rfl) d_Ne_init_43 ⟨by decide, by decide⟩ (fun H locs hn h => ?_)
  have h : rw_H D (rw_A q s.heap.size) s.heap H _ (((q, .inr (0, [.ref s.heap.size, .ref (s.heap.size + 1), .int 0])) :: (s.heap.size, .inl (ar 3, 5, .inr (.inr (.inr (.inr (va_up (va_up (va_up (fun _ => none) 0 (some (s.heap.size + 2))) 1 (some (s.heap.size + 66))) 2 (some (s.heap.size + 130)))))))) :: (s.heap.size + 1, .inl (ar 6, 8, .inr (.inr (.inr (.inr (fun _ => none)))))) :: R3) ++ [(s.heap.size + 194, .inr (1, brV 3 (s.heap.size + 194))), (s.heap.size + 195, .inl (ar 4, 4, .inr (.inr (.inr (.inr (fun _ => none)))))), (s.heap.size + 196, .inl (ar 0, 16, .inl (fun _ => 0))), (s.heap.size + 197, .inl (ar 0, 16, .inl (fun _ => 0)))]) := h
  refine rw_astq F h 1 3 _ 1 rfl rfl rw_at rfl (i := 3) (by decide) (by decide) d_Ne_init_46 (fun H locs h => ?_)
  have h : rw_H D (rw_A q s.heap.size) s.heap H _ (((q, .inr (0, [.ref s.heap.size, .ref (s.heap.size + 1), .int 0])) :: (s.heap.size, .inl (ar 3, 5, .inr (.inr (.inr (.inr (va_up (va_up (va_up (va_up (fun _ => none) 0 (some (s.heap.size + 2))) 1 (some (s.heap.size + 66))) 2 (some (s.heap.size + 130))) 3 (some (s.heap.size + 194)))))))) :: (s.heap.size + 1, .inl (ar 6, 8, .inr (.inr (.inr (.inr (fun _ => none)))))) :: R3) ++ [(s.heap.size + 194, .inr (1, brV 3 (s.heap.size + 194))), (s.heap.size + 195, .inl (ar 4, 4, .inr (.inr (.inr (.inr (fun _ => none)))))), (s.heap.size + 196, .inl (ar 0, 16, .inl (fun _ => 0))), (s.heap.size + 197, .inl (ar 0, 16, .inl (fun _ => 0)))]) := h
  refine rw_le (fun hle => ?_)
  have h9 : H.size ≤ s.heap.size + 198 := hle
  have hlt : s.heap.size + 197 < H.size := (h.1 _ _ rw_at3).lt
  have hn : H.size = s.heap.size + 198 := Nat.le_antisymm h9 hlt
  clear hle h9 hlt
  refine lv_aload_n E1 E2 d_Ne_init_47 rfl (lv_at hl 1 rfl) ?_
  refine rw_get F h 0 rfl rfl i_Ne 0 (by decide) rfl k_219 rfl d_Ne_init_48 ?_
  refine lv_iload_n E1 E2 d_Ne_init_51 rfl (lv_at hl 0 rfl) ?_
  refine va_aldq F.1 F.2.1 F.2.2.2.2 h.1 1 3 rfl rfl (show vp_in (nI 3) 5 from vp_in_nI (by decide) (by decide)) d_Ne_init_52 ?_
  show W p l e _ s m args below meth c H _ _ _ _ (F0 m _ ls [.ref (s.heap.size + 194)])
  refine rw_callM (As := []) (rest := []) (B := s.heap.size + 194) F hO hzA (fun x hx => Or.inr hx) hml hl.1 h hn (ci := 1) rfl rfl (c_Br_addPorts l D ar z (s.heap.size + 194) 3 (Nat.le_trans hzs (Nat.le_add_right _ _))) (bn_goodV k_66 k_67 k_68 k_2 k_69) ⟨rfl, rfl⟩ (by decide) ⟨by decide, by decide⟩ rfl rfl (Nat.le_of_ble_eq_true rfl) d_Ne_init_53 ⟨by decide, by decide⟩ (fun H locs hn h => ?_)
  have h : rw_H D (rw_A q s.heap.size) s.heap H _ ((q, .inr (0, [.ref s.heap.size, .ref (s.heap.size + 1), .int 0])) :: (s.heap.size, .inl (ar 3, 5, .inr (.inr (.inr (.inr (va_up (va_up (va_up (va_up (fun _ => none) 0 (some (s.heap.size + 2))) 1 (some (s.heap.size + 66))) 2 (some (s.heap.size + 130))) 3 (some (s.heap.size + 194)))))))) :: (s.heap.size + 1, .inl (ar 6, 8, .inr (.inr (.inr (.inr (fun _ => none)))))) :: (R3 ++ brW ar 3 (s.heap.size + 194))) := h
  obtain ⟨R4, hR4⟩ : ∃ X : va_W, X = (R3 ++ brW ar 3 (s.heap.size + 194)) := ⟨_, rfl⟩
  rw [← hR4] at h
  refine lv_iinc (v := 4) E1 E2 d_Ne_init_56 hl (k := 0) rfl rfl (by decide) rfl (fun ls hl => ?_)
  have hl : lv_has ls 2 [(1, .int 4), (0, .ref q)] := hl
  refine lv_goto E1 E2 d_Ne_init_59 rfl ?_
  refine lv_iload_n E1 E2 d_Ne_init_28 rfl (lv_at hl 0 rfl) ?_
  refine lv_iconst (v := 5) E1 E2 d_Ne_init_29 (by decide) ?_
  refine lv_icmp_ge E1 E2 d_Ne_init_30 rfl (fun hz => absurd hz (by decide)) (fun _ => ?_)
  refine lv_aload_n E1 E2 d_Ne_init_33 rfl (lv_at hl 1 rfl) ?_
  refine rw_get F h 0 rfl rfl i_Ne 0 (by decide) rfl k_219 rfl d_Ne_init_34 ?_
  refine lv_iload_n E1 E2 d_Ne_init_37 rfl (lv_at hl 0 rfl) ?_
  have h : rw_H D (rw_A q s.heap.size) s.heap H _ ((q, .inr (0, [.ref s.heap.size, .ref (s.heap.size + 1), .int 0])) :: (s.heap.size, .inl (ar 3, 5, .inr (.inr (.inr (.inr (va_up (va_up (va_up (va_up (fun _ => none) 0 (some (s.heap.size + 2))) 1 (some (s.heap.size + 66))) 2 (some (s.heap.size + 130))) 3 (some (s.heap.size + 194)))))))) :: (s.heap.size + 1, .inl (ar 6, 8, .inr (.inr (.inr (.inr (fun _ => none)))))) :: R4) := h
  refine rw_new F h (fun x hx => Or.inr hx) hn i_Br t_Br t_Br_ok k_25 k_29 k_2 (ci := 1) rfl (fs := [.int 0, .int 0, .null, .int 0, .int 0, .int 0, .null, .null, .null]) df_Br (by decide) (by decide) d_Ne_init_38 (fun H hn h => ?_)
  refine lv_dup E1 E2 d_Ne_init_41 rfl ?_
  refine lv_iload_n E1 E2 d_Ne_init_42 rfl (lv_at hl 0 rfl) ?_
  have h : rw_H D (rw_A q s.heap.size) s.heap H _ (((q, .inr (0, [.ref s.heap.size, .ref (s.heap.size + 1), .int 0])) :: (s.heap.size, .inl (ar 3, 5, .inr (.inr (.inr (.inr (va_up (va_up (va_up (va_up (fun _ => none) 0 (some (s.heap.size + 2))) 1 (some (s.heap.size + 66))) 2 (some (s.heap.size + 130))) 3 (some (s.heap.size + 194)))))))) :: (s.heap.size + 1, .inl (ar 6, 8, .inr (.inr (.inr (.inr (fun _ => none)))))) :: R4) ++ [(s.heap.size + 258, .inr (1, [.int 0, .int 0, .null, .int 0, .int 0, .int 0, .null, .null, .null]))]) := h
  refine rw_ctorA (k := 1) (As := [.int 4]) (rest := [.ref (s.heap.size + 258), .int 4, .ref s.heap.size]) F hO hzA (fun x hx => Or.inr hx) hml hl.1 h hn (c_Br_init l D ar z (s.heap.size + 258) (s.heap.size + 259) 4) k_32 k_2 k_30 k_31 rfl ⟨rfl, rfl⟩ (by decide) ⟨by decide, by decide⟩ rfl rfl (Nat.le_of_ble_eq_true rfl) d_Ne_init_43 ⟨by decide, by decide⟩ (fun H locs hn h => ?_)
  have h : rw_H D (rw_A q s.heap.size) s.heap H _ (((q, .inr (0, [.ref s.heap.size, .ref (s.heap.size + 1), .int 0])) :: (s.heap.size, .inl (ar 3, 5, .inr (.inr (.inr (.inr (va_up (va_up (va_up (va_up (fun _ => none) 0 (some (s.heap.size + 2))) 1 (some (s.heap.size + 66))) 2 (some (s.heap.size + 130))) 3 (some (s.heap.size + 194)))))))) :: (s.heap.size + 1, .inl (ar 6, 8, .inr (.inr (.inr (.inr (fun _ => none)))))) :: R4) ++ [(s.heap.size + 258, .inr (1, brV 4 (s.heap.size + 258))), (s.heap.size + 259, .inl (ar 4, 4, .inr (.inr (.inr (.inr (fun _ => none)))))), (s.heap.size + 260, .inl (ar 0, 16, .inl (fun _ => 0))), (s.heap.size + 261, .inl (ar 0, 16, .inl (fun _ => 0)))]) := h
  refine rw_astq F h 1 3 _ 1 rfl rfl rw_at rfl (i := 4) (by decide) (by decide) d_Ne_init_46 (fun H locs h => ?_)
  have h : rw_H D (rw_A q s.heap.size) s.heap H _ (((q, .inr (0, [.ref s.heap.size, .ref (s.heap.size + 1), .int 0])) :: (s.heap.size, .inl (ar 3, 5, .inr (.inr (.inr (.inr (va_up (va_up (va_up (va_up (va_up (fun _ => none) 0 (some (s.heap.size + 2))) 1 (some (s.heap.size + 66))) 2 (some (s.heap.size + 130))) 3 (some (s.heap.size + 194))) 4 (some (s.heap.size + 258)))))))) :: (s.heap.size + 1, .inl (ar 6, 8, .inr (.inr (.inr (.inr (fun _ => none)))))) :: R4) ++ [(s.heap.size + 258, .inr (1, brV 4 (s.heap.size + 258))), (s.heap.size + 259, .inl (ar 4, 4, .inr (.inr (.inr (.inr (fun _ => none)))))), (s.heap.size + 260, .inl (ar 0, 16, .inl (fun _ => 0))), (s.heap.size + 261, .inl (ar 0, 16, .inl (fun _ => 0)))]) := h
  refine rw_le (fun hle => ?_)
  have h9 : H.size ≤ s.heap.size + 262 := hle
  have hlt : s.heap.size + 261 < H.size := (h.1 _ _ rw_at3).lt
  have hn : H.size = s.heap.size + 262 := Nat.le_antisymm h9 hlt
  clear hle h9 hlt
  refine lv_aload_n E1 E2 d_Ne_init_47 rfl (lv_at hl 1 rfl) ?_
  refine rw_get F h 0 rfl rfl i_Ne 0 (by decide) rfl k_219 rfl d_Ne_init_48 ?_
  refine lv_iload_n E1 E2 d_Ne_init_51 rfl (lv_at hl 0 rfl) ?_
  refine va_aldq F.1 F.2.1 F.2.2.2.2 h.1 1 3 rfl rfl (show vp_in (nI 4) 5 from vp_in_nI (by decide) (by decide)) d_Ne_init_52 ?_
  show W p l e _ s m args below meth c H _ _ _ _ (F0 m _ ls [.ref (s.heap.size + 258)])
  refine rw_callM (As := []) (rest := []) (B := s.heap.size + 258) F hO hzA (fun x hx => Or.inr hx) hml hl.1 h hn (ci := 1) rfl rfl (c_Br_addPorts l D ar z (s.heap.size + 258) 4 (Nat.le_trans hzs (Nat.le_add_right _ _))) (bn_goodV k_66 k_67 k_68 k_2 k_69) ⟨rfl, rfl⟩ (by decide) ⟨by decide, by decide⟩ rfl rfl (Nat.le_of_ble_eq_true rfl) d_Ne_init_53 ⟨by decide, by decide⟩ (fun H locs hn h => ?_)
  have h : rw_H D (rw_A q s.heap.size) s.heap H _ ((q, .inr (0, [.ref s.heap.size, .ref (s.heap.size + 1), .int 0])) :: (s.heap.size, .inl (ar 3, 5, .inr (.inr (.inr (.inr (va_up (va_up (va_up (va_up (va_up (fun _ => none) 0 (some (s.heap.size + 2))) 1 (some (s.heap.size + 66))) 2 (some (s.heap.size + 130))) 3 (some (s.heap.size + 194))) 4 (some (s.heap.size + 258)))))))) :: (s.heap.size + 1, .inl (ar 6, 8, .inr (.inr (.inr (.inr (fun _ => none)))))) :: (R4 ++ brW ar 4 (s.heap.size + 258))) := h
  obtain ⟨R5, hR5⟩ : ∃ X : va_W, X = (R4 ++ brW ar 4 (s.heap.size + 258)) := ⟨_, rfl⟩
  rw [← hR5] at h
  refine lv_iinc (v := 5) E1 E2 d_Ne_init_56 hl (k := 0) rfl rfl (by decide) rfl (fun ls hl => ?_)
  have hl : lv_has ls 2 [(1, .int 5), (0, .ref q)] := hl
  refine lv_goto E1 E2 d_Ne_init_59 rfl ?_
  refine lv_iload_n E1 E2 d_Ne_init_28 rfl (lv_at hl 0 rfl) ?_
  refine lv_iconst (v := 5) E1 E2 d_Ne_init_29 (by decide) ?_
  refine lv_icmp_ge E1 E2 d_Ne_init_30 rfl (fun _ => ?_) (fun hz => absurd (by decide) hz)
  refine lv_iconst (v := 0) E1 E2 d_Ne_init_62 (by decide) ?_
  refine lv_istore_n E1 E2 d_Ne_init_63 rfl hl (by decide) rfl (fun ls hl => ?_)
  have hl : lv_has ls 2 [(1, .int 0), (0, .ref q)] := hl
  refine lv_iload_n E1 E2 d_Ne_init_64 rfl (lv_at hl 0 rfl) ?_
  refine lv_bipush (v := 8) E1 E2 d_Ne_init_65 (by decide) ?_
  refine lv_icmp_ge E1 E2 d_Ne_init_67 rfl (fun hz => absurd hz (by decide)) (fun _ => ?_)
  refine lv_aload_n E1 E2 d_Ne_init_70 rfl (lv_at hl 1 rfl) ?_
  refine rw_get F h 0 rfl rfl i_Ne 1 (by decide) rfl k_220 rfl d_Ne_init_71 ?_
  refine lv_iload_n E1 E2 d_Ne_init_74 rfl (lv_at hl 0 rfl) ?_
  have h : rw_H D (rw_A q s.heap.size) s.heap H _ ((q, .inr (0, [.ref s.heap.size, .ref (s.heap.size + 1), .int 0])) :: (s.heap.size, .inl (ar 3, 5, .inr (.inr (.inr (.inr (va_up (va_up (va_up (va_up (va_up (fun _ => none) 0 (some (s.heap.size + 2))) 1 (some (s.heap.size + 66))) 2 (some (s.heap.size + 130))) 3 (some (s.heap.size + 194))) 4 (some (s.heap.size + 258)))))))) :: (s.heap.size + 1, .inl (ar 6, 8, .inr (.inr (.inr (.inr (fun _ => none)))))) :: R5) := h
  refine rw_new F h (fun x hx => Or.inr hx) hn i_St t_St t_St_ok k_27 k_196 k_6 (ci := 5) rfl (fs := [.null, .int 0, .null, .int 0]) df_St (by decide) (by decide) d_Ne_init_75 (fun H hn h => ?_)
  refine lv_dup E1 E2 d_Ne_init_78 rfl ?_
  have h : rw_H D (rw_A q s.heap.size) s.heap H _ (((q, .inr (0, [.ref s.heap.size, .ref (s.heap.size + 1), .int 0])) :: (s.heap.size, .inl (ar 3, 5, .inr (.inr (.inr (.inr (va_up (va_up (va_up (va_up (va_up (fun _ => none) 0 (some (s.heap.size + 2))) 1 (some (s.heap.size + 66))) 2 (some (s.heap.size + 130))) 3 (some (s.heap.size + 194))) 4 (some (s.heap.size + 258)))))))) :: (s.heap.size + 1, .inl (ar 6, 8, .inr (.inr (.inr (.inr (fun _ => none)))))) :: R5) ++ [(s.heap.size + 322, .inr (5, [.null, .int 0, .null, .int 0]))]) := h
  refine rw_ctorNA (As := []) (rest := [.ref (s.heap.size + 322), .int 0, .ref (s.heap.size + 1)]) F hO hzA (fun x hx => Or.inr hx) hml hl.1 h hn (c_St_init l D ar z (s.heap.size + 322) (s.heap.size + 323)) k_199 k_6 (bx_nest hO.to nl_St) k_198 rfl ⟨rfl, rfl⟩ (by decide) ⟨by decide, by decide⟩ rfl rfl (Nat.le_of_ble_eq_true rfl) d_Ne_init_79 ⟨by decide, by decide⟩ (fun H locs hn h => ?_)
  have h : rw_H D (rw_A q s.heap.size) s.heap H _ (((q, .inr (0, [.ref s.heap.size, .ref (s.heap.size + 1), .int 0])) :: (s.heap.size, .inl (ar 3, 5, .inr (.inr (.inr (.inr (va_up (va_up (va_up (va_up (va_up (fun _ => none) 0 (some (s.heap.size + 2))) 1 (some (s.heap.size + 66))) 2 (some (s.heap.size + 130))) 3 (some (s.heap.size + 194))) 4 (some (s.heap.size + 258)))))))) :: (s.heap.size + 1, .inl (ar 6, 8, .inr (.inr (.inr (.inr (fun _ => none)))))) :: R5) ++ [(s.heap.size + 322, .inr (5, [.null, .int 1, .ref (s.heap.size + 323), .int 0])), (s.heap.size + 323, .inl (ar 1, 40, .inr (.inl (fun _ => 0))))]) := h
  refine rw_astq F h 2 6 _ 5 rfl rfl rw_at rfl (i := 0) (by decide) (by decide) d_Ne_init_82 (fun H locs h => ?_)
  have h : rw_H D (rw_A q s.heap.size) s.heap H _ (((q, .inr (0, [.ref s.heap.size, .ref (s.heap.size + 1), .int 0])) :: (s.heap.size, .inl (ar 3, 5, .inr (.inr (.inr (.inr (va_up (va_up (va_up (va_up (va_up (fun _ => none) 0 (some (s.heap.size + 2))) 1 (some (s.heap.size + 66))) 2 (some (s.heap.size + 130))) 3 (some (s.heap.size + 194))) 4 (some (s.heap.size + 258)))))))) :: (s.heap.size + 1, .inl (ar 6, 8, .inr (.inr (.inr (.inr (va_up (fun _ => none) 0 (some (s.heap.size + 322)))))))) :: R5) ++ [(s.heap.size + 322, .inr (5, [.null, .int 1, .ref (s.heap.size + 323), .int 0])), (s.heap.size + 323, .inl (ar 1, 40, .inr (.inl (fun _ => 0))))]) := h
  refine rw_le (fun hle => ?_)
  have h9 : H.size ≤ s.heap.size + 324 := hle
  have hlt : s.heap.size + 323 < H.size := (h.1 _ _ rw_at1).lt
  have hn : H.size = s.heap.size + 324 := Nat.le_antisymm h9 hlt
  clear hle h9 hlt
  have h : rw_H D (rw_A q s.heap.size) s.heap H _ ((q, .inr (0, [.ref s.heap.size, .ref (s.heap.size + 1), .int 0])) :: (s.heap.size, .inl (ar 3, 5, .inr (.inr (.inr (.inr (va_up (va_up (va_up (va_up (va_up (fun _ => none) 0 (some (s.heap.size + 2))) 1 (some (s.heap.size + 66))) 2 (some (s.heap.size + 130))) 3 (some (s.heap.size + 194))) 4 (some (s.heap.size + 258)))))))) :: (s.heap.size + 1, .inl (ar 6, 8, .inr (.inr (.inr (.inr (va_up (fun _ => none) 0 (some (s.heap.size + 322)))))))) :: (R5 ++ stW ar (s.heap.size + 322))) := h
  obtain ⟨R6, hR6⟩ : ∃ X : va_W, X = (R5 ++ stW ar (s.heap.size + 322)) := ⟨_, rfl⟩
  rw [← hR6] at h
  refine lv_iinc (v := 1) E1 E2 d_Ne_init_83 hl (k := 0) rfl rfl (by decide) rfl (fun ls hl => ?_)
  have hl : lv_has ls 2 [(1, .int 1), (0, .ref q)] := hl
  refine lv_goto E1 E2 d_Ne_init_86 rfl ?_
  refine lv_iload_n E1 E2 d_Ne_init_64 rfl (lv_at hl 0 rfl) ?_
  refine lv_bipush (v := 8) E1 E2 d_Ne_init_65 (by decide) ?_
  refine lv_icmp_ge E1 E2 d_Ne_init_67 rfl (fun hz => absurd hz (by decide)) (fun _ => ?_)
  refine lv_aload_n E1 E2 d_Ne_init_70 rfl (lv_at hl 1 rfl) ?_
  refine rw_get F h 0 rfl rfl i_Ne 1 (by decide) rfl k_220 rfl d_Ne_init_71 ?_
  refine lv_iload_n E1 E2 d_Ne_init_74 rfl (lv_at hl 0 rfl) ?_
  have h : rw_H D (rw_A q s.heap.size) s.heap H _ ((q, .inr (0, [.ref s.heap.size, .ref (s.heap.size + 1), .int 0])) :: (s.heap.size, .inl (ar 3, 5, .inr (.inr (.inr (.inr (va_up (va_up (va_up (va_up (va_up (fun _ => none) 0 (some (s.heap.size + 2))) 1 (some (s.heap.size + 66))) 2 (some (s.heap.size + 130))) 3 (some (s.heap.size + 194))) 4 (some (s.heap.size + 258)))))))) :: (s.heap.size + 1, .inl (ar 6, 8, .inr (.inr (.inr (.inr (va_up (fun _ => none) 0 (some (s.heap.size + 322)))))))) :: R6) := h
  refine rw_new F h (fun x hx => Or.inr hx) hn i_St t_St t_St_ok k_27 k_196 k_6 (ci := 5) rfl (fs := [.null, .int 0, .null, .int 0]) df_St (by decide) (by decide) d_Ne_init_75 (fun H hn h => ?_)
  refine lv_dup E1 E2 d_Ne_init_78 rfl ?_
  have h : rw_H D (rw_A q s.heap.size) s.heap H _ (((q, .inr (0, [.ref s.heap.size, .ref (s.heap.size + 1), .int 0])) :: (s.heap.size, .inl (ar 3, 5, .inr (.inr (.inr (.inr (va_up (va_up (va_up (va_up (va_up (fun _ => none) 0 (some (s.heap.size + 2))) 1 (some (s.heap.size + 66))) 2 (some (s.heap.size + 130))) 3 (some (s.heap.size + 194))) 4 (some (s.heap.size + 258)))))))) :: (s.heap.size + 1, .inl (ar 6, 8, .inr (.inr (.inr (.inr (va_up (fun _ => none) 0 (some (s.heap.size + 322)))))))) :: R6) ++ [(s.heap.size + 324, .inr (5, [.null, .int 0, .null, .int 0]))]) := h
  refine rw_ctorNA (As := []) (rest := [.ref (s.heap.size + 324), .int 1, .ref (s.heap.size + 1)]) F hO hzA (fun x hx => Or.inr hx) hml hl.1 h hn (c_St_init l D ar z (s.heap.size + 324) (s.heap.size + 325)) k_199 k_6 (bx_nest hO.to nl_St) k_198 rfl ⟨rfl, rfl⟩ (by decide) ⟨by decide, by decide⟩ rfl rfl (Nat.le_of_ble_eq_true rfl) d_Ne_init_79 ⟨by decide, by decide⟩ (fun H locs hn h => ?_)
  have h : rw_H D (rw_A q s.heap.size) s.heap H _ (((q, .inr (0, [.ref s.heap.size, .ref (s.heap.size + 1), .int 0])) :: (s.heap.size, .inl (ar 3, 5, .inr (.inr (.inr (.inr (va_up (va_up (va_up (va_up (va_up (fun _ => none) 0 (some (s.heap.size + 2))) 1 (some (s.heap.size + 66))) 2 (some (s.heap.size + 130))) 3 (some (s.heap.size + 194))) 4 (some (s.heap.size + 258)))))))) :: (s.heap.size + 1, .inl (ar 6, 8, .inr (.inr (.inr (.inr (va_up (fun _ => none) 0 (some (s.heap.size + 322)))))))) :: R6) ++ [(s.heap.size + 324, .inr (5, [.null, .int 1, .ref (s.heap.size + 325), .int 0])), (s.heap.size + 325, .inl (ar 1, 40, .inr (.inl (fun _ => 0))))]) := h
  refine rw_astq F h 2 6 _ 5 rfl rfl rw_at rfl (i := 1) (by decide) (by decide) d_Ne_init_82 (fun H locs h => ?_)
  have h : rw_H D (rw_A q s.heap.size) s.heap H _ (((q, .inr (0, [.ref s.heap.size, .ref (s.heap.size + 1), .int 0])) :: (s.heap.size, .inl (ar 3, 5, .inr (.inr (.inr (.inr (va_up (va_up (va_up (va_up (va_up (fun _ => none) 0 (some (s.heap.size + 2))) 1 (some (s.heap.size + 66))) 2 (some (s.heap.size + 130))) 3 (some (s.heap.size + 194))) 4 (some (s.heap.size + 258)))))))) :: (s.heap.size + 1, .inl (ar 6, 8, .inr (.inr (.inr (.inr (va_up (va_up (fun _ => none) 0 (some (s.heap.size + 322))) 1 (some (s.heap.size + 324)))))))) :: R6) ++ [(s.heap.size + 324, .inr (5, [.null, .int 1, .ref (s.heap.size + 325), .int 0])), (s.heap.size + 325, .inl (ar 1, 40, .inr (.inl (fun _ => 0))))]) := h
  refine rw_le (fun hle => ?_)
  have h9 : H.size ≤ s.heap.size + 326 := hle
  have hlt : s.heap.size + 325 < H.size := (h.1 _ _ rw_at1).lt
  have hn : H.size = s.heap.size + 326 := Nat.le_antisymm h9 hlt
  clear hle h9 hlt
  have h : rw_H D (rw_A q s.heap.size) s.heap H _ ((q, .inr (0, [.ref s.heap.size, .ref (s.heap.size + 1), .int 0])) :: (s.heap.size, .inl (ar 3, 5, .inr (.inr (.inr (.inr (va_up (va_up (va_up (va_up (va_up (fun _ => none) 0 (some (s.heap.size + 2))) 1 (some (s.heap.size + 66))) 2 (some (s.heap.size + 130))) 3 (some (s.heap.size + 194))) 4 (some (s.heap.size + 258)))))))) :: (s.heap.size + 1, .inl (ar 6, 8, .inr (.inr (.inr (.inr (va_up (va_up (fun _ => none) 0 (some (s.heap.size + 322))) 1 (some (s.heap.size + 324)))))))) :: (R6 ++ stW ar (s.heap.size + 324))) := h
  obtain ⟨R7, hR7⟩ : ∃ X : va_W, X = (R6 ++ stW ar (s.heap.size + 324)) := ⟨_, rfl⟩
  rw [← hR7] at h
  refine lv_iinc (v := 2) E1 E2 d_Ne_init_83 hl (k := 0) rfl rfl (by decide) rfl (fun ls hl => ?_)
  have hl : lv_has ls 2 [(1, .int 2), (0, .ref q)] := hl
  refine lv_goto E1 E2 d_Ne_init_86 rfl ?_
  refine lv_iload_n E1 E2 d_Ne_init_64 rfl (lv_at hl 0 rfl) ?_
  refine lv_bipush (v := 8) E1 E2 d_Ne_init_65 (by decide) ?_
  refine lv_icmp_ge E1 E2 d_Ne_init_67 rfl (fun hz => absurd hz (by decide)) (fun _ => ?_)
  refine lv_aload_n E1 E2 d_Ne_init_70 rfl (lv_at hl 1 rfl) ?_
  refine rw_get F h 0 rfl rfl i_Ne 1 (by decide) rfl k_220 rfl d_Ne_init_71 ?_
  refine lv_iload_n E1 E2 d_Ne_init_74 rfl (lv_at hl 0 rfl) ?_
  have h : rw_H D (rw_A q s.heap.size) s.heap H _ ((q, .inr (0, [.ref s.heap.size, .ref (s.heap.size + 1), .int 0])) :: (s.heap.size, .inl (ar 3, 5, .inr (.inr (.inr (.inr (va_up (va_up (va_up (va_up (va_up (fun _ => none) 0 (some (s.heap.size + 2))) 1 (some (s.heap.size + 66))) 2 (some (s.heap.size + 130))) 3 (some (s.heap.size + 194))) 4 (some (s.heap.size + 258)))))))) :: (s.heap.size + 1, .inl (ar 6, 8, .inr (.inr (.inr (.inr (va_up (va_up (fun _ => none) 0 (some (s.heap.size + 322))) 1 (some (s.heap.size + 324)))))))) :: R7) := h
  refine rw_new F h (fun x hx => Or.inr hx) hn i_St t_St t_St_ok k_27 k_196 k_6 (ci := 5) rfl (fs := [.null, .int 0, .null, .int 0]) df_St (by decide) (by decide) d_Ne_init_75 (fun H hn h => ?_)
  refine lv_dup E1 E2 d_Ne_init_78 rfl ?_
  have h : rw_H D (rw_A q s.heap.size) s.heap H _ (((q, .inr (0, [.ref s.heap.size, .ref (s.heap.size + 1), .int 0])) :: (s.heap.size, .inl (ar 3, 5, .inr (.inr (.inr (.inr (va_up (va_up (va_up (va_up (va_up (fun _ => none) 0 (some (s.heap.size + 2))) 1 (some (s.heap.size + 66))) 2 (some (s.heap.size + 130))) 3 (some (s.heap.size + 194))) 4 (some (s.heap.size + 258)))))))) :: (s.heap.size + 1, .inl (ar 6, 8, .inr (.inr (.inr (.inr (va_up (va_up (fun _ => none) 0 (some (s.heap.size + 322))) 1 (some (s.heap.size + 324)))))))) :: R7) ++ [(s.heap.size + 326, .inr (5, [.null, .int 0, .null, .int 0]))]) := h
  refine rw_ctorNA (As := []) (rest := [.ref (s.heap.size + 326), .int 2, .ref (s.heap.size + 1)]) F hO hzA (fun x hx => Or.inr hx) hml hl.1 h hn (c_St_init l D ar z (s.heap.size + 326) (s.heap.size + 327)) k_199 k_6 (bx_nest hO.to nl_St) k_198 rfl ⟨rfl, rfl⟩ (by decide) ⟨by decide, by decide⟩ rfl rfl (Nat.le_of_ble_eq_true rfl) d_Ne_init_79 ⟨by decide, by decide⟩ (fun H locs hn h => ?_)
  have h : rw_H D (rw_A q s.heap.size) s.heap H _ (((q, .inr (0, [.ref s.heap.size, .ref (s.heap.size + 1), .int 0])) :: (s.heap.size, .inl (ar 3, 5, .inr (.inr (.inr (.inr (va_up (va_up (va_up (va_up (va_up (fun _ => none) 0 (some (s.heap.size + 2))) 1 (some (s.heap.size + 66))) 2 (some (s.heap.size + 130))) 3 (some (s.heap.size + 194))) 4 (some (s.heap.size + 258)))))))) :: (s.heap.size + 1, .inl (ar 6, 8, .inr (.inr (.inr (.inr (va_up (va_up (fun _ => none) 0 (some (s.heap.size + 322))) 1 (some (s.heap.size + 324)))))))) :: R7) ++ [(s.heap.size + 326, .inr (5, [.null, .int 1, .ref (s.heap.size + 327), .int 0])), (s.heap.size + 327, .inl (ar 1, 40, .inr (.inl (fun _ => 0))))]) := h
  refine rw_astq F h 2 6 _ 5 rfl rfl rw_at rfl (i := 2) (by decide) (by decide) d_Ne_init_82 (fun H locs h => ?_)
  have h : rw_H D (rw_A q s.heap.size) s.heap H _ (((q, .inr (0, [.ref s.heap.size, .ref (s.heap.size + 1), .int 0])) :: (s.heap.size, .inl (ar 3, 5, .inr (.inr (.inr (.inr (va_up (va_up (va_up (va_up (va_up (fun _ => none) 0 (some (s.heap.size + 2))) 1 (some (s.heap.size + 66))) 2 (some (s.heap.size + 130))) 3 (some (s.heap.size + 194))) 4 (some (s.heap.size + 258)))))))) :: (s.heap.size + 1, .inl (ar 6, 8, .inr (.inr (.inr (.inr (va_up (va_up (va_up (fun _ => none) 0 (some (s.heap.size + 322))) 1 (some (s.heap.size + 324))) 2 (some (s.heap.size + 326)))))))) :: R7) ++ [(s.heap.size + 326, .inr (5, [.null, .int 1, .ref (s.heap.size + 327), .int 0])), (s.heap.size + 327, .inl (ar 1, 40, .inr (.inl (fun _ => 0))))]) := h
  refine rw_le (fun hle => ?_)
  have h9 : H.size ≤ s.heap.size + 328 := hle
  have hlt : s.heap.size + 327 < H.size := (h.1 _ _ rw_at1).lt
  have hn : H.size = s.heap.size + 328 := Nat.le_antisymm h9 hlt
  clear hle h9 hlt
  have h : rw_H D (rw_A q s.heap.size) s.heap H _ ((q, .inr (0, [.ref s.heap.size, .ref (s.heap.size + 1), .int 0])) :: (s.heap.size, .inl (ar 3, 5, .inr (.inr (.inr (.inr (va_up (va_up (va_up (va_up (va_up (fun _ => none) 0 (some (s.heap.size + 2))) 1 (some (s.heap.size + 66))) 2 (some (s.heap.size + 130))) 3 (some (s.heap.size + 194))) 4 (some (s.heap.size + 258)))))))) :: (s.heap.size + 1, .inl (ar 6, 8, .inr (.inr (.inr (.inr (va_up (va_up (va_up (fun _ => none) 0 (some (s.heap.size + 322))) 1 (some (s.heap.size + 324))) 2 (some (s.heap.size + 326)))))))) :: (R7 ++ stW ar (s.heap.size + 326))) := h
  obtain ⟨R8, hR8⟩ : ∃ X : va_W, X = (R7 ++ stW ar (s.heap.size + 326)) := ⟨_, rfl⟩
  rw [← hR8] at h
  refine lv_iinc (v := 3) E1 E2 d_Ne_init_83 hl (k := 0) rfl rfl (by decide) rfl (fun ls hl => ?_)
  have hl : lv_has ls 2 [(1, .int 3), (0, .ref q)] := hl
  refine lv_goto E1 E2 d_Ne_init_86 rfl ?_
  refine lv_iload_n E1 E2 d_Ne_init_64 rfl (lv_at hl 0 rfl) ?_
  refine lv_bipush (v := 8) E1 E2 d_Ne_init_65 (by decide) ?_
  refine lv_icmp_ge E1 E2 d_Ne_init_67 rfl (fun hz => absurd hz (by decide)) (fun _ => ?_)
  refine lv_aload_n E1 E2 d_Ne_init_70 rfl (lv_at hl 1 rfl) ?_
  refine rw_get F h 0 rfl rfl i_Ne 1 (by decide) rfl k_220 rfl d_Ne_init_71 ?_
  refine lv_iload_n E1 E2 d_Ne_init_74 rfl (lv_at hl 0 rfl) ?_
  have h : rw_H D (rw_A q s.heap.size) s.heap H _ ((q, .inr (0, [.ref s.heap.size, .ref (s.heap.size + 1), .int 0])) :: (s.heap.size, .inl (ar 3, 5, .inr (.inr (.inr (.inr (va_up (va_up (va_up (va_up (va_up (fun _ => none) 0 (some (s.heap.size + 2))) 1 (some (s.heap.size + 66))) 2 (some (s.heap.size + 130))) 3 (some (s.heap.size + 194))) 4 (some (s.heap.size + 258)))))))) :: (s.heap.size + 1, .inl (ar 6, 8, .inr (.inr (.inr (.inr (va_up (va_up (va_up (fun _ => none) 0 (some (s.heap.size + 322))) 1 (some (s.heap.size + 324))) 2 (some (s.heap.size + 326)))))))) :: R8) := h
  refine rw_new F h (fun x hx => Or.inr hx) hn i_St t_St t_St_ok k_27 k_196 k_6 (ci := 5) rfl (fs := [.null, .int 0, .null, .int 0]) df_St (by decide) (by decide) d_Ne_init_75 (fun H hn h => ?_)
  refine lv_dup E1 E2 d_Ne_init_78 rfl ?_
  have h : rw_H D (rw_A q s.heap.size) s.heap H _ (((q, .inr (0, [.ref s.heap.size, .ref (s.heap.size + 1), .int 0])) :: (s.heap.size, .inl (ar 3, 5, .inr (.inr (.inr (.inr (va_up (va_up (va_up (va_up (va_up (fun _ => none) 0 (some (s.heap.size + 2))) 1 (some (s.heap.size + 66))) 2 (some (s.heap.size + 130))) 3 (some (s.heap.size + 194))) 4 (some (s.heap.size + 258)))))))) :: (s.heap.size + 1, .inl (ar 6, 8, .inr (.inr (.inr (.inr (va_up (va_up (va_up (fun _ => none) 0 (some (s.heap.size + 322))) 1 (some (s.heap.size + 324))) 2 (some (s.heap.size + 326)))))))) :: R8) ++ [(s.heap.size + 328, .inr (5, [.null, .int 0, .null, .int 0]))]) := h
  refine rw_ctorNA (As := []) (rest := [.ref (s.heap.size + 328), .int 3, .ref (s.heap.size + 1)]) F hO hzA (fun x hx => Or.inr hx) hml hl.1 h hn (c_St_init l D ar z (s.heap.size + 328) (s.heap.size + 329)) k_199 k_6 (bx_nest hO.to nl_St) k_198 rfl ⟨rfl, rfl⟩ (by decide) ⟨by decide, by decide⟩ rfl rfl (Nat.le_of_ble_eq_true rfl) d_Ne_init_79 ⟨by decide, by decide⟩ (fun H locs hn h => ?_)
  have h : rw_H D (rw_A q s.heap.size) s.heap H _ (((q, .inr (0, [.ref s.heap.size, .ref (s.heap.size + 1), .int 0])) :: (s.heap.size, .inl (ar 3, 5, .inr (.inr (.inr (.inr (va_up (va_up (va_up (va_up (va_up (fun _ => none) 0 (some (s.heap.size + 2))) 1 (some (s.heap.size + 66))) 2 (some (s.heap.size + 130))) 3 (some (s.heap.size + 194))) 4 (some (s.heap.size + 258)))))))) :: (s.heap.size + 1, .inl (ar 6, 8, .inr (.inr (.inr (.inr (va_up (va_up (va_up (fun _ => none) 0 (some (s.heap.size + 322))) 1 (some (s.heap.size + 324))) 2 (some (s.heap.size + 326)))))))) :: R8) ++ [(s.heap.size + 328, .inr (5, [.null, .int 1, .ref (s.heap.size + 329), .int 0])), (s.heap.size + 329, .inl (ar 1, 40, .inr (.inl (fun _ => 0))))]) := h
  refine rw_astq F h 2 6 _ 5 rfl rfl rw_at rfl (i := 3) (by decide) (by decide) d_Ne_init_82 (fun H locs h => ?_)
  have h : rw_H D (rw_A q s.heap.size) s.heap H _ (((q, .inr (0, [.ref s.heap.size, .ref (s.heap.size + 1), .int 0])) :: (s.heap.size, .inl (ar 3, 5, .inr (.inr (.inr (.inr (va_up (va_up (va_up (va_up (va_up (fun _ => none) 0 (some (s.heap.size + 2))) 1 (some (s.heap.size + 66))) 2 (some (s.heap.size + 130))) 3 (some (s.heap.size + 194))) 4 (some (s.heap.size + 258)))))))) :: (s.heap.size + 1, .inl (ar 6, 8, .inr (.inr (.inr (.inr (va_up (va_up (va_up (va_up (fun _ => none) 0 (some (s.heap.size + 322))) 1 (some (s.heap.size + 324))) 2 (some (s.heap.size + 326))) 3 (some (s.heap.size + 328)))))))) :: R8) ++ [(s.heap.size + 328, .inr (5, [.null, .int 1, .ref (s.heap.size + 329), .int 0])), (s.heap.size + 329, .inl (ar 1, 40, .inr (.inl (fun _ => 0))))]) := h
  refine rw_le (fun hle => ?_)
  have h9 : H.size ≤ s.heap.size + 330 := hle
  have hlt : s.heap.size + 329 < H.size := (h.1 _ _ rw_at1).lt
  have hn : H.size = s.heap.size + 330 := Nat.le_antisymm h9 hlt
  clear hle h9 hlt
  have h : rw_H D (rw_A q s.heap.size) s.heap H _ ((q, .inr (0, [.ref s.heap.size, .ref (s.heap.size + 1), .int 0])) :: (s.heap.size, .inl (ar 3, 5, .inr (.inr (.inr (.inr (va_up (va_up (va_up (va_up (va_up (fun _ => none) 0 (some (s.heap.size + 2))) 1 (some (s.heap.size + 66))) 2 (some (s.heap.size + 130))) 3 (some (s.heap.size + 194))) 4 (some (s.heap.size + 258)))))))) :: (s.heap.size + 1, .inl (ar 6, 8, .inr (.inr (.inr (.inr (va_up (va_up (va_up (va_up (fun _ => none) 0 (some (s.heap.size + 322))) 1 (some (s.heap.size + 324))) 2 (some (s.heap.size + 326))) 3 (some (s.heap.size + 328)))))))) :: (R8 ++ stW ar (s.heap.size + 328))) := h
  obtain ⟨R9, hR9⟩ : ∃ X : va_W, X = (R8 ++ stW ar (s.heap.size + 328)) := ⟨_, rfl⟩
  rw [← hR9] at h
  refine lv_iinc (v := 4) E1 E2 d_Ne_init_83 hl (k := 0) rfl rfl (by decide) rfl (fun ls hl => ?_)
  have hl : lv_has ls 2 [(1, .int 4), (0, .ref q)] := hl
  refine lv_goto E1 E2 d_Ne_init_86 rfl ?_
  refine lv_iload_n E1 E2 d_Ne_init_64 rfl (lv_at hl 0 rfl) ?_
  refine lv_bipush (v := 8) E1 E2 d_Ne_init_65 (by decide) ?_
  refine lv_icmp_ge E1 E2 d_Ne_init_67 rfl (fun hz => absurd hz (by decide)) (fun _ => ?_)
  refine lv_aload_n E1 E2 d_Ne_init_70 rfl (lv_at hl 1 rfl) ?_
  refine rw_get F h 0 rfl rfl i_Ne 1 (by decide) rfl k_220 rfl d_Ne_init_71 ?_
  refine lv_iload_n E1 E2 d_Ne_init_74 rfl (lv_at hl 0 rfl) ?_
  have h : rw_H D (rw_A q s.heap.size) s.heap H _ ((q, .inr (0, [.ref s.heap.size, .ref (s.heap.size + 1), .int 0])) :: (s.heap.size, .inl (ar 3, 5, .inr (.inr (.inr (.inr (va_up (va_up (va_up (va_up (va_up (fun _ => none) 0 (some (s.heap.size + 2))) 1 (some (s.heap.size + 66))) 2 (some (s.heap.size + 130))) 3 (some (s.heap.size + 194))) 4 (some (s.heap.size + 258)))))))) :: (s.heap.size + 1, .inl (ar 6, 8, .inr (.inr (.inr (.inr (va_up (va_up (va_up (va_up (fun _ => none) 0 (some (s.heap.size + 322))) 1 (some (s.heap.size + 324))) 2 (some (s.heap.size + 326))) 3 (some (s.heap.size + 328)))))))) :: R9) := h
  refine rw_new F h (fun x hx => Or.inr hx) hn i_St t_St t_St_ok k_27 k_196 k_6 (ci := 5) rfl (fs := [.null, .int 0, .null, .int 0]) df_St (by decide) (by decide) d_Ne_init_75 (fun H hn h => ?_)
  refine lv_dup E1 E2 d_Ne_init_78 rfl ?_
  have h : rw_H D (rw_A q s.heap.size) s.heap H _ (((q, .inr (0, [.ref s.heap.size, .ref (s.heap.size + 1), .int 0])) :: (s.heap.size, .inl (ar 3, 5, .inr (.inr (.inr (.inr (va_up (va_up (va_up (va_up (va_up (fun _ => none) 0 (some (s.heap.size + 2))) 1 (some (s.heap.size + 66))) 2 (some (s.heap.size + 130))) 3 (some (s.heap.size + 194))) 4 (some (s.heap.size + 258)))))))) :: (s.heap.size + 1, .inl (ar 6, 8, .inr (.inr (.inr (.inr (va_up (va_up (va_up (va_up (fun _ => none) 0 (some (s.heap.size + 322))) 1 (some (s.heap.size + 324))) 2 (some (s.heap.size + 326))) 3 (some (s.heap.size + 328)))))))) :: R9) ++ [(s.heap.size + 330, .inr (5, [.null, .int 0, .null, .int 0]))]) := h
  refine rw_ctorNA (As := []) (rest := [.ref (s.heap.size + 330), .int 4, .ref (s.heap.size + 1)]) F hO hzA (fun x hx => Or.inr hx) hml hl.1 h hn (c_St_init l D ar z (s.heap.size + 330) (s.heap.size + 331)) k_199 k_6 (bx_nest hO.to nl_St) k_198 rfl ⟨rfl, rfl⟩ (by decide) ⟨by decide, by decide⟩ rfl rfl (Nat.le_of_ble_eq_true rfl) d_Ne_init_79 ⟨by decide, by decide⟩ (fun H locs hn h => ?_)
  have h : rw_H D (rw_A q s.heap.size) s.heap H _ (((q, .inr (0, [.ref s.heap.size, .ref (s.heap.size + 1), .int 0])) :: (s.heap.size, .inl (ar 3, 5, .inr (.inr (.inr (.inr (va_up (va_up (va_up (va_up (va_up (fun _ => none) 0 (some (s.heap.size + 2))) 1 (some (s.heap.size + 66))) 2 (some (s.heap.size + 130))) 3 (some (s.heap.size + 194))) 4 (some (s.heap.size + 258)))))))) :: (s.heap.size + 1, .inl (ar 6, 8, .inr (.inr (.inr (.inr (va_up (va_up (va_up (va_up (fun _ => none) 0 (some (s.heap.size + 322))) 1 (some (s.heap.size + 324))) 2 (some (s.heap.size + 326))) 3 (some (s.heap.size + 328)))))))) :: R9) ++ [(s.heap.size + 330, .inr (5, [.null, .int 1, .ref (s.heap.size + 331), .int 0])), (s.heap.size + 331, .inl (ar 1, 40, .inr (.inl (fun _ => 0))))]) := h
  refine rw_astq F h 2 6 _ 5 rfl rfl rw_at rfl (i := 4) (by decide) (by decide) d_Ne_init_82 (fun H locs h => ?_)
  have h : rw_H D (rw_A q s.heap.size) s.heap H _ (((q, .inr (0, [.ref s.heap.size, .ref (s.heap.size + 1), .int 0])) :: (s.heap.size, .inl (ar 3, 5, .inr (.inr (.inr (.inr (va_up (va_up (va_up (va_up (va_up (fun _ => none) 0 (some (s.heap.size + 2))) 1 (some (s.heap.size + 66))) 2 (some (s.heap.size + 130))) 3 (some (s.heap.size + 194))) 4 (some (s.heap.size + 258)))))))) :: (s.heap.size + 1, .inl (ar 6, 8, .inr (.inr (.inr (.inr (va_up (va_up (va_up (va_up (va_up (fun _ => none) 0 (some (s.heap.size + 322))) 1 (some (s.heap.size + 324))) 2 (some (s.heap.size + 326))) 3 (some (s.heap.size + 328))) 4 (some (s.heap.size + 330)))))))) :: R9) ++ [(s.heap.size + 330, .inr (5, [.null, .int 1, .ref (s.heap.size + 331), .int 0])), (s.heap.size + 331, .inl (ar 1, 40, .inr (.inl (fun _ => 0))))]) := h
  refine rw_le (fun hle => ?_)
  have h9 : H.size ≤ s.heap.size + 332 := hle
  have hlt : s.heap.size + 331 < H.size := (h.1 _ _ rw_at1).lt
  have hn : H.size = s.heap.size + 332 := Nat.le_antisymm h9 hlt
  clear hle h9 hlt
  have h : rw_H D (rw_A q s.heap.size) s.heap H _ ((q, .inr (0, [.ref s.heap.size, .ref (s.heap.size + 1), .int 0])) :: (s.heap.size, .inl (ar 3, 5, .inr (.inr (.inr (.inr (va_up (va_up (va_up (va_up (va_up (fun _ => none) 0 (some (s.heap.size + 2))) 1 (some (s.heap.size + 66))) 2 (some (s.heap.size + 130))) 3 (some (s.heap.size + 194))) 4 (some (s.heap.size + 258)))))))) :: (s.heap.size + 1, .inl (ar 6, 8, .inr (.inr (.inr (.inr (va_up (va_up (va_up (va_up (va_up (fun _ => none) 0 (some (s.heap.size + 322))) 1 (some (s.heap.size + 324))) 2 (some (s.heap.size + 326))) 3 (some (s.heap.size + 328))) 4 (some (s.heap.size + 330)))))))) :: (R9 ++ stW ar (s.heap.size + 330))) := h
  obtain ⟨R10, hR10⟩ : ∃ X : va_W, X = (R9 ++ stW ar (s.heap.size + 330)) := ⟨_, rfl⟩
  rw [← hR10] at h
  refine lv_iinc (v := 5) E1 E2 d_Ne_init_83 hl (k := 0) rfl rfl (by decide) rfl (fun ls hl => ?_)
  have hl : lv_has ls 2 [(1, .int 5), (0, .ref q)] := hl
  refine lv_goto E1 E2 d_Ne_init_86 rfl ?_
  refine lv_iload_n E1 E2 d_Ne_init_64 rfl (lv_at hl 0 rfl) ?_
  refine lv_bipush (v := 8) E1 E2 d_Ne_init_65 (by decide) ?_
  refine lv_icmp_ge E1 E2 d_Ne_init_67 rfl (fun hz => absurd hz (by decide)) (fun _ => ?_)
  refine lv_aload_n E1 E2 d_Ne_init_70 rfl (lv_at hl 1 rfl) ?_
  refine rw_get F h 0 rfl rfl i_Ne 1 (by decide) rfl k_220 rfl d_Ne_init_71 ?_
  refine lv_iload_n E1 E2 d_Ne_init_74 rfl (lv_at hl 0 rfl) ?_
  have h : rw_H D (rw_A q s.heap.size) s.heap H _ ((q, .inr (0, [.ref s.heap.size, .ref (s.heap.size + 1), .int 0])) :: (s.heap.size, .inl (ar 3, 5, .inr (.inr (.inr (.inr (va_up (va_up (va_up (va_up (va_up (fun _ => none) 0 (some (s.heap.size + 2))) 1 (some (s.heap.size + 66))) 2 (some (s.heap.size + 130))) 3 (some (s.heap.size + 194))) 4 (some (s.heap.size + 258)))))))) :: (s.heap.size + 1, .inl (ar 6, 8, .inr (.inr (.inr (.inr (va_up (va_up (va_up (va_up (va_up (fun _ => none) 0 (some (s.heap.size + 322))) 1 (some (s.heap.size + 324))) 2 (some (s.heap.size + 326))) 3 (some (s.heap.size + 328))) 4 (some (s.heap.size + 330)))))))) :: R10) := h
  refine rw_new F h (fun x hx => Or.inr hx) hn i_St t_St t_St_ok k_27 k_196 k_6 (ci := 5) rfl (fs := [.null, .int 0, .null, .int 0]) df_St (by decide) (by decide) d_Ne_init_75 (fun H hn h => ?_)
  refine lv_dup E1 E2 d_Ne_init_78 rfl ?_
  have h : rw_H D (rw_A q s.heap.size) s.heap H _ (((q, .inr (0, [.ref s.heap.size, .ref (s.heap.size + 1), .int 0])) :: (s.heap.size, .inl (ar 3, 5, .inr (.inr (.inr (.inr (va_up (va_up (va_up (va_up (va_up (fun _ => none) 0 (some (s.heap.size + 2))) 1 (some (s.heap.size + 66))) 2 (some (s.heap.size + 130))) 3 (some (s.heap.size + 194))) 4 (some (s.heap.size + 258)))))))) :: (s.heap.size + 1, .inl (ar 6, 8, .inr (.inr (.inr (.inr (va_up (va_up (va_up (va_up (va_up (fun _ => none) 0 (some (s.heap.size + 322))) 1 (some (s.heap.size + 324))) 2 (some (s.heap.size + 326))) 3 (some (s.heap.size + 328))) 4 (some (s.heap.size + 330)))))))) :: R10) ++ [(s.heap.size + 332, .inr (5, [.null, .int 0, .null, .int 0]))]) := h
  refine rw_ctorNA (As := []) (rest := [.ref (s.heap.size + 332), .int 5, .ref (s.heap.size + 1)]) F hO hzA (fun x hx => Or.inr hx) hml hl.1 h hn (c_St_init l D ar z (s.heap.size + 332) (s.heap.size + 333)) k_199 k_6 (bx_nest hO.to nl_St) k_198 rfl ⟨rfl, rfl⟩ (by decide) ⟨by decide, by decide⟩ rfl rfl (Nat.le_of_ble_eq_true rfl) d_Ne_init_79 ⟨by decide, by decide⟩ (fun H locs hn h => ?_)
  have h : rw_H D (rw_A q s.heap.size) s.heap H _ (((q, .inr (0, [.ref s.heap.size, .ref (s.heap.size + 1), .int 0])) :: (s.heap.size, .inl (ar 3, 5, .inr (.inr (.inr (.inr (va_up (va_up (va_up (va_up (va_up (fun _ => none) 0 (some (s.heap.size + 2))) 1 (some (s.heap.size + 66))) 2 (some (s.heap.size + 130))) 3 (some (s.heap.size + 194))) 4 (some (s.heap.size + 258)))))))) :: (s.heap.size + 1, .inl (ar 6, 8, .inr (.inr (.inr (.inr (va_up (va_up (va_up (va_up (va_up (fun _ => none) 0 (some (s.heap.size + 322))) 1 (some (s.heap.size + 324))) 2 (some (s.heap.size + 326))) 3 (some (s.heap.size + 328))) 4 (some (s.heap.size + 330)))))))) :: R10) ++ [(s.heap.size + 332, .inr (5, [.null, .int 1, .ref (s.heap.size + 333), .int 0])), (s.heap.size + 333, .inl (ar 1, 40, .inr (.inl (fun _ => 0))))]) := h
  refine rw_astq F h 2 6 _ 5 rfl rfl rw_at rfl (i := 5) (by decide) (by decide) d_Ne_init_82 (fun H locs h => ?_)
  have h : rw_H D (rw_A q s.heap.size) s.heap H _ (((q, .inr (0, [.ref s.heap.size, .ref (s.heap.size + 1), .int 0])) :: (s.heap.size, .inl (ar 3, 5, .inr (.inr (.inr (.inr (va_up (va_up (va_up (va_up (va_up (fun _ => none) 0 (some (s.heap.size + 2))) 1 (some (s.heap.size + 66))) 2 (some (s.heap.size + 130))) 3 (some (s.heap.size + 194))) 4 (some (s.heap.size + 258)))))))) :: (s.heap.size + 1, .inl (ar 6, 8, .inr (.inr (.inr (.inr (va_up (va_up (va_up (va_up (va_up (va_up (fun _ => none) 0 (some (s.heap.size + 322))) 1 (some (s.heap.size + 324))) 2 (some (s.heap.size + 326))) 3 (some (s.heap.size + 328))) 4 (some (s.heap.size + 330))) 5 (some (s.heap.size + 332)))))))) :: R10) ++ [(s.heap.size + 332, .inr (5, [.null, .int 1, .ref (s.heap.size + 333), .int 0])), (s.heap.size + 333, .inl (ar 1, 40, .inr (.inl (fun _ => 0))))]) := h
  refine rw_le (fun hle => ?_)
  have h9 : H.size ≤ s.heap.size + 334 := hle
  have hlt : s.heap.size + 333 < H.size := (h.1 _ _ rw_at1).lt
  have hn : H.size = s.heap.size + 334 := Nat.le_antisymm h9 hlt
  clear hle h9 hlt
  have h : rw_H D (rw_A q s.heap.size) s.heap H _ ((q, .inr (0, [.ref s.heap.size, .ref (s.heap.size + 1), .int 0])) :: (s.heap.size, .inl (ar 3, 5, .inr (.inr (.inr (.inr (va_up (va_up (va_up (va_up (va_up (fun _ => none) 0 (some (s.heap.size + 2))) 1 (some (s.heap.size + 66))) 2 (some (s.heap.size + 130))) 3 (some (s.heap.size + 194))) 4 (some (s.heap.size + 258)))))))) :: (s.heap.size + 1, .inl (ar 6, 8, .inr (.inr (.inr (.inr (va_up (va_up (va_up (va_up (va_up (va_up (fun _ => none) 0 (some (s.heap.size + 322))) 1 (some (s.heap.size + 324))) 2 (some (s.heap.size + 326))) 3 (some (s.heap.size + 328))) 4 (some (s.heap.size + 330))) 5 (some (s.heap.size + 332)))))))) :: (R10 ++ stW ar (s.heap.size + 332))) := h
  obtain ⟨R11, hR11⟩ : ∃ X : va_W, X = (R10 ++ stW ar (s.heap.size + 332)) := ⟨_, rfl⟩
  rw [← hR11] at h
  refine lv_iinc (v := 6) E1 E2 d_Ne_init_83 hl (k := 0) rfl rfl (by decide) rfl (fun ls hl => ?_)
  have hl : lv_has ls 2 [(1, .int 6), (0, .ref q)] := hl
  refine lv_goto E1 E2 d_Ne_init_86 rfl ?_
  refine lv_iload_n E1 E2 d_Ne_init_64 rfl (lv_at hl 0 rfl) ?_
  refine lv_bipush (v := 8) E1 E2 d_Ne_init_65 (by decide) ?_
  refine lv_icmp_ge E1 E2 d_Ne_init_67 rfl (fun hz => absurd hz (by decide)) (fun _ => ?_)
  refine lv_aload_n E1 E2 d_Ne_init_70 rfl (lv_at hl 1 rfl) ?_
  refine rw_get F h 0 rfl rfl i_Ne 1 (by decide) rfl k_220 rfl d_Ne_init_71 ?_
  refine lv_iload_n E1 E2 d_Ne_init_74 rfl (lv_at hl 0 rfl) ?_
  have h : rw_H D (rw_A q s.heap.size) s.heap H _ ((q, .inr (0, [.ref s.heap.size, .ref (s.heap.size + 1), .int 0])) :: (s.heap.size, .inl (ar 3, 5, .inr (.inr (.inr (.inr (va_up (va_up (va_up (va_up (va_up (fun _ => none) 0 (some (s.heap.size + 2))) 1 (some (s.heap.size + 66))) 2 (some (s.heap.size + 130))) 3 (some (s.heap.size + 194))) 4 (some (s.heap.size + 258)))))))) :: (s.heap.size + 1, .inl (ar 6, 8, .inr (.inr (.inr (.inr (va_up (va_up (va_up (va_up (va_up (va_up (fun _ => none) 0 (some (s.heap.size + 322))) 1 (some (s.heap.size + 324))) 2 (some (s.heap.size + 326))) 3 (some (s.heap.size + 328))) 4 (some (s.heap.size + 330))) 5 (some (s.heap.size + 332)))))))) :: R11) := h
  refine rw_new F h (fun x hx => Or.inr hx) hn i_St t_St t_St_ok k_27 k_196 k_6 (ci := 5) rfl (fs := [.null, .int 0, .null, .int 0]) df_St (by decide) (by decide) d_Ne_init_75 (fun H hn h => ?_)
  refine lv_dup E1 E2 d_Ne_init_78 rfl ?_
  have h : rw_H D (rw_A q s.heap.size) s.heap H _ (((q, .inr (0, [.ref s.heap.size, .ref (s.heap.size + 1), .int 0])) :: (s.heap.size, .inl (ar 3, 5, .inr (.inr (.inr (.inr (va_up (va_up (va_up (va_up (va_up (fun _ => none) 0 (some (s.heap.size + 2))) 1 (some (s.heap.size + 66))) 2 (some (s.heap.size + 130))) 3 (some (s.heap.size + 194))) 4 (some (s.heap.size + 258)))))))) :: (s.heap.size + 1, .inl (ar 6, 8, .inr (.inr (.inr (.inr (va_up (va_up (va_up (va_up (va_up (va_up (fun _ => none) 0 (some (s.heap.size + 322))) 1 (some (s.heap.size + 324))) 2 (some (s.heap.size + 326))) 3 (some (s.heap.size + 328))) 4 (some (s.heap.size + 330))) 5 (some (s.heap.size + 332)))))))) :: R11) ++ [(s.heap.size + 334, .inr (5, [.null, .int 0, .null, .int 0]))]) := h
  refine rw_ctorNA (As := []) (rest := [.ref (s.heap.size + 334), .int 6, .ref (s.heap.size + 1)]) F hO hzA (fun x hx => Or.inr hx) hml hl.1 h hn (c_St_init l D ar z (s.heap.size + 334) (s.heap.size + 335)) k_199 k_6 (bx_nest hO.to nl_St) k_198 rfl ⟨rfl, rfl⟩ (by decide) ⟨by decide, by decide⟩ rfl rfl (Nat.le_of_ble_eq_true rfl) d_Ne_init_79 ⟨by decide, by decide⟩ (fun H locs hn h => ?_)
  have h : rw_H D (rw_A q s.heap.size) s.heap H _ (((q, .inr (0, [.ref s.heap.size, .ref (s.heap.size + 1), .int 0])) :: (s.heap.size, .inl (ar 3, 5, .inr (.inr (.inr (.inr (va_up (va_up (va_up (va_up (va_up (fun _ => none) 0 (some (s.heap.size + 2))) 1 (some (s.heap.size + 66))) 2 (some (s.heap.size + 130))) 3 (some (s.heap.size + 194))) 4 (some (s.heap.size + 258)))))))) :: (s.heap.size + 1, .inl (ar 6, 8, .inr (.inr (.inr (.inr (va_up (va_up (va_up (va_up (va_up (va_up (fun _ => none) 0 (some (s.heap.size + 322))) 1 (some (s.heap.size + 324))) 2 (some (s.heap.size + 326))) 3 (some (s.heap.size + 328))) 4 (some (s.heap.size + 330))) 5 (some (s.heap.size + 332)))))))) :: R11) ++ [(s.heap.size + 334, .inr (5, [.null, .int 1, .ref (s.heap.size + 335), .int 0])), (s.heap.size + 335, .inl (ar 1, 40, .inr (.inl (fun _ => 0))))]) := h
  refine rw_astq F h 2 6 _ 5 rfl rfl rw_at rfl (i := 6) (by decide) (by decide) d_Ne_init_82 (fun H locs h => ?_)
  have h : rw_H D (rw_A q s.heap.size) s.heap H _ (((q, .inr (0, [.ref s.heap.size, .ref (s.heap.size + 1), .int 0])) :: (s.heap.size, .inl (ar 3, 5, .inr (.inr (.inr (.inr (va_up (va_up (va_up (va_up (va_up (fun _ => none) 0 (some (s.heap.size + 2))) 1 (some (s.heap.size + 66))) 2 (some (s.heap.size + 130))) 3 (some (s.heap.size + 194))) 4 (some (s.heap.size + 258)))))))) :: (s.heap.size + 1, .inl (ar 6, 8, .inr (.inr (.inr (.inr (va_up (va_up (va_up (va_up (va_up (va_up (va_up (fun _ => none) 0 (some (s.heap.size + 322))) 1 (some (s.heap.size + 324))) 2 (some (s.heap.size + 326))) 3 (some (s.heap.size + 328))) 4 (some (s.heap.size + 330))) 5 (some (s.heap.size + 332))) 6 (some (s.heap.size + 334)))))))) :: R11) ++ [(s.heap.size + 334, .inr (5, [.null, .int 1, .ref (s.heap.size + 335), .int 0])), (s.heap.size + 335, .inl (ar 1, 40, .inr (.inl (fun _ => 0))))]) := h
  refine rw_le (fun hle => ?_)
  have h9 : H.size ≤ s.heap.size + 336 := hle
  have hlt : s.heap.size + 335 < H.size := (h.1 _ _ rw_at1).lt
  have hn : H.size = s.heap.size + 336 := Nat.le_antisymm h9 hlt
  clear hle h9 hlt
  have h : rw_H D (rw_A q s.heap.size) s.heap H _ ((q, .inr (0, [.ref s.heap.size, .ref (s.heap.size + 1), .int 0])) :: (s.heap.size, .inl (ar 3, 5, .inr (.inr (.inr (.inr (va_up (va_up (va_up (va_up (va_up (fun _ => none) 0 (some (s.heap.size + 2))) 1 (some (s.heap.size + 66))) 2 (some (s.heap.size + 130))) 3 (some (s.heap.size + 194))) 4 (some (s.heap.size + 258)))))))) :: (s.heap.size + 1, .inl (ar 6, 8, .inr (.inr (.inr (.inr (va_up (va_up (va_up (va_up (va_up (va_up (va_up (fun _ => none) 0 (some (s.heap.size + 322))) 1 (some (s.heap.size + 324))) 2 (some (s.heap.size + 326))) 3 (some (s.heap.size + 328))) 4 (some (s.heap.size + 330))) 5 (some (s.heap.size + 332))) 6 (some (s.heap.size + 334)))))))) :: (R11 ++ stW ar (s.heap.size + 334))) := h
  obtain ⟨R12, hR12⟩ : ∃ X : va_W, X = (R11 ++ stW ar (s.heap.size + 334)) := ⟨_, rfl⟩
  rw [← hR12] at h
  refine lv_iinc (v := 7) E1 E2 d_Ne_init_83 hl (k := 0) rfl rfl (by decide) rfl (fun ls hl => ?_)
  have hl : lv_has ls 2 [(1, .int 7), (0, .ref q)] := hl
  refine lv_goto E1 E2 d_Ne_init_86 rfl ?_
  refine lv_iload_n E1 E2 d_Ne_init_64 rfl (lv_at hl 0 rfl) ?_
  refine lv_bipush (v := 8) E1 E2 d_Ne_init_65 (by decide) ?_
  refine lv_icmp_ge E1 E2 d_Ne_init_67 rfl (fun hz => absurd hz (by decide)) (fun _ => ?_)
  refine lv_aload_n E1 E2 d_Ne_init_70 rfl (lv_at hl 1 rfl) ?_
  refine rw_get F h 0 rfl rfl i_Ne 1 (by decide) rfl k_220 rfl d_Ne_init_71 ?_
  refine lv_iload_n E1 E2 d_Ne_init_74 rfl (lv_at hl 0 rfl) ?_
  have h : rw_H D (rw_A q s.heap.size) s.heap H _ ((q, .inr (0, [.ref s.heap.size, .ref (s.heap.size + 1), .int 0])) :: (s.heap.size, .inl (ar 3, 5, .inr (.inr (.inr (.inr (va_up (va_up (va_up (va_up (va_up (fun _ => none) 0 (some (s.heap.size + 2))) 1 (some (s.heap.size + 66))) 2 (some (s.heap.size + 130))) 3 (some (s.heap.size + 194))) 4 (some (s.heap.size + 258)))))))) :: (s.heap.size + 1, .inl (ar 6, 8, .inr (.inr (.inr (.inr (va_up (va_up (va_up (va_up (va_up (va_up (va_up (fun _ => none) 0 (some (s.heap.size + 322))) 1 (some (s.heap.size + 324))) 2 (some (s.heap.size + 326))) 3 (some (s.heap.size + 328))) 4 (some (s.heap.size + 330))) 5 (some (s.heap.size + 332))) 6 (some (s.heap.size + 334)))))))) :: R12) := h
  refine rw_new F h (fun x hx => Or.inr hx) hn i_St t_St t_St_ok k_27 k_196 k_6 (ci := 5) rfl (fs := [.null, .int 0, .null, .int 0]) df_St (by decide) (by decide) d_Ne_init_75 (fun H hn h => ?_)
  refine lv_dup E1 E2 d_Ne_init_78 rfl ?_
  have h : rw_H D (rw_A q s.heap.size) s.heap H _ (((q, .inr (0, [.ref s.heap.size, .ref (s.heap.size + 1), .int 0])) :: (s.heap.size, .inl (ar 3, 5, .inr (.inr (.inr (.inr (va_up (va_up (va_up (va_up (va_up (fun _ => none) 0 (some (s.heap.size + 2))) 1 (some (s.heap.size + 66))) 2 (some (s.heap.size + 130))) 3 (some (s.heap.size + 194))) 4 (some (s.heap.size + 258)))))))) :: (s.heap.size + 1, .inl (ar 6, 8, .inr (.inr (.inr (.inr (va_up (va_up (va_up (va_up (va_up (va_up (va_up (fun _ => none) 0 (some (s.heap.size + 322))) 1 (some (s.heap.size + 324))) 2 (some (s.heap.size + 326))) 3 (some (s.heap.size + 328))) 4 (some (s.heap.size + 330))) 5 (some (s.heap.size + 332))) 6 (some (s.heap.size + 334)))))))) :: R12) ++ [(s.heap.size + 336, .inr (5, [.null, .int 0, .null, .int 0]))]) := h
  refine rw_ctorNA (As := []) (rest := [.ref (s.heap.size + 336), .int 7, .ref (s.heap.size + 1)]) F hO hzA (fun x hx => Or.inr hx) hml hl.1 h hn (c_St_init l D ar z (s.heap.size + 336) (s.heap.size + 337)) k_199 k_6 (bx_nest hO.to nl_St) k_198 rfl ⟨rfl, rfl⟩ (by decide) ⟨by decide, by decide⟩ rfl rfl (Nat.le_of_ble_eq_true rfl) d_Ne_init_79 ⟨by decide, by decide⟩ (fun H locs hn h => ?_)
  have h : rw_H D (rw_A q s.heap.size) s.heap H _ (((q, .inr (0, [.ref s.heap.size, .ref (s.heap.size + 1), .int 0])) :: (s.heap.size, .inl (ar 3, 5, .inr (.inr (.inr (.inr (va_up (va_up (va_up (va_up (va_up (fun _ => none) 0 (some (s.heap.size + 2))) 1 (some (s.heap.size + 66))) 2 (some (s.heap.size + 130))) 3 (some (s.heap.size + 194))) 4 (some (s.heap.size + 258)))))))) :: (s.heap.size + 1, .inl (ar 6, 8, .inr (.inr (.inr (.inr (va_up (va_up (va_up (va_up (va_up (va_up (va_up (fun _ => none) 0 (some (s.heap.size + 322))) 1 (some (s.heap.size + 324))) 2 (some (s.heap.size + 326))) 3 (some (s.heap.size + 328))) 4 (some (s.heap.size + 330))) 5 (some (s.heap.size + 332))) 6 (some (s.heap.size + 334)))))))) :: R12) ++ [(s.heap.size + 336, .inr (5, [.null, .int 1, .ref (s.heap.size + 337), .int 0])), (s.heap.size + 337, .inl (ar 1, 40, .inr (.inl (fun _ => 0))))]) := h
  refine rw_astq F h 2 6 _ 5 rfl rfl rw_at rfl (i := 7) (by decide) (by decide) d_Ne_init_82 (fun H locs h => ?_)
  have h : rw_H D (rw_A q s.heap.size) s.heap H _ (((q, .inr (0, [.ref s.heap.size, .ref (s.heap.size + 1), .int 0])) :: (s.heap.size, .inl (ar 3, 5, .inr (.inr (.inr (.inr (va_up (va_up (va_up (va_up (va_up (fun _ => none) 0 (some (s.heap.size + 2))) 1 (some (s.heap.size + 66))) 2 (some (s.heap.size + 130))) 3 (some (s.heap.size + 194))) 4 (some (s.heap.size + 258)))))))) :: (s.heap.size + 1, .inl (ar 6, 8, .inr (.inr (.inr (.inr (va_up (va_up (va_up (va_up (va_up (va_up (va_up (va_up (fun _ => none) 0 (some (s.heap.size + 322))) 1 (some (s.heap.size + 324))) 2 (some (s.heap.size + 326))) 3 (some (s.heap.size + 328))) 4 (some (s.heap.size + 330))) 5 (some (s.heap.size + 332))) 6 (some (s.heap.size + 334))) 7 (some (s.heap.size + 336)))))))) :: R12) ++ [(s.heap.size + 336, .inr (5, [.null, .int 1, .ref (s.heap.size + 337), .int 0])), (s.heap.size + 337, .inl (ar 1, 40, .inr (.inl (fun _ => 0))))]) := h
  refine rw_le (fun hle => ?_)
  have h9 : H.size ≤ s.heap.size + 338 := hle
  have hlt : s.heap.size + 337 < H.size := (h.1 _ _ rw_at1).lt
  have hn : H.size = s.heap.size + 338 := Nat.le_antisymm h9 hlt
  clear hle h9 hlt
  have h : rw_H D (rw_A q s.heap.size) s.heap H _ ((q, .inr (0, [.ref s.heap.size, .ref (s.heap.size + 1), .int 0])) :: (s.heap.size, .inl (ar 3, 5, .inr (.inr (.inr (.inr (va_up (va_up (va_up (va_up (va_up (fun _ => none) 0 (some (s.heap.size + 2))) 1 (some (s.heap.size + 66))) 2 (some (s.heap.size + 130))) 3 (some (s.heap.size + 194))) 4 (some (s.heap.size + 258)))))))) :: (s.heap.size + 1, .inl (ar 6, 8, .inr (.inr (.inr (.inr (va_up (va_up (va_up (va_up (va_up (va_up (va_up (va_up (fun _ => none) 0 (some (s.heap.size + 322))) 1 (some (s.heap.size + 324))) 2 (some (s.heap.size + 326))) 3 (some (s.heap.size + 328))) 4 (some (s.heap.size + 330))) 5 (some (s.heap.size + 332))) 6 (some (s.heap.size + 334))) 7 (some (s.heap.size + 336)))))))) :: (R12 ++ stW ar (s.heap.size + 336))) := h
  obtain ⟨R13, hR13⟩ : ∃ X : va_W, X = (R12 ++ stW ar (s.heap.size + 336)) := ⟨_, rfl⟩
  rw [← hR13] at h
  refine lv_iinc (v := 8) E1 E2 d_Ne_init_83 hl (k := 0) rfl rfl (by decide) rfl (fun ls hl => ?_)
  have hl : lv_has ls 2 [(1, .int 8), (0, .ref q)] := hl
  refine lv_goto E1 E2 d_Ne_init_86 rfl ?_
  refine lv_iload_n E1 E2 d_Ne_init_64 rfl (lv_at hl 0 rfl) ?_
  refine lv_bipush (v := 8) E1 E2 d_Ne_init_65 (by decide) ?_
  refine lv_icmp_ge E1 E2 d_Ne_init_67 rfl (fun _ => ?_) (fun hz => absurd (by decide) hz)
  have h := rw_congr h (q0 := 1) rfl (g := neB s.heap.size) (neB_5 s.heap.size)
  have h := rw_congr h (q0 := 2) rfl (g := neS s.heap.size) (neS_8 s.heap.size)
  subst hR13
  subst hR12
  subst hR11
  subst hR10
  subst hR9
  subst hR8
  subst hR7
  subst hR6
  subst hR5
  subst hR4
  subst hR3
  subst hR2
  subst hR1
  have h : rw_H D (rw_A q s.heap.size) s.heap H _ (neW ar q s.heap.size) := h
  exact rw_ret F hr hk h hn d_Ne_init_89
