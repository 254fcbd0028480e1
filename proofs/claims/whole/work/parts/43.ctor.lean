/-! the bridge's ports: written by wip/whole/gen_ctor2.py -/
set_option maxHeartbeats 8000000 in
set_option maxRecDepth 100000 in
theorem c_Br_addPorts (l : Launch) (D : va_G) (ar : Nat → ClassId) (z B b : Nat) (hzq : z ≤ B) : rw_M l y_Br_addPorts w_Br_addPorts { frames := 4, cells := 60, slots := 412, locals := 100 } D ar z (B + 4) [(B, .inr (1, brV b B)), (B + 1, .inl (ar 4, 4, .inr (.inr (.inr (.inr (fun _ => none)))))), (B + 2, .inl (ar 0, 16, .inl (fun _ => 0))), (B + 3, .inl (ar 0, 16, .inl (fun _ => 0)))] [.ref B] 60 412 (brW ar b B) := by
  refine rw_startM (cc := b_Br_addPorts) (maxL := 2) (by decide) rfl (Nat.le_of_ble_eq_true rfl) ?_
  intro p e s m args below meth c ls hsz F hO hnm hml hr hk hl h
  have E1 := F.1
  have E2 := F.2.1
  have hl : lv_has ls 2 [(0, .ref B)] := hl
  have hzA : ∀ a : Nat, a < z → a < s.heap.size ∧ ¬ va_A [(B, .inr (1, brV b B)), (B + 1, .inl (ar 4, 4, .inr (.inr (.inr (.inr (fun _ => none)))))), (B + 2, .inl (ar 0, 16, .inl (fun _ => 0))), (B + 3, .inl (ar 0, 16, .inl (fun _ => 0)))] (B + 4) a := by
    intro a ha
    refine ⟨by omega, ?_⟩
    rintro (⟨k, x, h1⟩ | h1)
    · have hm := List.mem_of_getElem? h1
      simp at hm
      omega
    · omega
  have hA : ∀ x : Nat, s.heap.size ≤ x → va_A [(B, .inr (1, brV b B)), (B + 1, .inl (ar 4, 4, .inr (.inr (.inr (.inr (fun _ => none)))))), (B + 2, .inl (ar 0, 16, .inl (fun _ => 0))), (B + 3, .inl (ar 0, 16, .inl (fun _ => 0)))] (B + 4) x := fun x hx => Or.inr (by omega)
  have hn : s.heap.size = B + 4 := hsz
  refine lv_iconst (v := 0) E1 E2 d_Br_addPorts_0 (by decide) ?_
  refine lv_istore_n E1 E2 d_Br_addPorts_1 rfl hl (by decide) rfl (fun ls hl => ?_)
  have hl : lv_has ls 2 [(1, .int 0), (0, .ref B)] := hl
  refine lv_iload_n E1 E2 d_Br_addPorts_2 rfl (lv_at hl 0 rfl) ?_
  refine lv_iconst (v := 4) E1 E2 d_Br_addPorts_3 (by decide) ?_
  refine lv_icmp_ge E1 E2 d_Br_addPorts_4 rfl (fun hz => absurd hz (by decide)) (fun _ => ?_)
  refine lv_aload_n E1 E2 d_Br_addPorts_7 rfl (lv_at hl 1 rfl) ?_
  refine rw_get F h 0 rfl rfl i_Br 2 (by decide) rfl k_38 rfl d_Br_addPorts_8 ?_
  refine lv_iload_n E1 E2 d_Br_addPorts_11 rfl (lv_at hl 0 rfl) ?_
  refine rw_new F h hA hn i_Po t_Po t_Po_ok k_34 k_70 k_3 (ci := 2) rfl (fs := [.null, .int 0, .null, .int 0, .int 0, .null, .null, .int 0, .long 0, .int 0, .int 0, .int 0, .int 0, .int 0, .int 0, .int 0]) df_Po (by decide) (by decide) d_Br_addPorts_12 (fun H hn h => ?_)
  refine lv_dup E1 E2 d_Br_addPorts_15 rfl ?_
  refine lv_aload_n E1 E2 d_Br_addPorts_16 rfl (lv_at hl 1 rfl) ?_
  refine lv_iload_n E1 E2 d_Br_addPorts_17 rfl (lv_at hl 0 rfl) ?_
  have h : rw_H D (va_A [(B, .inr (1, brV b B)), (B + 1, .inl (ar 4, 4, .inr (.inr (.inr (.inr (fun _ => none)))))), (B + 2, .inl (ar 0, 16, .inl (fun _ => 0))), (B + 3, .inl (ar 0, 16, .inl (fun _ => 0)))] (B + 4)) s.heap H _ (((B, .inr (1, [.int (nI b), .int (64 + nI b), .ref (B + 1), .int (64 + nI b), .int 0, .int 0, .null, .ref (B + 2), .ref (B + 3)])) :: (B + 1, .inl (ar 4, 4, .inr (.inr (.inr (.inr (fun _ => none)))))) :: (B + 2, .inl (ar 0, 16, .inl (fun _ => 0))) :: (B + 3, .inl (ar 0, 16, .inl (fun _ => 0))) :: []) ++ [(B + 4, .inr (2, [.null, .int 0, .null, .int 0, .int 0, .null, .null, .int 0, .long 0, .int 0, .int 0, .int 0, .int 0, .int 0, .int 0, .int 0]))]) := h
  refine rw_ctorA (k := 2) (As := [.ref B, .int (nI 0)]) (rest := [.ref (B + 4), .int 0, .ref (B + 1)]) F hO hzA hA hml hl.1 h hn (c_Po_init l D ar z (B + 4) (B + 5) B 0 (by omega)) k_73 k_3 k_71 k_72 rfl ⟨rfl, rfl⟩ (by decide) ⟨by decide, by decide⟩ rfl rfl (Nat.le_of_ble_eq_true rfl) d_Br_addPorts_18 ⟨by decide, by decide⟩ (fun H locs hn h => ?_)
  have h : rw_H D (va_A [(B, .inr (1, brV b B)), (B + 1, .inl (ar 4, 4, .inr (.inr (.inr (.inr (fun _ => none)))))), (B + 2, .inl (ar 0, 16, .inl (fun _ => 0))), (B + 3, .inl (ar 0, 16, .inl (fun _ => 0)))] (B + 4)) s.heap H _ ((B, .inr (1, [.int (nI b), .int (64 + nI b), .ref (B + 1), .int (64 + nI b), .int 0, .int 0, .null, .ref (B + 2), .ref (B + 3)])) :: (B + 1, .inl (ar 4, 4, .inr (.inr (.inr (.inr (fun _ => none)))))) :: (B + 2, .inl (ar 0, 16, .inl (fun _ => 0))) :: (B + 3, .inl (ar 0, 16, .inl (fun _ => 0))) :: poW ar B 0 (B + 4)) := h
  refine rw_astq F h 1 4 4 2 rfl rfl rfl rfl (i := 0) (by decide) (by decide) d_Br_addPorts_21 (fun H locs h => ?_)
  have h : rw_H D (va_A [(B, .inr (1, brV b B)), (B + 1, .inl (ar 4, 4, .inr (.inr (.inr (.inr (fun _ => none)))))), (B + 2, .inl (ar 0, 16, .inl (fun _ => 0))), (B + 3, .inl (ar 0, 16, .inl (fun _ => 0)))] (B + 4)) s.heap H _ ((B, .inr (1, [.int (nI b), .int (64 + nI b), .ref (B + 1), .int (64 + nI b), .int 0, .int 0, .null, .ref (B + 2), .ref (B + 3)])) :: (B + 1, .inl (ar 4, 4, .inr (.inr (.inr (.inr (va_up (fun _ => none) 0 (some (B + 4)))))))) :: (B + 2, .inl (ar 0, 16, .inl (fun _ => 0))) :: (B + 3, .inl (ar 0, 16, .inl (fun _ => 0))) :: poW ar B 0 (B + 4)) := h
  refine lv_iinc (v := 1) E1 E2 d_Br_addPorts_22 hl (k := 0) rfl rfl (by decide) rfl (fun ls hl => ?_)
  have hl : lv_has ls 2 [(1, .int 1), (0, .ref B)] := hl
  refine lv_goto E1 E2 d_Br_addPorts_25 rfl ?_
  refine lv_iload_n E1 E2 d_Br_addPorts_2 rfl (lv_at hl 0 rfl) ?_
  refine lv_iconst (v := 4) E1 E2 d_Br_addPorts_3 (by decide) ?_
  refine lv_icmp_ge E1 E2 d_Br_addPorts_4 rfl (fun hz => absurd hz (by decide)) (fun _ => ?_)
  refine lv_aload_n E1 E2 d_Br_addPorts_7 rfl (lv_at hl 1 rfl) ?_
  refine rw_get F h 0 rfl rfl i_Br 2 (by decide) rfl k_38 rfl d_Br_addPorts_8 ?_
  refine lv_iload_n E1 E2 d_Br_addPorts_11 rfl (lv_at hl 0 rfl) ?_
  refine rw_le (fun hle => ?_)
  have hlt : B + 18 < H.size := (h.1 18 _ rfl).lt
  have hn : H.size = B + 19 := by
    have h9 : H.size ≤ s.heap.size + 15 := hle
    omega
  refine rw_new F h hA hn i_Po t_Po t_Po_ok k_34 k_70 k_3 (ci := 2) rfl (fs := [.null, .int 0, .null, .int 0, .int 0, .null, .null, .int 0, .long 0, .int 0, .int 0, .int 0, .int 0, .int 0, .int 0, .int 0]) df_Po (by decide) (by decide) d_Br_addPorts_12 (fun H hn h => ?_)
  refine lv_dup E1 E2 d_Br_addPorts_15 rfl ?_
  refine lv_aload_n E1 E2 d_Br_addPorts_16 rfl (lv_at hl 1 rfl) ?_
  refine lv_iload_n E1 E2 d_Br_addPorts_17 rfl (lv_at hl 0 rfl) ?_
  have h : rw_H D (va_A [(B, .inr (1, brV b B)), (B + 1, .inl (ar 4, 4, .inr (.inr (.inr (.inr (fun _ => none)))))), (B + 2, .inl (ar 0, 16, .inl (fun _ => 0))), (B + 3, .inl (ar 0, 16, .inl (fun _ => 0)))] (B + 4)) s.heap H _ (((B, .inr (1, [.int (nI b), .int (64 + nI b), .ref (B + 1), .int (64 + nI b), .int 0, .int 0, .null, .ref (B + 2), .ref (B + 3)])) :: (B + 1, .inl (ar 4, 4, .inr (.inr (.inr (.inr (va_up (fun _ => none) 0 (some (B + 4)))))))) :: (B + 2, .inl (ar 0, 16, .inl (fun _ => 0))) :: (B + 3, .inl (ar 0, 16, .inl (fun _ => 0))) :: poW ar B 0 (B + 4)) ++ [(B + 19, .inr (2, [.null, .int 0, .null, .int 0, .int 0, .null, .null, .int 0, .long 0, .int 0, .int 0, .int 0, .int 0, .int 0, .int 0, .int 0]))]) := h
  refine rw_ctorA (k := 2) (As := [.ref B, .int (nI 1)]) (rest := [.ref (B + 19), .int 1, .ref (B + 1)]) F hO hzA hA hml hl.1 h hn (c_Po_init l D ar z (B + 19) (B + 20) B 1 (by omega)) k_73 k_3 k_71 k_72 rfl ⟨rfl, rfl⟩ (by decide) ⟨by decide, by decide⟩ rfl rfl (Nat.le_of_ble_eq_true rfl) d_Br_addPorts_18 ⟨by decide, by decide⟩ (fun H locs hn h => ?_)
  have h : rw_H D (va_A [(B, .inr (1, brV b B)), (B + 1, .inl (ar 4, 4, .inr (.inr (.inr (.inr (fun _ => none)))))), (B + 2, .inl (ar 0, 16, .inl (fun _ => 0))), (B + 3, .inl (ar 0, 16, .inl (fun _ => 0)))] (B + 4)) s.heap H _ ((B, .inr (1, [.int (nI b), .int (64 + nI b), .ref (B + 1), .int (64 + nI b), .int 0, .int 0, .null, .ref (B + 2), .ref (B + 3)])) :: (B + 1, .inl (ar 4, 4, .inr (.inr (.inr (.inr (va_up (fun _ => none) 0 (some (B + 4)))))))) :: (B + 2, .inl (ar 0, 16, .inl (fun _ => 0))) :: (B + 3, .inl (ar 0, 16, .inl (fun _ => 0))) :: (poW ar B 0 (B + 4) ++ poW ar B 1 (B + 19))) := h
  refine rw_astq F h 1 4 19 2 rfl rfl rfl rfl (i := 1) (by decide) (by decide) d_Br_addPorts_21 (fun H locs h => ?_)
  have h : rw_H D (va_A [(B, .inr (1, brV b B)), (B + 1, .inl (ar 4, 4, .inr (.inr (.inr (.inr (fun _ => none)))))), (B + 2, .inl (ar 0, 16, .inl (fun _ => 0))), (B + 3, .inl (ar 0, 16, .inl (fun _ => 0)))] (B + 4)) s.heap H _ ((B, .inr (1, [.int (nI b), .int (64 + nI b), .ref (B + 1), .int (64 + nI b), .int 0, .int 0, .null, .ref (B + 2), .ref (B + 3)])) :: (B + 1, .inl (ar 4, 4, .inr (.inr (.inr (.inr (va_up (va_up (fun _ => none) 0 (some (B + 4))) 1 (some (B + 19)))))))) :: (B + 2, .inl (ar 0, 16, .inl (fun _ => 0))) :: (B + 3, .inl (ar 0, 16, .inl (fun _ => 0))) :: (poW ar B 0 (B + 4) ++ poW ar B 1 (B + 19))) := h
  refine lv_iinc (v := 2) E1 E2 d_Br_addPorts_22 hl (k := 0) rfl rfl (by decide) rfl (fun ls hl => ?_)
  have hl : lv_has ls 2 [(1, .int 2), (0, .ref B)] := hl
  refine lv_goto E1 E2 d_Br_addPorts_25 rfl ?_
  refine lv_iload_n E1 E2 d_Br_addPorts_2 rfl (lv_at hl 0 rfl) ?_
  refine lv_iconst (v := 4) E1 E2 d_Br_addPorts_3 (by decide) ?_
  refine lv_icmp_ge E1 E2 d_Br_addPorts_4 rfl (fun hz => absurd hz (by decide)) (fun _ => ?_)
  refine lv_aload_n E1 E2 d_Br_addPorts_7 rfl (lv_at hl 1 rfl) ?_
  refine rw_get F h 0 rfl rfl i_Br 2 (by decide) rfl k_38 rfl d_Br_addPorts_8 ?_
  refine lv_iload_n E1 E2 d_Br_addPorts_11 rfl (lv_at hl 0 rfl) ?_
  refine rw_le (fun hle => ?_)
  have hlt : B + 33 < H.size := (h.1 33 _ rfl).lt
  have hn : H.size = B + 34 := by
    have h9 : H.size ≤ s.heap.size + 30 := hle
    omega
  refine rw_new F h hA hn i_Po t_Po t_Po_ok k_34 k_70 k_3 (ci := 2) rfl (fs := [.null, .int 0, .null, .int 0, .int 0, .null, .null, .int 0, .long 0, .int 0, .int 0, .int 0, .int 0, .int 0, .int 0, .int 0]) df_Po (by decide) (by decide) d_Br_addPorts_12 (fun H hn h => ?_)
  refine lv_dup E1 E2 d_Br_addPorts_15 rfl ?_
  refine lv_aload_n E1 E2 d_Br_addPorts_16 rfl (lv_at hl 1 rfl) ?_
  refine lv_iload_n E1 E2 d_Br_addPorts_17 rfl (lv_at hl 0 rfl) ?_
  have h : rw_H D (va_A [(B, .inr (1, brV b B)), (B + 1, .inl (ar 4, 4, .inr (.inr (.inr (.inr (fun _ => none)))))), (B + 2, .inl (ar 0, 16, .inl (fun _ => 0))), (B + 3, .inl (ar 0, 16, .inl (fun _ => 0)))] (B + 4)) s.heap H _ (((B, .inr (1, [.int (nI b), .int (64 + nI b), .ref (B + 1), .int (64 + nI b), .int 0, .int 0, .null, .ref (B + 2), .ref (B + 3)])) :: (B + 1, .inl (ar 4, 4, .inr (.inr (.inr (.inr (va_up (va_up (fun _ => none) 0 (some (B + 4))) 1 (some (B + 19)))))))) :: (B + 2, .inl (ar 0, 16, .inl (fun _ => 0))) :: (B + 3, .inl (ar 0, 16, .inl (fun _ => 0))) :: (poW ar B 0 (B + 4) ++ poW ar B 1 (B + 19))) ++ [(B + 34, .inr (2, [.null, .int 0, .null, .int 0, .int 0, .null, .null, .int 0, .long 0, .int 0, .int 0, .int 0, .int 0, .int 0, .int 0, .int 0]))]) := h
  refine rw_ctorA (k := 2) (As := [.ref B, .int (nI 2)]) (rest := [.ref (B + 34), .int 2, .ref (B + 1)]) F hO hzA hA hml hl.1 h hn (c_Po_init l D ar z (B + 34) (B + 35) B 2 (by omega)) k_73 k_3 k_71 k_72 rfl ⟨rfl, rfl⟩ (by decide) ⟨by decide, by decide⟩ rfl rfl (Nat.le_of_ble_eq_true rfl) d_Br_addPorts_18 ⟨by decide, by decide⟩ (fun H locs hn h => ?_)
  have h : rw_H D (va_A [(B, .inr (1, brV b B)), (B + 1, .inl (ar 4, 4, .inr (.inr (.inr (.inr (fun _ => none)))))), (B + 2, .inl (ar 0, 16, .inl (fun _ => 0))), (B + 3, .inl (ar 0, 16, .inl (fun _ => 0)))] (B + 4)) s.heap H _ ((B, .inr (1, [.int (nI b), .int (64 + nI b), .ref (B + 1), .int (64 + nI b), .int 0, .int 0, .null, .ref (B + 2), .ref (B + 3)])) :: (B + 1, .inl (ar 4, 4, .inr (.inr (.inr (.inr (va_up (va_up (fun _ => none) 0 (some (B + 4))) 1 (some (B + 19)))))))) :: (B + 2, .inl (ar 0, 16, .inl (fun _ => 0))) :: (B + 3, .inl (ar 0, 16, .inl (fun _ => 0))) :: ((poW ar B 0 (B + 4) ++ poW ar B 1 (B + 19)) ++ poW ar B 2 (B + 34))) := h
  refine rw_astq F h 1 4 34 2 rfl rfl rfl rfl (i := 2) (by decide) (by decide) d_Br_addPorts_21 (fun H locs h => ?_)
  have h : rw_H D (va_A [(B, .inr (1, brV b B)), (B + 1, .inl (ar 4, 4, .inr (.inr (.inr (.inr (fun _ => none)))))), (B + 2, .inl (ar 0, 16, .inl (fun _ => 0))), (B + 3, .inl (ar 0, 16, .inl (fun _ => 0)))] (B + 4)) s.heap H _ ((B, .inr (1, [.int (nI b), .int (64 + nI b), .ref (B + 1), .int (64 + nI b), .int 0, .int 0, .null, .ref (B + 2), .ref (B + 3)])) :: (B + 1, .inl (ar 4, 4, .inr (.inr (.inr (.inr (va_up (va_up (va_up (fun _ => none) 0 (some (B + 4))) 1 (some (B + 19))) 2 (some (B + 34)))))))) :: (B + 2, .inl (ar 0, 16, .inl (fun _ => 0))) :: (B + 3, .inl (ar 0, 16, .inl (fun _ => 0))) :: ((poW ar B 0 (B + 4) ++ poW ar B 1 (B + 19)) ++ poW ar B 2 (B + 34))) := h
  refine lv_iinc (v := 3) E1 E2 d_Br_addPorts_22 hl (k := 0) rfl rfl (by decide) rfl (fun ls hl => ?_)
  have hl : lv_has ls 2 [(1, .int 3), (0, .ref B)] := hl
  refine lv_goto E1 E2 d_Br_addPorts_25 rfl ?_
  refine lv_iload_n E1 E2 d_Br_addPorts_2 rfl (lv_at hl 0 rfl) ?_
  refine lv_iconst (v := 4) E1 E2 d_Br_addPorts_3 (by decide) ?_
  refine lv_icmp_ge E1 E2 d_Br_addPorts_4 rfl (fun hz => absurd hz (by decide)) (fun _ => ?_)
  refine lv_aload_n E1 E2 d_Br_addPorts_7 rfl (lv_at hl 1 rfl) ?_
  refine rw_get F h 0 rfl rfl i_Br 2 (by decide) rfl k_38 rfl d_Br_addPorts_8 ?_
  refine lv_iload_n E1 E2 d_Br_addPorts_11 rfl (lv_at hl 0 rfl) ?_
  refine rw_le (fun hle => ?_)
  have hlt : B + 48 < H.size := (h.1 48 _ rfl).lt
  have hn : H.size = B + 49 := by
    have h9 : H.size ≤ s.heap.size + 45 := hle
    omega
  refine rw_new F h hA hn i_Po t_Po t_Po_ok k_34 k_70 k_3 (ci := 2) rfl (fs := [.null, .int 0, .null, .int 0, .int 0, .null, .null, .int 0, .long 0, .int 0, .int 0, .int 0, .int 0, .int 0, .int 0, .int 0]) df_Po (by decide) (by decide) d_Br_addPorts_12 (fun H hn h => ?_)
  refine lv_dup E1 E2 d_Br_addPorts_15 rfl ?_
  refine lv_aload_n E1 E2 d_Br_addPorts_16 rfl (lv_at hl 1 rfl) ?_
  refine lv_iload_n E1 E2 d_Br_addPorts_17 rfl (lv_at hl 0 rfl) ?_
  have h : rw_H D (va_A [(B, .inr (1, brV b B)), (B + 1, .inl (ar 4, 4, .inr (.inr (.inr (.inr (fun _ => none)))))), (B + 2, .inl (ar 0, 16, .inl (fun _ => 0))), (B + 3, .inl (ar 0, 16, .inl (fun _ => 0)))] (B + 4)) s.heap H _ (((B, .inr (1, [.int (nI b), .int (64 + nI b), .ref (B + 1), .int (64 + nI b), .int 0, .int 0, .null, .ref (B + 2), .ref (B + 3)])) :: (B + 1, .inl (ar 4, 4, .inr (.inr (.inr (.inr (va_up (va_up (va_up (fun _ => none) 0 (some (B + 4))) 1 (some (B + 19))) 2 (some (B + 34)))))))) :: (B + 2, .inl (ar 0, 16, .inl (fun _ => 0))) :: (B + 3, .inl (ar 0, 16, .inl (fun _ => 0))) :: ((poW ar B 0 (B + 4) ++ poW ar B 1 (B + 19)) ++ poW ar B 2 (B + 34))) ++ [(B + 49, .inr (2, [.null, .int 0, .null, .int 0, .int 0, .null, .null, .int 0, .long 0, .int 0, .int 0, .int 0, .int 0, .int 0, .int 0, .int 0]))]) := h
  refine rw_ctorA (k := 2) (As := [.ref B, .int (nI 3)]) (rest := [.ref (B + 49), .int 3, .ref (B + 1)]) F hO hzA hA hml hl.1 h hn (c_Po_init l D ar z (B + 49) (B + 50) B 3 (by omega)) k_73 k_3 k_71 k_72 rfl ⟨rfl, rfl⟩ (by decide) ⟨by decide, by decide⟩ rfl rfl (Nat.le_of_ble_eq_true rfl) d_Br_addPorts_18 ⟨by decide, by decide⟩ (fun H locs hn h => ?_)
  have h : rw_H D (va_A [(B, .inr (1, brV b B)), (B + 1, .inl (ar 4, 4, .inr (.inr (.inr (.inr (fun _ => none)))))), (B + 2, .inl (ar 0, 16, .inl (fun _ => 0))), (B + 3, .inl (ar 0, 16, .inl (fun _ => 0)))] (B + 4)) s.heap H _ ((B, .inr (1, [.int (nI b), .int (64 + nI b), .ref (B + 1), .int (64 + nI b), .int 0, .int 0, .null, .ref (B + 2), .ref (B + 3)])) :: (B + 1, .inl (ar 4, 4, .inr (.inr (.inr (.inr (va_up (va_up (va_up (fun _ => none) 0 (some (B + 4))) 1 (some (B + 19))) 2 (some (B + 34)))))))) :: (B + 2, .inl (ar 0, 16, .inl (fun _ => 0))) :: (B + 3, .inl (ar 0, 16, .inl (fun _ => 0))) :: (((poW ar B 0 (B + 4) ++ poW ar B 1 (B + 19)) ++ poW ar B 2 (B + 34)) ++ poW ar B 3 (B + 49))) := h
  refine rw_astq F h 1 4 49 2 rfl rfl rfl rfl (i := 3) (by decide) (by decide) d_Br_addPorts_21 (fun H locs h => ?_)
  have h : rw_H D (va_A [(B, .inr (1, brV b B)), (B + 1, .inl (ar 4, 4, .inr (.inr (.inr (.inr (fun _ => none)))))), (B + 2, .inl (ar 0, 16, .inl (fun _ => 0))), (B + 3, .inl (ar 0, 16, .inl (fun _ => 0)))] (B + 4)) s.heap H _ ((B, .inr (1, [.int (nI b), .int (64 + nI b), .ref (B + 1), .int (64 + nI b), .int 0, .int 0, .null, .ref (B + 2), .ref (B + 3)])) :: (B + 1, .inl (ar 4, 4, .inr (.inr (.inr (.inr (va_up (va_up (va_up (va_up (fun _ => none) 0 (some (B + 4))) 1 (some (B + 19))) 2 (some (B + 34))) 3 (some (B + 49)))))))) :: (B + 2, .inl (ar 0, 16, .inl (fun _ => 0))) :: (B + 3, .inl (ar 0, 16, .inl (fun _ => 0))) :: (((poW ar B 0 (B + 4) ++ poW ar B 1 (B + 19)) ++ poW ar B 2 (B + 34)) ++ poW ar B 3 (B + 49))) := h
  refine lv_iinc (v := 4) E1 E2 d_Br_addPorts_22 hl (k := 0) rfl rfl (by decide) rfl (fun ls hl => ?_)
  have hl : lv_has ls 2 [(1, .int 4), (0, .ref B)] := hl
  refine lv_goto E1 E2 d_Br_addPorts_25 rfl ?_
  refine lv_iload_n E1 E2 d_Br_addPorts_2 rfl (lv_at hl 0 rfl) ?_
  refine lv_iconst (v := 4) E1 E2 d_Br_addPorts_3 (by decide) ?_
  refine lv_icmp_ge E1 E2 d_Br_addPorts_4 rfl (fun _ => ?_) (fun hz => absurd (by decide) hz)
  refine rw_le (fun hle => ?_)
  have hlt : B + 63 < H.size := (h.1 63 _ rfl).lt
  have hn : H.size = B + 4 + 60 := by
    have h9 : H.size ≤ s.heap.size + 60 := hle
    omega
  have h := rw_congr h (q0 := 1) rfl (g := poF (B + 4)) (poF_4 (B + 4))
  have h : rw_H D (va_A [(B, .inr (1, brV b B)), (B + 1, .inl (ar 4, 4, .inr (.inr (.inr (.inr (fun _ => none)))))), (B + 2, .inl (ar 0, 16, .inl (fun _ => 0))), (B + 3, .inl (ar 0, 16, .inl (fun _ => 0)))] (B + 4)) s.heap H locs (brW ar b B) := by
    have e1 : ∀ X1 X2 X3 X4 : va_W, ((X1 ++ X2) ++ X3) ++ X4 = X1 ++ (X2 ++ (X3 ++ X4)) := fun X1 X2 X3 X4 => by simp
    unfold brW
    rw [← e1]
    exact h
  exact rw_ret F hr hk h hn d_Br_addPorts_28
