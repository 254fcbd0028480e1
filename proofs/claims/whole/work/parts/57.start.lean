/-! the law's start: the class, the reference and the array out are made; then the loop -/
theorem lw_nef (k x : Nat) (h : (k, x) ∈ bn_ix 0) (hk : ¬ k = 0) : ne_of k x ≤ 337 := by
  rcases ne_ix h with ⟨rfl, _⟩ | ⟨rfl, _⟩ | ⟨rfl, _⟩ | ⟨rfl, _⟩ | ⟨rfl, _⟩ | ⟨rfl, _⟩ | ⟨rfl, _⟩ | ⟨rfl, _⟩ | ⟨rfl, _⟩ | ⟨rfl, _⟩ | ⟨rfl, _⟩ | ⟨rfl, _⟩ | ⟨rfl, _⟩ <;> first | exact absurd rfl hk | (simp only [ne_of]; done) | (simp only [ne_of]; omega)
theorem lw_nea {n k x : Nat} (h : (k, x) ∈ bn_ix 0) : n ≤ ne_ad n (n + 1) k x ∧ ne_ad n (n + 1) k x ≤ n + 338 := by
  by_cases e : k = 0
  · subst e
    exact ⟨Nat.le_refl n, by show n ≤ n + 338; omega⟩
  · have h1 := lw_nef k x h e
    rw [ne_ad_of h e]
    omega
theorem lw_moa {n k x : Nat} (h : (k, x) ∈ mo_ix) : n ≤ mo_ad n (n + 1) k x ∧ mo_ad n (n + 1) k x ≤ n + 30 := by
  have hk : k ≤ 30 := by
    simp [mo_ix] at h
    omega
  unfold mo_ad
  split <;> omega
theorem lw_born {D : va_G} {ar : Nat → ClassId} {H0 H : Heap} {locs : List Loc} {n : Nat} (hn : n = H0.size) (h : rw_H D (lw_A H0) H0 H locs ((neW ar n (n + 1) ++ bn_ws (mo_y D ar (mo_ad (n + 339) (n + 340))) mo_N) ++ [(n + 370, .inl (ar 1, 1, .inr (.inl (fun _ => 0))))])) : lw_I D ar (mo_ad (n + 339) (n + 340)) (n + 370) H0 H locs (ne_ad n (n + 1)) 0 ne_N mo_N (fun _ => 0) := by
  obtain ⟨hP, hD, hS⟩ := h
  have hall : ∀ x ∈ ((neW ar n (n + 1) ++ bn_ws (mo_y D ar (mo_ad (n + 339) (n + 340))) mo_N) ++ [(n + 370, .inl (ar 1, 1, .inr (.inl (fun _ => 0))))]), va_at D bn_cl x H := fun x hx => by
    obtain ⟨i, hi⟩ := List.getElem?_of_mem hx
    exact hP i x hi
  refine ⟨⟨ne_P (fun i q hi => hall q (by have := List.mem_of_getElem? hi; simp [this])), ne_D (by omega) ne_N _ (fun a ha => ?_), ne_wf⟩, ⟨fun i q hi => hall q (by have := List.mem_of_getElem? hi; exact List.mem_append_left _ (List.mem_append_right _ this)), ⟨fun i j x y hi hj hxy => ?_, fun i x hi => ?_⟩, mo_N_wf⟩, ⟨hall (n + 370, .inl (ar 1, 1, .inr (.inl (fun _ => 0)))) (by simp), by omega⟩, ⟨fun k x hx k' x' hx' he => ?_, fun k x hx he => ?_, fun k x hx he => ?_⟩, hS⟩
  · show H0.size ≤ a
    omega
  · have h1 : ∀ (i : Nat) (x : Nat × va_E), (bn_ws (mo_y D ar (mo_ad (n + 339) (n + 340))) mo_N)[i]? = some x → ((neW ar n (n + 1) ++ bn_ws (mo_y D ar (mo_ad (n + 339) (n + 340))) mo_N) ++ [(n + 370, .inl (ar 1, 1, .inr (.inl (fun _ => 0))))])[(neW ar n (n + 1)).length + i]? = some x := fun i x hi => by
      have hlt := (List.getElem?_eq_some_iff.mp hi).1
      rw [List.getElem?_append_left (by rw [List.length_append]; omega), List.getElem?_append_right (by omega), show (neW ar n (n + 1)).length + i - (neW ar n (n + 1)).length = i by omega]
      exact hi
    have h2 := hD.1 _ _ x y (h1 i x hi) (h1 j y hj) hxy
    omega
  · obtain ⟨k, z, h1, rfl⟩ := bn_wl_of hi
    have h2 : n + 339 ≤ mo_ad (n + 339) (n + 340) k z ∧ mo_ad (n + 339) (n + 340) k z ≤ n + 339 + 30 := lw_moa (n := n + 339) (List.mem_of_getElem? h1)
    show H0.size ≤ mo_ad (n + 339) (n + 340) k z
    omega
  · have h1 := lw_nea (n := n) hx
    have h2 : n + 339 ≤ mo_ad (n + 339) (n + 340) k' x' ∧ mo_ad (n + 339) (n + 340) k' x' ≤ n + 339 + 30 := lw_moa (n := n + 339) hx'
    have he : ne_ad n (n + 1) k x = mo_ad (n + 339) (n + 340) k' x' := he
    omega
  · have h1 := lw_nea (n := n) hx
    have he : ne_ad n (n + 1) k x = n + 370 := he
    omega
  · have h2 : n + 339 ≤ mo_ad (n + 339) (n + 340) k x ∧ mo_ad (n + 339) (n + 340) k x ≤ n + 339 + 30 := lw_moa (n := n + 339) hx
    have he : mo_ad (n + 339) (n + 340) k x = n + 370 := he
    omega
theorem df_Ne : ∀ j, j < 3 → defaultValue (t_Ne j) = vp_V [.null, .null, .int 0] j := by decide +kernel
theorem df_Mo : ∀ j, j < 32 → defaultValue (t_Mo j) = vp_V [.int 0, .int 0, .null, .null, .null, .null, .null, .null, .null, .null, .null, .null, .null, .null, .null, .null, .null, .null, .null, .null, .null, .null, .null, .null, .null, .null, .null, .null, .null, .null, .null, .null] j := by decide +kernel
set_option maxHeartbeats 4000000 in
set_option maxRecDepth 100000 in
theorem whole_start {p : Program} {e : Env} {s : State} {m : MethodId} {below : List Frame} {meth : Method} {c : Code} (l : Launch) (hfl : l.flags = flags0) {b L : Nat} {xs : Nat → Int32} (hL : L ≤ 2560) (C0 : lw_At p s m meth c b L xs) : W p l e room_1 s m #[Value.ref b] below meth c s.heap [] 0 0 (lw_Z below #[Value.ref b] s) (entryFrame m ([Value.ref b] : List Value).toArray 7) := by
  obtain ⟨E1, E2, hr, hml, hown, hts, hX, hbl, hlk, hgv⟩ := C0
  obtain ⟨D, ar, hK⟩ := lw_K hts
  have F : bn_F p s m #[Value.ref b] c code "BridgeNetLaw" (rw_Y D ar) := ⟨E1, E2, hown, fun w h => hts w (List.mem_filter.mp h).1, hK⟩
  have hO : bx_Og s.heap.size s := ⟨s, #[Value.ref b], hts, hgv, State.WarmedH.refl s, Nat.le_refl _, fun _ _ h => h⟩
  have hzA : ∀ a : Nat, a < s.heap.size → a < s.heap.size ∧ ¬ lw_A s.heap a := fun a ha => ⟨ha, Nat.not_le.mpr ha⟩
  have hE : lw_E p l s m c b L xs D ar := ⟨F, hml, hX, hbl, hO, hfl, hL⟩
  have hl := lv_entry ([Value.ref b] : List Value) (n := 7) (Nat.le_of_ble_eq_true rfl)
  rw [lg_entry_eq]
  generalize (lg_sl ([Value.ref b] : List Value) ++ List.replicate (7 - (lg_sl ([Value.ref b] : List Value)).length) Slot.unset).toArray = ls at hl ⊢
  have hl : lv_has ls 7 [(0, .ref b)] := hl
  have h : rw_H D (lw_A s.heap) s.heap s.heap [] [] := ⟨fun i q hi => by simp at hi, ⟨fun i j x y hi => by simp at hi, fun i x hi => by simp at hi⟩, va_S.rf⟩
  have hA : ∀ q : Nat, s.heap.size ≤ q → lw_A s.heap q := fun q hq => hq
  have hn : s.heap.size = s.heap.size := rfl
  refine rw_new F h hA hn i_Ne t_Ne t_Ne_ok k_17 k_18 k_1 (ci := 0) rfl (fs := [.null, .null, .int 0]) df_Ne (by decide) (by decide) d_law_0 (fun H hn h => ?_)
  refine lv_dup E1 E2 d_law_3 rfl ?_
  refine rw_ctorA (ws0 := []) (As := []) (rest := [.ref s.heap.size]) F hO hzA hA hml hl.1 h hn (c_Ne_init l D ar s.heap.size s.heap.size (s.heap.size + 1) (Nat.le_refl _)) k_21 k_1 k_19 k_20 rfl ⟨rfl, rfl⟩ (by decide) ⟨by decide, by decide⟩ rfl rfl (Nat.le_of_ble_eq_true rfl) d_law_4 ⟨by decide, by decide⟩ (fun H locs hn h => ?_)
  refine lv_astore_n E1 E2 d_law_7 rfl hl (by decide) rfl (fun ls hl => ?_)
  have hl : lv_has ls 7 [(1, .ref s.heap.size), (0, .ref b)] := hl
  refine rw_new F h hA hn i_Mo t_Mo t_Mo_ok k_691 k_692 k_7 (ci := 7) rfl (fs := [.int 0, .int 0, .null, .null, .null, .null, .null, .null, .null, .null, .null, .null, .null, .null, .null, .null, .null, .null, .null, .null, .null, .null, .null, .null, .null, .null, .null, .null, .null, .null, .null, .null]) df_Mo (by decide) (by decide) d_law_8 (fun H hn h => ?_)
  refine lv_dup E1 E2 d_law_11 rfl ?_
  refine rw_ctorA (ws0 := neW ar s.heap.size (s.heap.size + 1)) (As := []) (rest := [.ref (s.heap.size + 339)]) F hO hzA hA hml hl.1 h hn (c_Mo_init l D ar s.heap.size (s.heap.size + 339) (s.heap.size + 340)) k_695 k_7 k_693 k_694 rfl ⟨rfl, rfl⟩ (by decide) ⟨by decide, by decide⟩ rfl rfl (Nat.le_of_ble_eq_true rfl) d_law_12 ⟨by decide, by decide⟩ (fun H locs hn h => ?_)
  refine lv_astore_n E1 E2 d_law_15 rfl hl (by decide) rfl (fun ls hl => ?_)
  have hl : lv_has ls 7 [(2, .ref (s.heap.size + 339)), (1, .ref s.heap.size), (0, .ref b)] := hl
  refine lv_iconst (v := 1) E1 E2 d_law_16 (by decide) ?_
  refine rw_newa (atype := .long) F h hA hn k_218 rfl (t0 := 1) rfl (fun _ hz => by cases hz) (k := 1) (a0 := (1, .inr (.inl (fun _ => 0)))) (by rfl) (by decide) (by decide) (by decide) (by decide) (by decide) d_law_17 (fun H hn h => ?_)
  refine lv_astore_n E1 E2 d_law_19 rfl hl (by decide) rfl (fun ls hl => ?_)
  have hl : lv_has ls 7 [(3, .ref (s.heap.size + 370)), (2, .ref (s.heap.size + 339)), (1, .ref s.heap.size), (0, .ref b)] := hl
  refine lv_iconst (v := 0) E1 E2 d_law_20 (by decide) ?_
  refine lv_istore E1 E2 d_law_21 hl (by decide) rfl (fun ls hl => ?_)
  have hl : lv_has ls 7 [(4, .int (nI 0)), (3, .ref (s.heap.size + 370)), (2, .ref (mo_ad (s.heap.size + 339) (s.heap.size + 340) 0 0)), (1, .ref s.heap.size), (0, .ref b)] := hl
  have I := lw_born (n := s.heap.size) rfl h
  refine lw_loop (X := s.heap.size) hE hr hlk 512 0 371 10000 (by omega) (by omega) (by omega) (by omega) H _ _ _ ls (ne_ad s.heap.size (s.heap.size + 1)) 0 ne_N mo_N (fun _ => 0) I rm_0 rfl hl ?_ ?_
  · decide
  · decide
