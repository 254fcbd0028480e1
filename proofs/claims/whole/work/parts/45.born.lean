/-! the class's cells when its constructor is done: the world by index -/
def ne_ad (o n : Nat) (k x : Nat) : Nat := match k with
  | 0 => o
  | 1 => n
  | 2 => n + 2 + 64 * x
  | 3 => n + 2 + 64 * x + 1
  | 4 => n + 2 + 64 * x + 2
  | 5 => n + 2 + 64 * x + 3
  | 6 => n + 2 + 64 * (x / 4) + 4 + 15 * (x % 4)
  | 7 => n + 2 + 64 * (x / 4) + 4 + 15 * (x % 4) + 1
  | 8 => n + 2 + 64 * (x / 4) + 4 + 15 * (x % 4) + 2
  | 9 => n + 2 + 64 * (x / 12 / 4) + 4 + 15 * (x / 12 % 4) + 3 + x % 12
  | 10 => n + 1
  | 11 => n + 322 + 2 * x
  | 12 => n + 322 + 2 * x + 1
  | _ => 0
def ne_of (k x : Nat) : Nat := match k with
  | 0 => 1000
  | 1 => 0
  | 2 => 2 + 64 * x
  | 3 => 2 + 64 * x + 1
  | 4 => 2 + 64 * x + 2
  | 5 => 2 + 64 * x + 3
  | 6 => 2 + 64 * (x / 4) + 4 + 15 * (x % 4)
  | 7 => 2 + 64 * (x / 4) + 4 + 15 * (x % 4) + 1
  | 8 => 2 + 64 * (x / 4) + 4 + 15 * (x % 4) + 2
  | 9 => 2 + 64 * (x / 12 / 4) + 4 + 15 * (x / 12 % 4) + 3 + x % 12
  | 10 => 1
  | 11 => 322 + 2 * x
  | 12 => 322 + 2 * x + 1
  | _ => 2000
def ne_nd : List Nat → Bool
  | [] => true
  | a :: l => !(l.contains a) && ne_nd l
set_option maxRecDepth 100000 in
theorem ne_ndq : ne_nd ((bn_ix 0).map (fun i => ne_of i.1 i.2)) = true := by decide +kernel
theorem ne_ndi {l : List Nat} (h : ne_nd l = true) : ∀ i j : Nat, ∀ a : Nat, l[i]? = some a → l[j]? = some a → i = j := by
  induction l with
  | nil => intro i j a hi; simp at hi
  | cons b l ih =>
    simp only [ne_nd, Bool.and_eq_true, Bool.not_eq_true', List.contains_eq_mem, decide_eq_false_iff_not] at h
    intro i j a hi hj
    cases i with
    | zero =>
      cases j with
      | zero => rfl
      | succ j =>
        simp at hi hj
        subst hi
        exact absurd (List.mem_of_getElem? hj) h.1
    | succ i =>
      cases j with
      | zero =>
        simp at hi hj
        subst hj
        exact absurd (List.mem_of_getElem? hi) h.1
      | succ j =>
        simp at hi hj
        rw [ih h.2 i j a hi hj]
theorem ne_ix {k x : Nat} (h : (k, x) ∈ bn_ix 0) : (k = 0 ∧ x = 0) ∨ (k = 1 ∧ x = 0) ∨ (k = 10 ∧ x = 0) ∨ (k = 2 ∧ x < 5) ∨ (k = 3 ∧ x < 5) ∨ (k = 4 ∧ x < 5) ∨ (k = 5 ∧ x < 5) ∨ (k = 6 ∧ x < 20) ∨ (k = 7 ∧ x < 20) ∨ (k = 8 ∧ x < 20) ∨ (k = 9 ∧ x < 240) ∨ (k = 11 ∧ x < 8) ∨ (k = 12 ∧ x < 8) := by
  simp only [bn_ix, List.mem_cons, List.mem_append, List.mem_map, List.mem_range, Prod.mk.injEq] at h
  rcases h with h | h | h | ((((((((((⟨i, hi, e1, e2⟩ | ⟨i, hi, e1, e2⟩) | ⟨i, hi, e1, e2⟩) | ⟨i, hi, e1, e2⟩) | ⟨i, hi, e1, e2⟩) | ⟨i, hi, e1, e2⟩) | ⟨i, hi, e1, e2⟩) | ⟨i, hi, e1, e2⟩) | ⟨i, hi, e1, e2⟩) | ⟨i, hi, e1, e2⟩) | ⟨i, hi, e1, e2⟩)
  · exact Or.inl h
  · exact Or.inr (Or.inl h)
  · exact Or.inr (Or.inr (Or.inl h))
  · subst e1 e2; exact Or.inr (Or.inr (Or.inr (Or.inl ⟨rfl, hi⟩)))
  · subst e1 e2; exact Or.inr (Or.inr (Or.inr (Or.inr (Or.inl ⟨rfl, hi⟩))))
  · subst e1 e2; exact Or.inr (Or.inr (Or.inr (Or.inr (Or.inr (Or.inl ⟨rfl, hi⟩)))))
  · subst e1 e2; exact Or.inr (Or.inr (Or.inr (Or.inr (Or.inr (Or.inr (Or.inl ⟨rfl, hi⟩))))))
  · subst e1 e2; exact Or.inr (Or.inr (Or.inr (Or.inr (Or.inr (Or.inr (Or.inr (Or.inl ⟨rfl, hi⟩)))))))
  · subst e1 e2; exact Or.inr (Or.inr (Or.inr (Or.inr (Or.inr (Or.inr (Or.inr (Or.inr (Or.inl ⟨rfl, hi⟩))))))))
  · subst e1 e2; exact Or.inr (Or.inr (Or.inr (Or.inr (Or.inr (Or.inr (Or.inr (Or.inr (Or.inr (Or.inl ⟨rfl, hi⟩)))))))))
  · subst e1 e2; exact Or.inr (Or.inr (Or.inr (Or.inr (Or.inr (Or.inr (Or.inr (Or.inr (Or.inr (Or.inr (Or.inl ⟨rfl, hi⟩))))))))))
  · subst e1 e2; exact Or.inr (Or.inr (Or.inr (Or.inr (Or.inr (Or.inr (Or.inr (Or.inr (Or.inr (Or.inr (Or.inr (Or.inl ⟨rfl, hi⟩)))))))))))
  · subst e1 e2; exact Or.inr (Or.inr (Or.inr (Or.inr (Or.inr (Or.inr (Or.inr (Or.inr (Or.inr (Or.inr (Or.inr (Or.inr ⟨rfl, hi⟩)))))))))))
  · omega
theorem ne_ad_of {o n k x : Nat} (h : (k, x) ∈ bn_ix 0) (hk : ¬ k = 0) : ne_ad o n k x = n + ne_of k x := by
  rcases ne_ix h with ⟨rfl, _⟩ | ⟨rfl, _⟩ | ⟨rfl, _⟩ | ⟨rfl, _⟩ | ⟨rfl, _⟩ | ⟨rfl, _⟩ | ⟨rfl, _⟩ | ⟨rfl, _⟩ | ⟨rfl, _⟩ | ⟨rfl, _⟩ | ⟨rfl, _⟩ | ⟨rfl, _⟩ | ⟨rfl, _⟩ <;> first | exact absurd rfl hk | (simp only [ne_ad, ne_of]; done) | (simp only [ne_ad, ne_of]; omega)
theorem ne_inj {o n : Nat} (ho : o < n) {i j k x k' x' : Nat} (hi : (bn_ix 0)[i]? = some (k, x)) (hj : (bn_ix 0)[j]? = some (k', x')) (he : ne_ad o n k x = ne_ad o n k' x') : i = j := by
  have hof : ne_of k x = ne_of k' x' := by
    have m1 := List.mem_of_getElem? hi
    have m2 := List.mem_of_getElem? hj
    by_cases e1 : k = 0
    · by_cases e2 : k' = 0
      · rw [e1, e2]; rfl
      · rw [ne_ad_of m2 e2, e1] at he
        have he : o = n + ne_of k' x' := he
        omega
    · by_cases e2 : k' = 0
      · rw [ne_ad_of m1 e1, e2] at he
        have he : n + ne_of k x = o := he
        omega
      · rw [ne_ad_of m1 e1, ne_ad_of m2 e2] at he
        omega
  refine ne_ndi ne_ndq i j (ne_of k x) ?_ ?_
  · rw [List.getElem?_map, hi]; rfl
  · rw [List.getElem?_map, hj, hof]; rfl
theorem ne_D {D : va_G} {ar : Nat → ClassId} {o n : Nat} (ho : o < n) (N : bn_S) (A : Nat → Prop) (hA : ∀ a : Nat, a = o ∨ n ≤ a → A a) : va_D A (bn_ws (bn_y D ar (ne_ad o n) 0) N) := by
  refine ⟨fun i j p q hi hj hpq => ?_, fun i p hi => ?_⟩
  · obtain ⟨k, x, h1, rfl⟩ := bn_wl_of hi
    obtain ⟨k', x', h2, rfl⟩ := bn_wl_of hj
    exact ne_inj ho h1 h2 hpq
  · obtain ⟨k, x, h1, rfl⟩ := bn_wl_of hi
    apply hA
    have m1 := List.mem_of_getElem? h1
    by_cases e1 : k = 0
    · subst e1
      exact Or.inl rfl
    · right
      show n ≤ ne_ad o n k x
      rw [ne_ad_of m1 e1]
      omega
/-- the class's first state -/
def ne_N : bn_S := (fun c x => if c = 1 then 64 + nI x else if c = 2 then 64 + nI x else if c = 5 then 10 else if c = 6 then 3 else 0, fun c _ => if c = 8 then 1 else if c = 12 then 1 else 0, fun _ _ => 0, fun _ _ => none)
theorem ne_wf : bn_wf 0 ne_N := by
  refine ⟨fun c x => ?_, fun c x y h => by cases h⟩
  show bn_uL c ≤ (if c = 8 then 1 else if c = 12 then 1 else 0) ∧ (if c = 8 then 1 else if c = 12 then 1 else 0) < bn_uB c
  unfold bn_uL bn_uB
  by_cases e8 : c = 8
  · subst e8; decide
  · by_cases e12 : c = 12
    · subst e12; decide
    · rw [if_neg e8, if_neg e12, if_neg e8, if_neg e12]
      refine ⟨Nat.le_refl 0, ?_⟩
      repeat' split
      all_goals omega
theorem ne_P {D : va_G} {ar : Nat → ClassId} {o n : Nat} {H : Heap} (hP : va_P D bn_cl (neW ar o n) H) : va_P D bn_cl (bn_ws (bn_y D ar (ne_ad o n) 0) ne_N) H := by
  have hin : ∀ e ∈ neW ar o n, va_at D bn_cl e H := fun e he => by
    obtain ⟨i, hi⟩ := List.getElem?_of_mem he
    exact hP i e hi
  have hbr : ∀ b : Nat, b < 5 → ∀ e ∈ brW ar b (n + 2 + 64 * b), e ∈ neW ar o n := fun b hb e he => by
    have h : b = 0 ∨ b = 1 ∨ b = 2 ∨ b = 3 ∨ b = 4 := by omega
    rcases h with rfl | rfl | rfl | rfl | rfl
    · have he : e ∈ brW ar 0 (n + 2) := he
      simp [neW, he]
    · have he : e ∈ brW ar 1 (n + 66) := he
      simp [neW, he]
    · have he : e ∈ brW ar 2 (n + 130) := he
      simp [neW, he]
    · have he : e ∈ brW ar 3 (n + 194) := he
      simp [neW, he]
    · have he : e ∈ brW ar 4 (n + 258) := he
      simp [neW, he]
  have hst : ∀ j : Nat, j < 8 → ∀ e ∈ stW ar (n + 322 + 2 * j), e ∈ neW ar o n := fun j hj e he => by
    have h : j = 0 ∨ j = 1 ∨ j = 2 ∨ j = 3 ∨ j = 4 ∨ j = 5 ∨ j = 6 ∨ j = 7 := by omega
    rcases h with rfl | rfl | rfl | rfl | rfl | rfl | rfl | rfl
    · have he : e ∈ stW ar (n + 322) := he
      simp [neW, he]
    · have he : e ∈ stW ar (n + 324) := he
      simp [neW, he]
    · have he : e ∈ stW ar (n + 326) := he
      simp [neW, he]
    · have he : e ∈ stW ar (n + 328) := he
      simp [neW, he]
    · have he : e ∈ stW ar (n + 330) := he
      simp [neW, he]
    · have he : e ∈ stW ar (n + 332) := he
      simp [neW, he]
    · have he : e ∈ stW ar (n + 334) := he
      simp [neW, he]
    · have he : e ∈ stW ar (n + 336) := he
      simp [neW, he]
  have hpo : ∀ x : Nat, x < 20 → ∀ e ∈ poW ar (n + 2 + 64 * (x / 4)) (x % 4) (n + 2 + 64 * (x / 4) + 4 + 15 * (x % 4)), va_at D bn_cl e H := fun x hx e he => by
    refine hin e (hbr (x / 4) (by omega) e ?_)
    generalize n + 2 + 64 * (x / 4) = B at he ⊢
    have h : x % 4 = 0 ∨ x % 4 = 1 ∨ x % 4 = 2 ∨ x % 4 = 3 := by omega
    rcases h with h | h | h | h
    · rw [h] at he
      have he : e ∈ poW ar B 0 (B + 4) := he
      simp [brW, he]
    · rw [h] at he
      have he : e ∈ poW ar B 1 (B + 19) := he
      simp [brW, he]
    · rw [h] at he
      have he : e ∈ poW ar B 2 (B + 34) := he
      simp [brW, he]
    · rw [h] at he
      have he : e ∈ poW ar B 3 (B + 49) := he
      simp [brW, he]
  intro i e he
  obtain ⟨k, x, h1, rfl⟩ := bn_wl_of he
  have hm := List.mem_of_getElem? h1
  clear he h1
  rcases ne_ix hm with ⟨rfl, rfl⟩ | ⟨rfl, rfl⟩ | ⟨rfl, rfl⟩ | ⟨rfl, hx⟩ | ⟨rfl, hx⟩ | ⟨rfl, hx⟩ | ⟨rfl, hx⟩ | ⟨rfl, hx⟩ | ⟨rfl, hx⟩ | ⟨rfl, hx⟩ | ⟨rfl, hx⟩ | ⟨rfl, hx⟩ | ⟨rfl, hx⟩
  · exact hin _ (List.mem_cons_self ..)
  · exact hin _ (List.mem_cons_of_mem _ (List.mem_cons_self ..))
  · exact hin _ (List.mem_cons_of_mem _ (List.mem_cons_of_mem _ (List.mem_cons_self ..)))
  · exact hin _ (hbr x hx _ (List.mem_cons_self ..))
  · have h2 : H[n + 2 + 64 * x + 1]? = some (vp_cell (ar 4) (4, .inr (.inr (.inr (.inr (poF (n + 2 + 64 * x + 4))))))) := hin _ (hbr x hx _ (List.mem_cons_of_mem _ (List.mem_cons_self ..)))
    show H[n + 2 + 64 * x + 1]? = some (vp_cell (ar 4) (4, .inr (.inr (.inr (.inr (fun i => some (ne_ad o n 6 (4 * x + i))))))))
    rw [h2, vp_cell_q, vp_cell_q]
    congr 1
    refine rw_arr (fun i hi => ?_)
    have e1 : n + 2 + 64 * x + 4 + 15 * i = n + 2 + 64 * ((4 * x + i) / 4) + 4 + 15 * ((4 * x + i) % 4) := by omega
    show va_rf (some (n + 2 + 64 * x + 4 + 15 * i)) = va_rf (some (n + 2 + 64 * ((4 * x + i) / 4) + 4 + 15 * ((4 * x + i) % 4)))
    rw [e1]
  · exact hin _ (hbr x hx _ (List.mem_cons_of_mem _ (List.mem_cons_of_mem _ (List.mem_cons_self ..))))
  · exact hin _ (hbr x hx _ (List.mem_cons_of_mem _ (List.mem_cons_of_mem _ (List.mem_cons_of_mem _ (List.mem_cons_self ..)))))
  · exact hpo x hx _ (List.mem_cons_self ..)
  · exact hpo x hx _ (List.mem_cons_of_mem _ (List.mem_cons_self ..))
  · have h2 : H[n + 2 + 64 * (x / 4) + 4 + 15 * (x % 4) + 2]? = some (vp_cell (ar 5) (12, .inr (.inr (.inr (.inr (rgF (n + 2 + 64 * (x / 4) + 4 + 15 * (x % 4) + 3))))))) := hpo x hx _ (List.mem_cons_of_mem _ (List.mem_cons_of_mem _ (List.mem_cons_self ..)))
    show H[n + 2 + 64 * (x / 4) + 4 + 15 * (x % 4) + 2]? = some (vp_cell (ar 5) (12, .inr (.inr (.inr (.inr (fun i => some (ne_ad o n 9 (12 * x + i))))))))
    rw [h2, vp_cell_q, vp_cell_q]
    congr 1
    refine rw_arr (fun i hi => ?_)
    have e1 : (12 * x + i) / 12 = x := by omega
    have e2 : (12 * x + i) % 12 = i := by omega
    show va_rf (some (n + 2 + 64 * (x / 4) + 4 + 15 * (x % 4) + 3 + i)) = va_rf (some (n + 2 + 64 * ((12 * x + i) / 12 / 4) + 4 + 15 * ((12 * x + i) / 12 % 4) + 3 + (12 * x + i) % 12))
    rw [e1, e2]
  · refine hpo (x / 12) (by omega) _ (List.mem_cons_of_mem _ (List.mem_cons_of_mem _ (List.mem_cons_of_mem _ ?_)))
    exact List.mem_map.mpr ⟨x % 12, List.mem_range.mpr (by omega), rfl⟩
  · exact hin _ (hst x hx _ (List.mem_cons_self ..))
  · exact hin _ (hst x hx _ (List.mem_cons_of_mem _ (List.mem_cons_self ..)))
