/-! the class's world grows by a frame -/
abbrev fr_ad (ad : Nat → Nat → Nat) (nf q : Nat) : Nat → Nat → Nat := bn_up ad 13 nf q
def fr_N (N : bn_S) (nf a b c : Nat) (d : Int32) : bn_S := sI (sU (sU (sU N 10 nf a) 11 nf b) 12 nf c) 15 nf d
theorem fr_ix (nf : Nat) : bn_ix (nf + 1) = bn_ix nf ++ [(13, nf)] := by
  unfold bn_ix
  rw [List.range_succ (n := nf), List.map_append, ← List.append_assoc]
  rfl
theorem fr_mem {nf k x : Nat} (h : (k, x) ∈ bn_ix nf) : k < 13 ∨ (k = 13 ∧ x < nf) := by
  simp [bn_ix] at h
  omega
theorem fr_cell {ar : Nat → ClassId} {ad : Nat → Nat → Nat} {N : bn_S} {nf q a b c : Nat} {d : Int32} (hN : bn_wf nf N) {k x : Nat} (h : (k, x) ∈ bn_ix nf) : bn_c ar (fr_ad ad nf q) (fr_N N nf a b c d) k x = bn_c ar ad N k x := by
  have hm := fr_mem h
  have e1 : ∀ c' x' : Nat, ¬ c' = 15 → (fr_N N nf a b c d).1 c' x' = N.1 c' x' := fun c' x' hn => bn_up_c _ _ hn
  have e2 : ∀ c' x' : Nat, ¬ c' = 10 → ¬ c' = 11 → ¬ c' = 12 → (fr_N N nf a b c d).2.1 c' x' = N.2.1 c' x' := fun c' x' h1 h2 h3 => (bn_up_c _ _ h3).trans ((bn_up_c _ _ h2).trans (bn_up_c _ _ h1))
  have e3 : (fr_N N nf a b c d).2.2 = N.2.2 := rfl
  have e4 : ∀ c' x' : Nat, ¬ c' = 13 → fr_ad ad nf q c' x' = ad c' x' := fun c' x' hn => bn_up_c _ _ hn
  have e5 : ∀ c' : Nat, ¬ c' = 13 → fr_ad ad nf q c' = ad c' := fun c' hn => bn_up_cf _ _ hn
  have e6 : ∀ y : Nat, (N.2.2.2 5 x).map (fr_ad ad nf q 13) = (N.2.2.2 5 x).map (ad 13) := fun _ => by
    cases ho : N.2.2.2 5 x with
    | none => rfl
    | some y =>
      have hy : y < nf := hN.2 5 x y ho
      simp [bn_up, show ¬ y = nf by omega]
  have e7 : ∀ i c' : Nat, ¬ c' = 15 → (fr_N N nf a b c d).1 c' = N.1 c' := fun _ c' hn => bn_up_cf _ _ hn
  rcases hm with hm | ⟨rfl, hx⟩
  · rcases k with _ | _ | _ | _ | _ | _ | _ | _ | _ | _ | _ | _ | _ | k
    · simp [bn_c, e4, e2]
    · simp [bn_c, e5]
    · simp [bn_c, e1, e2, e3, e4, e5]
    · simp [bn_c, e5]
    · simp only [bn_c]
      have : (fun i => nI ((fr_N N nf a b c d).2.1 (x + 20) i)) = fun i => nI (N.2.1 (x + 20) i) := by
        funext i
        rw [e2 (x + 20) i (by omega) (by omega) (by omega)]
      rw [this]
    · simp only [bn_c]
      rw [e7 0 (x + 20) (by omega)]
    · simp [bn_c, e1, e2, e3, e4, e5]
    · simp [bn_c, e1, e2, e3, e4, e5]
    · simp [bn_c, e5]
    · simp only [bn_c]
      rw [e3, e6 0, e1 12 x (by decide), e1 13 x (by decide), e1 14 x (by decide), e2 5 x (by decide) (by decide) (by decide)]
    · simp [bn_c, e5]
    · simp [bn_c, e1, e2, e3, e4, e5]
    · simp [bn_c, e3]
    · omega
  · have e8 : ¬ x = nf := by omega
    have e9 : (fr_N N nf a b c d).1 15 x = N.1 15 x := bn_up_x _ _ e8
    have g1 : (fr_N N nf a b c d).2.1 10 x = N.2.1 10 x := by simp [fr_N, sI, sU, bn_up, e8]
    have g2 : (fr_N N nf a b c d).2.1 11 x = N.2.1 11 x := by simp [fr_N, sI, sU, bn_up, e8]
    have g3 : (fr_N N nf a b c d).2.1 12 x = N.2.1 12 x := by simp [fr_N, sI, sU, bn_up, e8]
    simp [bn_c, e9, g1, g2, g3]
theorem fr_ws {D : va_G} {ar : Nat → ClassId} {ad : Nat → Nat → Nat} {N : bn_S} {nf q a b c : Nat} {d : Int32} (hN : bn_wf nf N) : bn_ws (bn_y D ar (fr_ad ad nf q) (nf + 1)) (fr_N N nf a b c d) = bn_ws (bn_y D ar ad nf) N ++ [(q, .inr (6, [.int (nI a), .int (nI b), .int (nI c), .int d]))] := by
  show bn_wl (bn_ix (nf + 1)) _ _ = bn_wl (bn_ix nf) _ _ ++ _
  rw [fr_ix]
  unfold bn_wl
  rw [List.map_append]
  congr 1
  · apply List.map_congr_left
    intro i hi
    obtain ⟨k, x⟩ := i
    have hc := fr_cell (ar := ar) (ad := ad) (q := q) (a := a) (b := b) (c := c) (d := d) hN hi
    have ha : fr_ad ad nf q k x = ad k x := by
      rcases fr_mem hi with h1 | ⟨rfl, h1⟩
      · exact bn_up_c _ _ (by omega)
      · exact bn_up_x _ _ (by omega)
    show (fr_ad ad nf q k x, bn_c ar (fr_ad ad nf q) (fr_N N nf a b c d) k x) = (ad k x, bn_c ar ad N k x)
    rw [hc, ha]
  · simp [bn_c, fr_N, sI, sU, bn_up]
theorem fr_wf {N : bn_S} {nf a b c : Nat} {d : Int32} (hN : bn_wf nf N) (ha : a < 8) (hb : b < 10) (hc : c < 3) (hc0 : 1 ≤ c) : bn_wf (nf + 1) (fr_N N nf a b c d) := by
  have h0 : bn_wf (nf + 1) N := ⟨hN.1, fun c' x y hy => by
    have := hN.2 c' x y hy
    unfold bn_oB at this ⊢
    by_cases h3 : c' = 3
    · simp only [h3, if_true] at this ⊢; exact this
    · by_cases h5 : c' = 5
      · rw [if_neg h3, if_pos h5] at this ⊢; omega
      · rw [if_neg h3, if_neg h5] at this ⊢; exact this⟩
  exact bn_wf_U (bn_wf_U (bn_wf_U h0 10 nf (v := a) (Nat.zero_le _) ha) 11 nf (v := b) (Nat.zero_le _) hb) 12 nf (v := c) hc0 hc
theorem fr_A {nf q sz : Nat} {ad : Nat → Nat → Nat} (hq : sz ≤ q) {a : Nat} (h : bn_A (bn_ix (nf + 1)) (fr_ad ad nf q) sz a) : bn_A (bn_ix nf) ad sz a := by
  rcases h with ⟨k, x, hm, rfl⟩ | h
  · rw [fr_ix] at hm
    rcases List.mem_append.mp hm with hm | hm
    · refine Or.inl ⟨k, x, hm, ?_⟩
      rcases fr_mem hm with h1 | ⟨rfl, h1⟩
      · exact (bn_up_c _ _ (by omega)).symm
      · exact (bn_up_x _ _ (by omega)).symm
    · simp at hm
      rw [hm.1, hm.2]
      right
      simp [bn_up]
      exact hq
  · exact Or.inr h
theorem fr_A2 {nf q sz : Nat} {ad : Nat → Nat → Nat} {a : Nat} (h : bn_A (bn_ix nf) ad sz a) : bn_A (bn_ix (nf + 1)) (fr_ad ad nf q) sz a := by
  rcases h with ⟨k, x, hm, rfl⟩ | h
  · refine Or.inl ⟨k, x, by rw [fr_ix]; exact List.mem_append_left _ hm, ?_⟩
    rcases fr_mem hm with h1 | ⟨rfl, h1⟩
    · exact bn_up_c _ _ (by omega)
    · exact bn_up_x _ _ (by omega)
  · exact Or.inr h
