/-! array literals in the world's last cell -/
section RAL
variable {p : Program} {l : Launch} {e : Env} {R : Room} {s : State} {m : MethodId} {args : Array Value} {below : List Frame} {meth : Method} {c : Code} {H : Heap} {locs : List Loc} {cells slots : Nat} {Q : State → Prop}
variable {cc : ByteArray} {pc a k i t0 : Nat} {ls : Array Slot} {rest : List Value} {Y : bn_Y} {own : String} {A : Nat → Prop} {P : va_W} {cA : ClassId}
theorem rw_setL {α : Type} (P : List α) (x y : α) : (P ++ [x]).set P.length y = P ++ [y] := by
  rw [List.set_append_right _ _ (Nat.le_refl _)]
  simp
theorem rw_istL {f : Nat → Int32} {v : Int32} (F : bn_F p s m args c cc own Y) (h : rw_H Y.1 A s.heap H locs (P ++ [(a, .inl (cA, k, .inl f))])) (ht : Y.2.1[t0]? = some (cA, .int)) (hi : i < k) (hk : k < 2 ^ 31) (hdg : decode cc pc = .ok (.iastore, 1))
    (kk : ∀ (H1 : Heap) (locs1 : List Loc), rw_H Y.1 A s.heap H1 locs1 (P ++ [(a, .inl (cA, k, .inl (va_up f i v)))]) → W p l e R s m args below meth c H1 locs1 cells slots Q (F0 m (pc + 1) ls rest)) : W p l e R s m args below meth c H locs cells slots Q (F0 m pc ls (.int v :: .int (nI i) :: .ref a :: rest)) := by
  refine va_iast F.1 F.2.1 F.2.2.2.2 h.1 h.2.1 h.2.2 P.length t0 rw_at ht (vp_in_nI hi hk) hdg (fun H1 locs1 hP1 hD1 hS1 => ?_)
  have e1 : upd f (nI i).toNatClampNeg v = va_up f i v := by
    rw [nI_clamp (by omega)]
    funext j
    simp [upd, va_up]
  rw [e1, rw_setL] at hP1 hD1
  exact kk H1 locs1 ⟨hP1, hD1, hS1⟩
theorem rw_congrI {D : va_G} {H0 : Heap} {f g : Nat → Int32} (h : rw_H D A H0 H locs (P ++ [(a, .inl (cA, k, .inl f))])) (hfg : ∀ j : Nat, j < k → f j = g j) : rw_H D A H0 H locs (P ++ [(a, .inl (cA, k, .inl g))]) := by
  have hcell : vp_cell cA (k, .inl f) = vp_cell cA (k, .inl g) := by
    rw [vp_cell_i, vp_cell_i]
    exact rw_arr (fun j hj => by rw [hfg j hj])
  have hlast : ∀ x : Nat × va_E, (P ++ [x])[P.length]? = some x := fun x => rw_at
  have hel : ∀ (x y : Nat × va_E) (i : Nat) (z : Nat × va_E), x.1 = y.1 → (P ++ [x])[i]? = some z → ∃ z' : Nat × va_E, (P ++ [y])[i]? = some z' ∧ z'.1 = z.1 := fun x y i z hxy hz => by
    by_cases hi : i < P.length
    · rw [List.getElem?_append_left hi] at hz ⊢
      exact ⟨z, hz, rfl⟩
    · rw [List.getElem?_append_right (by omega)] at hz ⊢
      have h0 : i - P.length < 1 := (List.getElem?_eq_some_iff.mp hz).1
      rw [show i - P.length = 0 by omega] at hz ⊢
      cases hz
      exact ⟨y, rfl, hxy.symm⟩
  refine ⟨fun i z hz => ?_, ⟨fun i j x y hi hj hxy => ?_, fun i x hi => ?_⟩, h.2.2⟩
  · by_cases hi : i < P.length
    · rw [List.getElem?_append_left hi] at hz
      exact h.1 i z (by rw [List.getElem?_append_left hi]; exact hz)
    · rw [List.getElem?_append_right (by omega)] at hz
      have h0 : i - P.length < 1 := (List.getElem?_eq_some_iff.mp hz).1
      rw [show i - P.length = 0 by omega] at hz
      cases hz
      have h1 : H[a]? = some (vp_cell cA (k, .inl f)) := h.1 _ _ (hlast _)
      rw [hcell] at h1
      exact h1
  · obtain ⟨x', hx1, hx2⟩ := hel (a, .inl (cA, k, .inl g)) (a, .inl (cA, k, .inl f)) i x rfl hi
    obtain ⟨y', hy1, hy2⟩ := hel (a, .inl (cA, k, .inl g)) (a, .inl (cA, k, .inl f)) j y rfl hj
    exact h.2.1.1 i j x' y' hx1 hy1 (by rw [hx2, hy2]; exact hxy)
  · obtain ⟨x', hx1, hx2⟩ := hel (a, .inl (cA, k, .inl g)) (a, .inl (cA, k, .inl f)) i x rfl hi
    rw [← hx2]
    exact h.2.1.2 i x' hx1
end RAL
