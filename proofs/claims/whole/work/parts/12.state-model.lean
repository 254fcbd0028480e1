/-! the reference: one object and thirty arrays; its rows: written by wip/whole/emit_model.py -/
def mo_uB (c : Nat) : Nat := if c = 4 then 108 else if c = 7 then 2 else if c = 8 then 2 else if c = 13 then 13 else if c = 17 then 2 else if c = 18 then 8 else if c = 19 then 10 else if c = 20 then 3 else if c = 26 then 4 else if c = 28 then 3 else if c = 29 then 41 else 1
def mo_wf (N : bn_S) : Prop := (∀ c x : Nat, N.2.1 c x < mo_uB c) ∧ (∀ x : Nat, N.2.1 4 x ≤ 20 ∨ 100 ≤ N.2.1 4 x) ∧ ∀ x : Nat, ¬ N.1 27 x < 0 → N.1 27 x = nI (N.1 27 x).toNatClampNeg ∧ (N.1 27 x).toNatClampNeg < 20
theorem mo_wf_I {N : bn_S} (h : mo_wf N) (c x : Nat) (v : Int32) (hc : ¬ c = 27) : mo_wf (sI N c x v) := ⟨h.1, h.2.1, fun y => by show ¬ bn_up N.1 c x v 27 y < 0 → bn_up N.1 c x v 27 y = nI (bn_up N.1 c x v 27 y).toNatClampNeg ∧ (bn_up N.1 c x v 27 y).toNatClampNeg < 20; rw [bn_up_c N.1 v (fun e => hc e.symm)]; exact h.2.2 y⟩
theorem mo_wf_J {N : bn_S} (h : mo_wf N) (c x : Nat) (v : Int64) : mo_wf (sJ N c x v) := h
theorem mo_wf_U {N : bn_S} (h : mo_wf N) (c x : Nat) {v : Nat} (hv : v < mo_uB c) (hj : c = 4 → v ≤ 20 ∨ 100 ≤ v) : mo_wf (sU N c x v) := by
  refine ⟨fun c' x' => ?_, fun x' => ?_, h.2.2⟩
  · show bn_up N.2.1 c x v c' x' < mo_uB c'
    unfold bn_up
    split
    · rename_i he
      rw [he.1]
      exact hv
    · exact h.1 c' x'
  · show bn_up N.2.1 c x v 4 x' ≤ 20 ∨ 100 ≤ bn_up N.2.1 c x v 4 x'
    unfold bn_up
    split
    · rename_i he
      exact hj he.1.symm
    · exact h.2.1 x'
theorem mo_wf_A {N : bn_S} (h : mo_wf N) (x : Nat) {v : Nat} (hv : v < 20) : mo_wf (sI N 27 x (nI v)) := by
  refine ⟨h.1, h.2.1, fun y => ?_⟩
  show ¬ bn_up N.1 27 x (nI v) 27 y < 0 → bn_up N.1 27 x (nI v) 27 y = nI (bn_up N.1 27 x (nI v) 27 y).toNatClampNeg ∧ (bn_up N.1 27 x (nI v) 27 y).toNatClampNeg < 20
  unfold bn_up
  split
  · intro _
    rw [nI_clamp (by omega)]
    exact ⟨rfl, hv⟩
  · exact h.2.2 y
theorem mw_joined {N : bn_S} (h : mo_wf N) (x : Nat) : N.2.1 4 x < 108 := h.1 4 x
theorem mw_proposing {N : bn_S} (h : mo_wf N) (x : Nat) : N.2.1 7 x < 2 := h.1 7 x
theorem mw_agreed {N : bn_S} (h : mo_wf N) (x : Nat) : N.2.1 8 x < 2 := h.1 8 x
theorem mw_lines {N : bn_S} (h : mo_wf N) (x : Nat) : N.2.1 13 x < 13 := h.1 13 x
theorem mw_asks {N : bn_S} (h : mo_wf N) (x : Nat) : N.2.1 17 x < 2 := h.1 17 x
theorem mw_source {N : bn_S} (h : mo_wf N) (x : Nat) : N.2.1 18 x < 8 := h.1 18 x
theorem mw_destination {N : bn_S} (h : mo_wf N) (x : Nat) : N.2.1 19 x < 10 := h.1 19 x
theorem mw_vlan {N : bn_S} (h : mo_wf N) (x : Nat) : N.2.1 20 x < 3 := h.1 20 x
theorem mw_behind {N : bn_S} (h : mo_wf N) (x : Nat) : N.2.1 26 x < 4 := h.1 26 x
theorem mw_in {N : bn_S} (h : mo_wf N) (x : Nat) : N.2.1 28 x < 3 := h.1 28 x
theorem mw_got {N : bn_S} (h : mo_wf N) (x : Nat) : N.2.1 29 x < 41 := h.1 29 x
def mo_c (ar : Nat → ClassId) (ad : Nat → Nat → Nat) (N : bn_S) (k x : Nat) : va_E := match k with
  | 0 => .inr (7, [.int (N.1 41 0), .int (N.1 42 0), .ref (ad 1 0), .ref (ad 2 0), .ref (ad 3 0), .ref (ad 4 0), .ref (ad 5 0), .ref (ad 6 0), .ref (ad 7 0), .ref (ad 8 0), .ref (ad 9 0), .ref (ad 10 0), .ref (ad 11 0), .ref (ad 12 0), .ref (ad 13 0), .ref (ad 14 0), .ref (ad 15 0), .ref (ad 16 0), .ref (ad 17 0), .ref (ad 18 0), .ref (ad 19 0), .ref (ad 20 0), .ref (ad 21 0), .ref (ad 22 0), .ref (ad 23 0), .ref (ad 24 0), .ref (ad 25 0), .ref (ad 26 0), .ref (ad 27 0), .ref (ad 28 0), .ref (ad 29 0), .ref (ad 30 0)])
  | 1 => .inl (ar 0, 5, .inl (N.1 1))
  | 2 => .inl (ar 0, 20, .inl (N.1 2))
  | 3 => .inl (ar 0, 20, .inl (N.1 3))
  | 4 => .inl (ar 0, 20, .inl (fun i => nI (N.2.1 4 i)))
  | 5 => .inl (ar 0, 20, .inl (N.1 5))
  | 6 => .inl (ar 0, 20, .inl (N.1 6))
  | 7 => .inl (ar 2, 20, .inl (fun i => nI (N.2.1 7 i)))
  | 8 => .inl (ar 2, 20, .inl (fun i => nI (N.2.1 8 i)))
  | 9 => .inl (ar 0, 20, .inl (N.1 9))
  | 10 => .inl (ar 1, 20, .inr (.inl (N.2.2.1 10)))
  | 11 => .inl (ar 0, 20, .inl (N.1 11))
  | 12 => .inl (ar 0, 20, .inl (N.1 12))
  | 13 => .inl (ar 0, 20, .inl (fun i => nI (N.2.1 13 i)))
  | 14 => .inl (ar 0, 260, .inl (N.1 14))
  | 15 => .inl (ar 1, 260, .inr (.inl (N.2.2.1 15)))
  | 16 => .inl (ar 0, 260, .inl (N.1 16))
  | 17 => .inl (ar 2, 260, .inl (fun i => nI (N.2.1 17 i)))
  | 18 => .inl (ar 0, 260, .inl (fun i => nI (N.2.1 18 i)))
  | 19 => .inl (ar 0, 260, .inl (fun i => nI (N.2.1 19 i)))
  | 20 => .inl (ar 0, 260, .inl (fun i => nI (N.2.1 20 i)))
  | 21 => .inl (ar 0, 260, .inl (N.1 21))
  | 22 => .inl (ar 1, 5, .inr (.inl (N.2.2.1 22)))
  | 23 => .inl (ar 0, 5, .inl (N.1 23))
  | 24 => .inl (ar 0, 5, .inl (N.1 24))
  | 25 => .inl (ar 0, 80, .inl (N.1 25))
  | 26 => .inl (ar 0, 80, .inl (fun i => nI (N.2.1 26 i)))
  | 27 => .inl (ar 0, 8, .inl (N.1 27))
  | 28 => .inl (ar 0, 8, .inl (fun i => nI (N.2.1 28 i)))
  | 29 => .inl (ar 0, 8, .inl (fun i => nI (N.2.1 29 i)))
  | _ => .inl (ar 1, 320, .inr (.inl (N.2.2.1 30)))
def mo_ix : List (Nat × Nat) := [(0, 0), (1, 0), (2, 0), (3, 0), (4, 0), (5, 0), (6, 0), (7, 0), (8, 0), (9, 0), (10, 0), (11, 0), (12, 0), (13, 0), (14, 0), (15, 0), (16, 0), (17, 0), (18, 0), (19, 0), (20, 0), (21, 0), (22, 0), (23, 0), (24, 0), (25, 0), (26, 0), (27, 0), (28, 0), (29, 0), (30, 0)]
abbrev mo_y (D : va_G) (ar : Nat → ClassId) (ad : Nat → Nat → Nat) : bn_Y := (D, bn_ty ar, mo_ix, ad, mo_c ar ad, mo_wf)
theorem mi_0 : (0, 0) ∈ mo_ix := by decide
theorem mi_1 : (1, 0) ∈ mo_ix := by decide
theorem mi_2 : (2, 0) ∈ mo_ix := by decide
theorem mi_3 : (3, 0) ∈ mo_ix := by decide
theorem mi_4 : (4, 0) ∈ mo_ix := by decide
theorem mi_5 : (5, 0) ∈ mo_ix := by decide
theorem mi_6 : (6, 0) ∈ mo_ix := by decide
theorem mi_7 : (7, 0) ∈ mo_ix := by decide
theorem mi_8 : (8, 0) ∈ mo_ix := by decide
theorem mi_9 : (9, 0) ∈ mo_ix := by decide
theorem mi_10 : (10, 0) ∈ mo_ix := by decide
theorem mi_11 : (11, 0) ∈ mo_ix := by decide
theorem mi_12 : (12, 0) ∈ mo_ix := by decide
theorem mi_13 : (13, 0) ∈ mo_ix := by decide
theorem mi_14 : (14, 0) ∈ mo_ix := by decide
theorem mi_15 : (15, 0) ∈ mo_ix := by decide
theorem mi_16 : (16, 0) ∈ mo_ix := by decide
theorem mi_17 : (17, 0) ∈ mo_ix := by decide
theorem mi_18 : (18, 0) ∈ mo_ix := by decide
theorem mi_19 : (19, 0) ∈ mo_ix := by decide
theorem mi_20 : (20, 0) ∈ mo_ix := by decide
theorem mi_21 : (21, 0) ∈ mo_ix := by decide
theorem mi_22 : (22, 0) ∈ mo_ix := by decide
theorem mi_23 : (23, 0) ∈ mo_ix := by decide
theorem mi_24 : (24, 0) ∈ mo_ix := by decide
theorem mi_25 : (25, 0) ∈ mo_ix := by decide
theorem mi_26 : (26, 0) ∈ mo_ix := by decide
theorem mi_27 : (27, 0) ∈ mo_ix := by decide
theorem mi_28 : (28, 0) ∈ mo_ix := by decide
theorem mi_29 : (29, 0) ∈ mo_ix := by decide
theorem mi_30 : (30, 0) ∈ mo_ix := by decide
theorem mo_thrown (ar : Nat → ClassId) (ad : Nat → Nat → Nat) (N : bn_S) (i : Nat) (v : Int32) : ∀ k' x' : Nat, (k', x') ∈ mo_ix → ¬ (k' = 0 ∧ x' = 0) → mo_c ar ad (sI N 41 i v) k' x' = mo_c ar ad N k' x' := by
  intro k' x' hm h
  simp only [mo_ix, List.mem_cons, Prod.mk.injEq, List.not_mem_nil, or_false] at hm
  rcases hm with ⟨rfl, rfl⟩ | ⟨rfl, rfl⟩ | ⟨rfl, rfl⟩ | ⟨rfl, rfl⟩ | ⟨rfl, rfl⟩ | ⟨rfl, rfl⟩ | ⟨rfl, rfl⟩ | ⟨rfl, rfl⟩ | ⟨rfl, rfl⟩ | ⟨rfl, rfl⟩ | ⟨rfl, rfl⟩ | ⟨rfl, rfl⟩ | ⟨rfl, rfl⟩ | ⟨rfl, rfl⟩ | ⟨rfl, rfl⟩ | ⟨rfl, rfl⟩ | ⟨rfl, rfl⟩ | ⟨rfl, rfl⟩ | ⟨rfl, rfl⟩ | ⟨rfl, rfl⟩ | ⟨rfl, rfl⟩ | ⟨rfl, rfl⟩ | ⟨rfl, rfl⟩ | ⟨rfl, rfl⟩ | ⟨rfl, rfl⟩ | ⟨rfl, rfl⟩ | ⟨rfl, rfl⟩ | ⟨rfl, rfl⟩ | ⟨rfl, rfl⟩ | ⟨rfl, rfl⟩ | ⟨rfl, rfl⟩ <;> first | exact absurd ⟨rfl, rfl⟩ h | (simp [mo_c, sI, sU, sJ, bn_up]; done) | (simp only [mo_c, sI, sU, sJ]; rw [bn_up_cf _ _ (by decide)]; done)
theorem mo_ticks (ar : Nat → ClassId) (ad : Nat → Nat → Nat) (N : bn_S) (i : Nat) (v : Int32) : ∀ k' x' : Nat, (k', x') ∈ mo_ix → ¬ (k' = 0 ∧ x' = 0) → mo_c ar ad (sI N 42 i v) k' x' = mo_c ar ad N k' x' := by
  intro k' x' hm h
  simp only [mo_ix, List.mem_cons, Prod.mk.injEq, List.not_mem_nil, or_false] at hm
  rcases hm with ⟨rfl, rfl⟩ | ⟨rfl, rfl⟩ | ⟨rfl, rfl⟩ | ⟨rfl, rfl⟩ | ⟨rfl, rfl⟩ | ⟨rfl, rfl⟩ | ⟨rfl, rfl⟩ | ⟨rfl, rfl⟩ | ⟨rfl, rfl⟩ | ⟨rfl, rfl⟩ | ⟨rfl, rfl⟩ | ⟨rfl, rfl⟩ | ⟨rfl, rfl⟩ | ⟨rfl, rfl⟩ | ⟨rfl, rfl⟩ | ⟨rfl, rfl⟩ | ⟨rfl, rfl⟩ | ⟨rfl, rfl⟩ | ⟨rfl, rfl⟩ | ⟨rfl, rfl⟩ | ⟨rfl, rfl⟩ | ⟨rfl, rfl⟩ | ⟨rfl, rfl⟩ | ⟨rfl, rfl⟩ | ⟨rfl, rfl⟩ | ⟨rfl, rfl⟩ | ⟨rfl, rfl⟩ | ⟨rfl, rfl⟩ | ⟨rfl, rfl⟩ | ⟨rfl, rfl⟩ | ⟨rfl, rfl⟩ <;> first | exact absurd ⟨rfl, rfl⟩ h | (simp [mo_c, sI, sU, sJ, bn_up]; done) | (simp only [mo_c, sI, sU, sJ]; rw [bn_up_cf _ _ (by decide)]; done)
theorem mo_priority (ar : Nat → ClassId) (ad : Nat → Nat → Nat) (N : bn_S) (i : Nat) (v : Int32) : ∀ k' x' : Nat, (k', x') ∈ mo_ix → ¬ (k' = 1 ∧ x' = 0) → mo_c ar ad (sI N 1 i v) k' x' = mo_c ar ad N k' x' := by
  intro k' x' hm h
  simp only [mo_ix, List.mem_cons, Prod.mk.injEq, List.not_mem_nil, or_false] at hm
  rcases hm with ⟨rfl, rfl⟩ | ⟨rfl, rfl⟩ | ⟨rfl, rfl⟩ | ⟨rfl, rfl⟩ | ⟨rfl, rfl⟩ | ⟨rfl, rfl⟩ | ⟨rfl, rfl⟩ | ⟨rfl, rfl⟩ | ⟨rfl, rfl⟩ | ⟨rfl, rfl⟩ | ⟨rfl, rfl⟩ | ⟨rfl, rfl⟩ | ⟨rfl, rfl⟩ | ⟨rfl, rfl⟩ | ⟨rfl, rfl⟩ | ⟨rfl, rfl⟩ | ⟨rfl, rfl⟩ | ⟨rfl, rfl⟩ | ⟨rfl, rfl⟩ | ⟨rfl, rfl⟩ | ⟨rfl, rfl⟩ | ⟨rfl, rfl⟩ | ⟨rfl, rfl⟩ | ⟨rfl, rfl⟩ | ⟨rfl, rfl⟩ | ⟨rfl, rfl⟩ | ⟨rfl, rfl⟩ | ⟨rfl, rfl⟩ | ⟨rfl, rfl⟩ | ⟨rfl, rfl⟩ | ⟨rfl, rfl⟩ <;> first | exact absurd ⟨rfl, rfl⟩ h | (simp [mo_c, sI, sU, sJ, bn_up]; done) | (simp only [mo_c, sI, sU, sJ]; rw [bn_up_cf _ _ (by decide)]; done)
theorem mo_cost (ar : Nat → ClassId) (ad : Nat → Nat → Nat) (N : bn_S) (i : Nat) (v : Int32) : ∀ k' x' : Nat, (k', x') ∈ mo_ix → ¬ (k' = 2 ∧ x' = 0) → mo_c ar ad (sI N 2 i v) k' x' = mo_c ar ad N k' x' := by
  intro k' x' hm h
  simp only [mo_ix, List.mem_cons, Prod.mk.injEq, List.not_mem_nil, or_false] at hm
  rcases hm with ⟨rfl, rfl⟩ | ⟨rfl, rfl⟩ | ⟨rfl, rfl⟩ | ⟨rfl, rfl⟩ | ⟨rfl, rfl⟩ | ⟨rfl, rfl⟩ | ⟨rfl, rfl⟩ | ⟨rfl, rfl⟩ | ⟨rfl, rfl⟩ | ⟨rfl, rfl⟩ | ⟨rfl, rfl⟩ | ⟨rfl, rfl⟩ | ⟨rfl, rfl⟩ | ⟨rfl, rfl⟩ | ⟨rfl, rfl⟩ | ⟨rfl, rfl⟩ | ⟨rfl, rfl⟩ | ⟨rfl, rfl⟩ | ⟨rfl, rfl⟩ | ⟨rfl, rfl⟩ | ⟨rfl, rfl⟩ | ⟨rfl, rfl⟩ | ⟨rfl, rfl⟩ | ⟨rfl, rfl⟩ | ⟨rfl, rfl⟩ | ⟨rfl, rfl⟩ | ⟨rfl, rfl⟩ | ⟨rfl, rfl⟩ | ⟨rfl, rfl⟩ | ⟨rfl, rfl⟩ | ⟨rfl, rfl⟩ <;> first | exact absurd ⟨rfl, rfl⟩ h | (simp [mo_c, sI, sU, sJ, bn_up]; done) | (simp only [mo_c, sI, sU, sJ]; rw [bn_up_cf _ _ (by decide)]; done)
theorem mo_vlans (ar : Nat → ClassId) (ad : Nat → Nat → Nat) (N : bn_S) (i : Nat) (v : Int32) : ∀ k' x' : Nat, (k', x') ∈ mo_ix → ¬ (k' = 3 ∧ x' = 0) → mo_c ar ad (sI N 3 i v) k' x' = mo_c ar ad N k' x' := by
  intro k' x' hm h
  simp only [mo_ix, List.mem_cons, Prod.mk.injEq, List.not_mem_nil, or_false] at hm
  rcases hm with ⟨rfl, rfl⟩ | ⟨rfl, rfl⟩ | ⟨rfl, rfl⟩ | ⟨rfl, rfl⟩ | ⟨rfl, rfl⟩ | ⟨rfl, rfl⟩ | ⟨rfl, rfl⟩ | ⟨rfl, rfl⟩ | ⟨rfl, rfl⟩ | ⟨rfl, rfl⟩ | ⟨rfl, rfl⟩ | ⟨rfl, rfl⟩ | ⟨rfl, rfl⟩ | ⟨rfl, rfl⟩ | ⟨rfl, rfl⟩ | ⟨rfl, rfl⟩ | ⟨rfl, rfl⟩ | ⟨rfl, rfl⟩ | ⟨rfl, rfl⟩ | ⟨rfl, rfl⟩ | ⟨rfl, rfl⟩ | ⟨rfl, rfl⟩ | ⟨rfl, rfl⟩ | ⟨rfl, rfl⟩ | ⟨rfl, rfl⟩ | ⟨rfl, rfl⟩ | ⟨rfl, rfl⟩ | ⟨rfl, rfl⟩ | ⟨rfl, rfl⟩ | ⟨rfl, rfl⟩ | ⟨rfl, rfl⟩ <;> first | exact absurd ⟨rfl, rfl⟩ h | (simp [mo_c, sI, sU, sJ, bn_up]; done) | (simp only [mo_c, sI, sU, sJ]; rw [bn_up_cf _ _ (by decide)]; done)
theorem mo_joined (ar : Nat → ClassId) (ad : Nat → Nat → Nat) (N : bn_S) (i : Nat) (v : Nat) : ∀ k' x' : Nat, (k', x') ∈ mo_ix → ¬ (k' = 4 ∧ x' = 0) → mo_c ar ad (sU N 4 i v) k' x' = mo_c ar ad N k' x' := by
  intro k' x' hm h
  simp only [mo_ix, List.mem_cons, Prod.mk.injEq, List.not_mem_nil, or_false] at hm
  rcases hm with ⟨rfl, rfl⟩ | ⟨rfl, rfl⟩ | ⟨rfl, rfl⟩ | ⟨rfl, rfl⟩ | ⟨rfl, rfl⟩ | ⟨rfl, rfl⟩ | ⟨rfl, rfl⟩ | ⟨rfl, rfl⟩ | ⟨rfl, rfl⟩ | ⟨rfl, rfl⟩ | ⟨rfl, rfl⟩ | ⟨rfl, rfl⟩ | ⟨rfl, rfl⟩ | ⟨rfl, rfl⟩ | ⟨rfl, rfl⟩ | ⟨rfl, rfl⟩ | ⟨rfl, rfl⟩ | ⟨rfl, rfl⟩ | ⟨rfl, rfl⟩ | ⟨rfl, rfl⟩ | ⟨rfl, rfl⟩ | ⟨rfl, rfl⟩ | ⟨rfl, rfl⟩ | ⟨rfl, rfl⟩ | ⟨rfl, rfl⟩ | ⟨rfl, rfl⟩ | ⟨rfl, rfl⟩ | ⟨rfl, rfl⟩ | ⟨rfl, rfl⟩ | ⟨rfl, rfl⟩ | ⟨rfl, rfl⟩ <;> first | exact absurd ⟨rfl, rfl⟩ h | (simp [mo_c, sI, sU, sJ, bn_up]; done) | (simp only [mo_c, sI, sU, sJ]; rw [bn_up_cf _ _ (by decide)]; done)
theorem mo_role (ar : Nat → ClassId) (ad : Nat → Nat → Nat) (N : bn_S) (i : Nat) (v : Int32) : ∀ k' x' : Nat, (k', x') ∈ mo_ix → ¬ (k' = 5 ∧ x' = 0) → mo_c ar ad (sI N 5 i v) k' x' = mo_c ar ad N k' x' := by
  intro k' x' hm h
  simp only [mo_ix, List.mem_cons, Prod.mk.injEq, List.not_mem_nil, or_false] at hm
  rcases hm with ⟨rfl, rfl⟩ | ⟨rfl, rfl⟩ | ⟨rfl, rfl⟩ | ⟨rfl, rfl⟩ | ⟨rfl, rfl⟩ | ⟨rfl, rfl⟩ | ⟨rfl, rfl⟩ | ⟨rfl, rfl⟩ | ⟨rfl, rfl⟩ | ⟨rfl, rfl⟩ | ⟨rfl, rfl⟩ | ⟨rfl, rfl⟩ | ⟨rfl, rfl⟩ | ⟨rfl, rfl⟩ | ⟨rfl, rfl⟩ | ⟨rfl, rfl⟩ | ⟨rfl, rfl⟩ | ⟨rfl, rfl⟩ | ⟨rfl, rfl⟩ | ⟨rfl, rfl⟩ | ⟨rfl, rfl⟩ | ⟨rfl, rfl⟩ | ⟨rfl, rfl⟩ | ⟨rfl, rfl⟩ | ⟨rfl, rfl⟩ | ⟨rfl, rfl⟩ | ⟨rfl, rfl⟩ | ⟨rfl, rfl⟩ | ⟨rfl, rfl⟩ | ⟨rfl, rfl⟩ | ⟨rfl, rfl⟩ <;> first | exact absurd ⟨rfl, rfl⟩ h | (simp [mo_c, sI, sU, sJ, bn_up]; done) | (simp only [mo_c, sI, sU, sJ]; rw [bn_up_cf _ _ (by decide)]; done)
theorem mo_state (ar : Nat → ClassId) (ad : Nat → Nat → Nat) (N : bn_S) (i : Nat) (v : Int32) : ∀ k' x' : Nat, (k', x') ∈ mo_ix → ¬ (k' = 6 ∧ x' = 0) → mo_c ar ad (sI N 6 i v) k' x' = mo_c ar ad N k' x' := by
  intro k' x' hm h
  simp only [mo_ix, List.mem_cons, Prod.mk.injEq, List.not_mem_nil, or_false] at hm
  rcases hm with ⟨rfl, rfl⟩ | ⟨rfl, rfl⟩ | ⟨rfl, rfl⟩ | ⟨rfl, rfl⟩ | ⟨rfl, rfl⟩ | ⟨rfl, rfl⟩ | ⟨rfl, rfl⟩ | ⟨rfl, rfl⟩ | ⟨rfl, rfl⟩ | ⟨rfl, rfl⟩ | ⟨rfl, rfl⟩ | ⟨rfl, rfl⟩ | ⟨rfl, rfl⟩ | ⟨rfl, rfl⟩ | ⟨rfl, rfl⟩ | ⟨rfl, rfl⟩ | ⟨rfl, rfl⟩ | ⟨rfl, rfl⟩ | ⟨rfl, rfl⟩ | ⟨rfl, rfl⟩ | ⟨rfl, rfl⟩ | ⟨rfl, rfl⟩ | ⟨rfl, rfl⟩ | ⟨rfl, rfl⟩ | ⟨rfl, rfl⟩ | ⟨rfl, rfl⟩ | ⟨rfl, rfl⟩ | ⟨rfl, rfl⟩ | ⟨rfl, rfl⟩ | ⟨rfl, rfl⟩ | ⟨rfl, rfl⟩ <;> first | exact absurd ⟨rfl, rfl⟩ h | (simp [mo_c, sI, sU, sJ, bn_up]; done) | (simp only [mo_c, sI, sU, sJ]; rw [bn_up_cf _ _ (by decide)]; done)
theorem mo_proposing (ar : Nat → ClassId) (ad : Nat → Nat → Nat) (N : bn_S) (i : Nat) (v : Nat) : ∀ k' x' : Nat, (k', x') ∈ mo_ix → ¬ (k' = 7 ∧ x' = 0) → mo_c ar ad (sU N 7 i v) k' x' = mo_c ar ad N k' x' := by
  intro k' x' hm h
  simp only [mo_ix, List.mem_cons, Prod.mk.injEq, List.not_mem_nil, or_false] at hm
  rcases hm with ⟨rfl, rfl⟩ | ⟨rfl, rfl⟩ | ⟨rfl, rfl⟩ | ⟨rfl, rfl⟩ | ⟨rfl, rfl⟩ | ⟨rfl, rfl⟩ | ⟨rfl, rfl⟩ | ⟨rfl, rfl⟩ | ⟨rfl, rfl⟩ | ⟨rfl, rfl⟩ | ⟨rfl, rfl⟩ | ⟨rfl, rfl⟩ | ⟨rfl, rfl⟩ | ⟨rfl, rfl⟩ | ⟨rfl, rfl⟩ | ⟨rfl, rfl⟩ | ⟨rfl, rfl⟩ | ⟨rfl, rfl⟩ | ⟨rfl, rfl⟩ | ⟨rfl, rfl⟩ | ⟨rfl, rfl⟩ | ⟨rfl, rfl⟩ | ⟨rfl, rfl⟩ | ⟨rfl, rfl⟩ | ⟨rfl, rfl⟩ | ⟨rfl, rfl⟩ | ⟨rfl, rfl⟩ | ⟨rfl, rfl⟩ | ⟨rfl, rfl⟩ | ⟨rfl, rfl⟩ | ⟨rfl, rfl⟩ <;> first | exact absurd ⟨rfl, rfl⟩ h | (simp [mo_c, sI, sU, sJ, bn_up]; done) | (simp only [mo_c, sI, sU, sJ]; rw [bn_up_cf _ _ (by decide)]; done)
theorem mo_agreed (ar : Nat → ClassId) (ad : Nat → Nat → Nat) (N : bn_S) (i : Nat) (v : Nat) : ∀ k' x' : Nat, (k', x') ∈ mo_ix → ¬ (k' = 8 ∧ x' = 0) → mo_c ar ad (sU N 8 i v) k' x' = mo_c ar ad N k' x' := by
  intro k' x' hm h
  simp only [mo_ix, List.mem_cons, Prod.mk.injEq, List.not_mem_nil, or_false] at hm
  rcases hm with ⟨rfl, rfl⟩ | ⟨rfl, rfl⟩ | ⟨rfl, rfl⟩ | ⟨rfl, rfl⟩ | ⟨rfl, rfl⟩ | ⟨rfl, rfl⟩ | ⟨rfl, rfl⟩ | ⟨rfl, rfl⟩ | ⟨rfl, rfl⟩ | ⟨rfl, rfl⟩ | ⟨rfl, rfl⟩ | ⟨rfl, rfl⟩ | ⟨rfl, rfl⟩ | ⟨rfl, rfl⟩ | ⟨rfl, rfl⟩ | ⟨rfl, rfl⟩ | ⟨rfl, rfl⟩ | ⟨rfl, rfl⟩ | ⟨rfl, rfl⟩ | ⟨rfl, rfl⟩ | ⟨rfl, rfl⟩ | ⟨rfl, rfl⟩ | ⟨rfl, rfl⟩ | ⟨rfl, rfl⟩ | ⟨rfl, rfl⟩ | ⟨rfl, rfl⟩ | ⟨rfl, rfl⟩ | ⟨rfl, rfl⟩ | ⟨rfl, rfl⟩ | ⟨rfl, rfl⟩ | ⟨rfl, rfl⟩ <;> first | exact absurd ⟨rfl, rfl⟩ h | (simp [mo_c, sI, sU, sJ, bn_up]; done) | (simp only [mo_c, sI, sU, sJ]; rw [bn_up_cf _ _ (by decide)]; done)
theorem mo_waits (ar : Nat → ClassId) (ad : Nat → Nat → Nat) (N : bn_S) (i : Nat) (v : Int32) : ∀ k' x' : Nat, (k', x') ∈ mo_ix → ¬ (k' = 9 ∧ x' = 0) → mo_c ar ad (sI N 9 i v) k' x' = mo_c ar ad N k' x' := by
  intro k' x' hm h
  simp only [mo_ix, List.mem_cons, Prod.mk.injEq, List.not_mem_nil, or_false] at hm
  rcases hm with ⟨rfl, rfl⟩ | ⟨rfl, rfl⟩ | ⟨rfl, rfl⟩ | ⟨rfl, rfl⟩ | ⟨rfl, rfl⟩ | ⟨rfl, rfl⟩ | ⟨rfl, rfl⟩ | ⟨rfl, rfl⟩ | ⟨rfl, rfl⟩ | ⟨rfl, rfl⟩ | ⟨rfl, rfl⟩ | ⟨rfl, rfl⟩ | ⟨rfl, rfl⟩ | ⟨rfl, rfl⟩ | ⟨rfl, rfl⟩ | ⟨rfl, rfl⟩ | ⟨rfl, rfl⟩ | ⟨rfl, rfl⟩ | ⟨rfl, rfl⟩ | ⟨rfl, rfl⟩ | ⟨rfl, rfl⟩ | ⟨rfl, rfl⟩ | ⟨rfl, rfl⟩ | ⟨rfl, rfl⟩ | ⟨rfl, rfl⟩ | ⟨rfl, rfl⟩ | ⟨rfl, rfl⟩ | ⟨rfl, rfl⟩ | ⟨rfl, rfl⟩ | ⟨rfl, rfl⟩ | ⟨rfl, rfl⟩ <;> first | exact absurd ⟨rfl, rfl⟩ h | (simp [mo_c, sI, sU, sJ, bn_up]; done) | (simp only [mo_c, sI, sU, sJ]; rw [bn_up_cf _ _ (by decide)]; done)
theorem mo_info (ar : Nat → ClassId) (ad : Nat → Nat → Nat) (N : bn_S) (i : Nat) (v : Int64) : ∀ k' x' : Nat, (k', x') ∈ mo_ix → ¬ (k' = 10 ∧ x' = 0) → mo_c ar ad (sJ N 10 i v) k' x' = mo_c ar ad N k' x' := by
  intro k' x' hm h
  simp only [mo_ix, List.mem_cons, Prod.mk.injEq, List.not_mem_nil, or_false] at hm
  rcases hm with ⟨rfl, rfl⟩ | ⟨rfl, rfl⟩ | ⟨rfl, rfl⟩ | ⟨rfl, rfl⟩ | ⟨rfl, rfl⟩ | ⟨rfl, rfl⟩ | ⟨rfl, rfl⟩ | ⟨rfl, rfl⟩ | ⟨rfl, rfl⟩ | ⟨rfl, rfl⟩ | ⟨rfl, rfl⟩ | ⟨rfl, rfl⟩ | ⟨rfl, rfl⟩ | ⟨rfl, rfl⟩ | ⟨rfl, rfl⟩ | ⟨rfl, rfl⟩ | ⟨rfl, rfl⟩ | ⟨rfl, rfl⟩ | ⟨rfl, rfl⟩ | ⟨rfl, rfl⟩ | ⟨rfl, rfl⟩ | ⟨rfl, rfl⟩ | ⟨rfl, rfl⟩ | ⟨rfl, rfl⟩ | ⟨rfl, rfl⟩ | ⟨rfl, rfl⟩ | ⟨rfl, rfl⟩ | ⟨rfl, rfl⟩ | ⟨rfl, rfl⟩ | ⟨rfl, rfl⟩ | ⟨rfl, rfl⟩ <;> first | exact absurd ⟨rfl, rfl⟩ h | (simp [mo_c, sI, sU, sJ, bn_up]; done) | (simp only [mo_c, sI, sU, sJ]; rw [bn_up_cf _ _ (by decide)]; done)
theorem mo_infoHops (ar : Nat → ClassId) (ad : Nat → Nat → Nat) (N : bn_S) (i : Nat) (v : Int32) : ∀ k' x' : Nat, (k', x') ∈ mo_ix → ¬ (k' = 11 ∧ x' = 0) → mo_c ar ad (sI N 11 i v) k' x' = mo_c ar ad N k' x' := by
  intro k' x' hm h
  simp only [mo_ix, List.mem_cons, Prod.mk.injEq, List.not_mem_nil, or_false] at hm
  rcases hm with ⟨rfl, rfl⟩ | ⟨rfl, rfl⟩ | ⟨rfl, rfl⟩ | ⟨rfl, rfl⟩ | ⟨rfl, rfl⟩ | ⟨rfl, rfl⟩ | ⟨rfl, rfl⟩ | ⟨rfl, rfl⟩ | ⟨rfl, rfl⟩ | ⟨rfl, rfl⟩ | ⟨rfl, rfl⟩ | ⟨rfl, rfl⟩ | ⟨rfl, rfl⟩ | ⟨rfl, rfl⟩ | ⟨rfl, rfl⟩ | ⟨rfl, rfl⟩ | ⟨rfl, rfl⟩ | ⟨rfl, rfl⟩ | ⟨rfl, rfl⟩ | ⟨rfl, rfl⟩ | ⟨rfl, rfl⟩ | ⟨rfl, rfl⟩ | ⟨rfl, rfl⟩ | ⟨rfl, rfl⟩ | ⟨rfl, rfl⟩ | ⟨rfl, rfl⟩ | ⟨rfl, rfl⟩ | ⟨rfl, rfl⟩ | ⟨rfl, rfl⟩ | ⟨rfl, rfl⟩ | ⟨rfl, rfl⟩ <;> first | exact absurd ⟨rfl, rfl⟩ h | (simp [mo_c, sI, sU, sJ, bn_up]; done) | (simp only [mo_c, sI, sU, sJ]; rw [bn_up_cf _ _ (by decide)]; done)
theorem mo_life (ar : Nat → ClassId) (ad : Nat → Nat → Nat) (N : bn_S) (i : Nat) (v : Int32) : ∀ k' x' : Nat, (k', x') ∈ mo_ix → ¬ (k' = 12 ∧ x' = 0) → mo_c ar ad (sI N 12 i v) k' x' = mo_c ar ad N k' x' := by
  intro k' x' hm h
  simp only [mo_ix, List.mem_cons, Prod.mk.injEq, List.not_mem_nil, or_false] at hm
  rcases hm with ⟨rfl, rfl⟩ | ⟨rfl, rfl⟩ | ⟨rfl, rfl⟩ | ⟨rfl, rfl⟩ | ⟨rfl, rfl⟩ | ⟨rfl, rfl⟩ | ⟨rfl, rfl⟩ | ⟨rfl, rfl⟩ | ⟨rfl, rfl⟩ | ⟨rfl, rfl⟩ | ⟨rfl, rfl⟩ | ⟨rfl, rfl⟩ | ⟨rfl, rfl⟩ | ⟨rfl, rfl⟩ | ⟨rfl, rfl⟩ | ⟨rfl, rfl⟩ | ⟨rfl, rfl⟩ | ⟨rfl, rfl⟩ | ⟨rfl, rfl⟩ | ⟨rfl, rfl⟩ | ⟨rfl, rfl⟩ | ⟨rfl, rfl⟩ | ⟨rfl, rfl⟩ | ⟨rfl, rfl⟩ | ⟨rfl, rfl⟩ | ⟨rfl, rfl⟩ | ⟨rfl, rfl⟩ | ⟨rfl, rfl⟩ | ⟨rfl, rfl⟩ | ⟨rfl, rfl⟩ | ⟨rfl, rfl⟩ <;> first | exact absurd ⟨rfl, rfl⟩ h | (simp [mo_c, sI, sU, sJ, bn_up]; done) | (simp only [mo_c, sI, sU, sJ]; rw [bn_up_cf _ _ (by decide)]; done)
theorem mo_lines (ar : Nat → ClassId) (ad : Nat → Nat → Nat) (N : bn_S) (i : Nat) (v : Nat) : ∀ k' x' : Nat, (k', x') ∈ mo_ix → ¬ (k' = 13 ∧ x' = 0) → mo_c ar ad (sU N 13 i v) k' x' = mo_c ar ad N k' x' := by
  intro k' x' hm h
  simp only [mo_ix, List.mem_cons, Prod.mk.injEq, List.not_mem_nil, or_false] at hm
  rcases hm with ⟨rfl, rfl⟩ | ⟨rfl, rfl⟩ | ⟨rfl, rfl⟩ | ⟨rfl, rfl⟩ | ⟨rfl, rfl⟩ | ⟨rfl, rfl⟩ | ⟨rfl, rfl⟩ | ⟨rfl, rfl⟩ | ⟨rfl, rfl⟩ | ⟨rfl, rfl⟩ | ⟨rfl, rfl⟩ | ⟨rfl, rfl⟩ | ⟨rfl, rfl⟩ | ⟨rfl, rfl⟩ | ⟨rfl, rfl⟩ | ⟨rfl, rfl⟩ | ⟨rfl, rfl⟩ | ⟨rfl, rfl⟩ | ⟨rfl, rfl⟩ | ⟨rfl, rfl⟩ | ⟨rfl, rfl⟩ | ⟨rfl, rfl⟩ | ⟨rfl, rfl⟩ | ⟨rfl, rfl⟩ | ⟨rfl, rfl⟩ | ⟨rfl, rfl⟩ | ⟨rfl, rfl⟩ | ⟨rfl, rfl⟩ | ⟨rfl, rfl⟩ | ⟨rfl, rfl⟩ | ⟨rfl, rfl⟩ <;> first | exact absurd ⟨rfl, rfl⟩ h | (simp [mo_c, sI, sU, sJ, bn_up]; done) | (simp only [mo_c, sI, sU, sJ]; rw [bn_up_cf _ _ (by decide)]; done)
theorem mo_kind (ar : Nat → ClassId) (ad : Nat → Nat → Nat) (N : bn_S) (i : Nat) (v : Int32) : ∀ k' x' : Nat, (k', x') ∈ mo_ix → ¬ (k' = 14 ∧ x' = 0) → mo_c ar ad (sI N 14 i v) k' x' = mo_c ar ad N k' x' := by
  intro k' x' hm h
  simp only [mo_ix, List.mem_cons, Prod.mk.injEq, List.not_mem_nil, or_false] at hm
  rcases hm with ⟨rfl, rfl⟩ | ⟨rfl, rfl⟩ | ⟨rfl, rfl⟩ | ⟨rfl, rfl⟩ | ⟨rfl, rfl⟩ | ⟨rfl, rfl⟩ | ⟨rfl, rfl⟩ | ⟨rfl, rfl⟩ | ⟨rfl, rfl⟩ | ⟨rfl, rfl⟩ | ⟨rfl, rfl⟩ | ⟨rfl, rfl⟩ | ⟨rfl, rfl⟩ | ⟨rfl, rfl⟩ | ⟨rfl, rfl⟩ | ⟨rfl, rfl⟩ | ⟨rfl, rfl⟩ | ⟨rfl, rfl⟩ | ⟨rfl, rfl⟩ | ⟨rfl, rfl⟩ | ⟨rfl, rfl⟩ | ⟨rfl, rfl⟩ | ⟨rfl, rfl⟩ | ⟨rfl, rfl⟩ | ⟨rfl, rfl⟩ | ⟨rfl, rfl⟩ | ⟨rfl, rfl⟩ | ⟨rfl, rfl⟩ | ⟨rfl, rfl⟩ | ⟨rfl, rfl⟩ | ⟨rfl, rfl⟩ <;> first | exact absurd ⟨rfl, rfl⟩ h | (simp [mo_c, sI, sU, sJ, bn_up]; done) | (simp only [mo_c, sI, sU, sJ]; rw [bn_up_cf _ _ (by decide)]; done)
theorem mo_told (ar : Nat → ClassId) (ad : Nat → Nat → Nat) (N : bn_S) (i : Nat) (v : Int64) : ∀ k' x' : Nat, (k', x') ∈ mo_ix → ¬ (k' = 15 ∧ x' = 0) → mo_c ar ad (sJ N 15 i v) k' x' = mo_c ar ad N k' x' := by
  intro k' x' hm h
  simp only [mo_ix, List.mem_cons, Prod.mk.injEq, List.not_mem_nil, or_false] at hm
  rcases hm with ⟨rfl, rfl⟩ | ⟨rfl, rfl⟩ | ⟨rfl, rfl⟩ | ⟨rfl, rfl⟩ | ⟨rfl, rfl⟩ | ⟨rfl, rfl⟩ | ⟨rfl, rfl⟩ | ⟨rfl, rfl⟩ | ⟨rfl, rfl⟩ | ⟨rfl, rfl⟩ | ⟨rfl, rfl⟩ | ⟨rfl, rfl⟩ | ⟨rfl, rfl⟩ | ⟨rfl, rfl⟩ | ⟨rfl, rfl⟩ | ⟨rfl, rfl⟩ | ⟨rfl, rfl⟩ | ⟨rfl, rfl⟩ | ⟨rfl, rfl⟩ | ⟨rfl, rfl⟩ | ⟨rfl, rfl⟩ | ⟨rfl, rfl⟩ | ⟨rfl, rfl⟩ | ⟨rfl, rfl⟩ | ⟨rfl, rfl⟩ | ⟨rfl, rfl⟩ | ⟨rfl, rfl⟩ | ⟨rfl, rfl⟩ | ⟨rfl, rfl⟩ | ⟨rfl, rfl⟩ | ⟨rfl, rfl⟩ <;> first | exact absurd ⟨rfl, rfl⟩ h | (simp [mo_c, sI, sU, sJ, bn_up]; done) | (simp only [mo_c, sI, sU, sJ]; rw [bn_up_cf _ _ (by decide)]; done)
theorem mo_hop (ar : Nat → ClassId) (ad : Nat → Nat → Nat) (N : bn_S) (i : Nat) (v : Int32) : ∀ k' x' : Nat, (k', x') ∈ mo_ix → ¬ (k' = 16 ∧ x' = 0) → mo_c ar ad (sI N 16 i v) k' x' = mo_c ar ad N k' x' := by
  intro k' x' hm h
  simp only [mo_ix, List.mem_cons, Prod.mk.injEq, List.not_mem_nil, or_false] at hm
  rcases hm with ⟨rfl, rfl⟩ | ⟨rfl, rfl⟩ | ⟨rfl, rfl⟩ | ⟨rfl, rfl⟩ | ⟨rfl, rfl⟩ | ⟨rfl, rfl⟩ | ⟨rfl, rfl⟩ | ⟨rfl, rfl⟩ | ⟨rfl, rfl⟩ | ⟨rfl, rfl⟩ | ⟨rfl, rfl⟩ | ⟨rfl, rfl⟩ | ⟨rfl, rfl⟩ | ⟨rfl, rfl⟩ | ⟨rfl, rfl⟩ | ⟨rfl, rfl⟩ | ⟨rfl, rfl⟩ | ⟨rfl, rfl⟩ | ⟨rfl, rfl⟩ | ⟨rfl, rfl⟩ | ⟨rfl, rfl⟩ | ⟨rfl, rfl⟩ | ⟨rfl, rfl⟩ | ⟨rfl, rfl⟩ | ⟨rfl, rfl⟩ | ⟨rfl, rfl⟩ | ⟨rfl, rfl⟩ | ⟨rfl, rfl⟩ | ⟨rfl, rfl⟩ | ⟨rfl, rfl⟩ | ⟨rfl, rfl⟩ <;> first | exact absurd ⟨rfl, rfl⟩ h | (simp [mo_c, sI, sU, sJ, bn_up]; done) | (simp only [mo_c, sI, sU, sJ]; rw [bn_up_cf _ _ (by decide)]; done)
theorem mo_asks (ar : Nat → ClassId) (ad : Nat → Nat → Nat) (N : bn_S) (i : Nat) (v : Nat) : ∀ k' x' : Nat, (k', x') ∈ mo_ix → ¬ (k' = 17 ∧ x' = 0) → mo_c ar ad (sU N 17 i v) k' x' = mo_c ar ad N k' x' := by
  intro k' x' hm h
  simp only [mo_ix, List.mem_cons, Prod.mk.injEq, List.not_mem_nil, or_false] at hm
  rcases hm with ⟨rfl, rfl⟩ | ⟨rfl, rfl⟩ | ⟨rfl, rfl⟩ | ⟨rfl, rfl⟩ | ⟨rfl, rfl⟩ | ⟨rfl, rfl⟩ | ⟨rfl, rfl⟩ | ⟨rfl, rfl⟩ | ⟨rfl, rfl⟩ | ⟨rfl, rfl⟩ | ⟨rfl, rfl⟩ | ⟨rfl, rfl⟩ | ⟨rfl, rfl⟩ | ⟨rfl, rfl⟩ | ⟨rfl, rfl⟩ | ⟨rfl, rfl⟩ | ⟨rfl, rfl⟩ | ⟨rfl, rfl⟩ | ⟨rfl, rfl⟩ | ⟨rfl, rfl⟩ | ⟨rfl, rfl⟩ | ⟨rfl, rfl⟩ | ⟨rfl, rfl⟩ | ⟨rfl, rfl⟩ | ⟨rfl, rfl⟩ | ⟨rfl, rfl⟩ | ⟨rfl, rfl⟩ | ⟨rfl, rfl⟩ | ⟨rfl, rfl⟩ | ⟨rfl, rfl⟩ | ⟨rfl, rfl⟩ <;> first | exact absurd ⟨rfl, rfl⟩ h | (simp [mo_c, sI, sU, sJ, bn_up]; done) | (simp only [mo_c, sI, sU, sJ]; rw [bn_up_cf _ _ (by decide)]; done)
theorem mo_source (ar : Nat → ClassId) (ad : Nat → Nat → Nat) (N : bn_S) (i : Nat) (v : Nat) : ∀ k' x' : Nat, (k', x') ∈ mo_ix → ¬ (k' = 18 ∧ x' = 0) → mo_c ar ad (sU N 18 i v) k' x' = mo_c ar ad N k' x' := by
  intro k' x' hm h
  simp only [mo_ix, List.mem_cons, Prod.mk.injEq, List.not_mem_nil, or_false] at hm
  rcases hm with ⟨rfl, rfl⟩ | ⟨rfl, rfl⟩ | ⟨rfl, rfl⟩ | ⟨rfl, rfl⟩ | ⟨rfl, rfl⟩ | ⟨rfl, rfl⟩ | ⟨rfl, rfl⟩ | ⟨rfl, rfl⟩ | ⟨rfl, rfl⟩ | ⟨rfl, rfl⟩ | ⟨rfl, rfl⟩ | ⟨rfl, rfl⟩ | ⟨rfl, rfl⟩ | ⟨rfl, rfl⟩ | ⟨rfl, rfl⟩ | ⟨rfl, rfl⟩ | ⟨rfl, rfl⟩ | ⟨rfl, rfl⟩ | ⟨rfl, rfl⟩ | ⟨rfl, rfl⟩ | ⟨rfl, rfl⟩ | ⟨rfl, rfl⟩ | ⟨rfl, rfl⟩ | ⟨rfl, rfl⟩ | ⟨rfl, rfl⟩ | ⟨rfl, rfl⟩ | ⟨rfl, rfl⟩ | ⟨rfl, rfl⟩ | ⟨rfl, rfl⟩ | ⟨rfl, rfl⟩ | ⟨rfl, rfl⟩ <;> first | exact absurd ⟨rfl, rfl⟩ h | (simp [mo_c, sI, sU, sJ, bn_up]; done) | (simp only [mo_c, sI, sU, sJ]; rw [bn_up_cf _ _ (by decide)]; done)
theorem mo_destination (ar : Nat → ClassId) (ad : Nat → Nat → Nat) (N : bn_S) (i : Nat) (v : Nat) : ∀ k' x' : Nat, (k', x') ∈ mo_ix → ¬ (k' = 19 ∧ x' = 0) → mo_c ar ad (sU N 19 i v) k' x' = mo_c ar ad N k' x' := by
  intro k' x' hm h
  simp only [mo_ix, List.mem_cons, Prod.mk.injEq, List.not_mem_nil, or_false] at hm
  rcases hm with ⟨rfl, rfl⟩ | ⟨rfl, rfl⟩ | ⟨rfl, rfl⟩ | ⟨rfl, rfl⟩ | ⟨rfl, rfl⟩ | ⟨rfl, rfl⟩ | ⟨rfl, rfl⟩ | ⟨rfl, rfl⟩ | ⟨rfl, rfl⟩ | ⟨rfl, rfl⟩ | ⟨rfl, rfl⟩ | ⟨rfl, rfl⟩ | ⟨rfl, rfl⟩ | ⟨rfl, rfl⟩ | ⟨rfl, rfl⟩ | ⟨rfl, rfl⟩ | ⟨rfl, rfl⟩ | ⟨rfl, rfl⟩ | ⟨rfl, rfl⟩ | ⟨rfl, rfl⟩ | ⟨rfl, rfl⟩ | ⟨rfl, rfl⟩ | ⟨rfl, rfl⟩ | ⟨rfl, rfl⟩ | ⟨rfl, rfl⟩ | ⟨rfl, rfl⟩ | ⟨rfl, rfl⟩ | ⟨rfl, rfl⟩ | ⟨rfl, rfl⟩ | ⟨rfl, rfl⟩ | ⟨rfl, rfl⟩ <;> first | exact absurd ⟨rfl, rfl⟩ h | (simp [mo_c, sI, sU, sJ, bn_up]; done) | (simp only [mo_c, sI, sU, sJ]; rw [bn_up_cf _ _ (by decide)]; done)
theorem mo_vlan (ar : Nat → ClassId) (ad : Nat → Nat → Nat) (N : bn_S) (i : Nat) (v : Nat) : ∀ k' x' : Nat, (k', x') ∈ mo_ix → ¬ (k' = 20 ∧ x' = 0) → mo_c ar ad (sU N 20 i v) k' x' = mo_c ar ad N k' x' := by
  intro k' x' hm h
  simp only [mo_ix, List.mem_cons, Prod.mk.injEq, List.not_mem_nil, or_false] at hm
  rcases hm with ⟨rfl, rfl⟩ | ⟨rfl, rfl⟩ | ⟨rfl, rfl⟩ | ⟨rfl, rfl⟩ | ⟨rfl, rfl⟩ | ⟨rfl, rfl⟩ | ⟨rfl, rfl⟩ | ⟨rfl, rfl⟩ | ⟨rfl, rfl⟩ | ⟨rfl, rfl⟩ | ⟨rfl, rfl⟩ | ⟨rfl, rfl⟩ | ⟨rfl, rfl⟩ | ⟨rfl, rfl⟩ | ⟨rfl, rfl⟩ | ⟨rfl, rfl⟩ | ⟨rfl, rfl⟩ | ⟨rfl, rfl⟩ | ⟨rfl, rfl⟩ | ⟨rfl, rfl⟩ | ⟨rfl, rfl⟩ | ⟨rfl, rfl⟩ | ⟨rfl, rfl⟩ | ⟨rfl, rfl⟩ | ⟨rfl, rfl⟩ | ⟨rfl, rfl⟩ | ⟨rfl, rfl⟩ | ⟨rfl, rfl⟩ | ⟨rfl, rfl⟩ | ⟨rfl, rfl⟩ | ⟨rfl, rfl⟩ <;> first | exact absurd ⟨rfl, rfl⟩ h | (simp [mo_c, sI, sU, sJ, bn_up]; done) | (simp only [mo_c, sI, sU, sJ]; rw [bn_up_cf _ _ (by decide)]; done)
theorem mo_value (ar : Nat → ClassId) (ad : Nat → Nat → Nat) (N : bn_S) (i : Nat) (v : Int32) : ∀ k' x' : Nat, (k', x') ∈ mo_ix → ¬ (k' = 21 ∧ x' = 0) → mo_c ar ad (sI N 21 i v) k' x' = mo_c ar ad N k' x' := by
  intro k' x' hm h
  simp only [mo_ix, List.mem_cons, Prod.mk.injEq, List.not_mem_nil, or_false] at hm
  rcases hm with ⟨rfl, rfl⟩ | ⟨rfl, rfl⟩ | ⟨rfl, rfl⟩ | ⟨rfl, rfl⟩ | ⟨rfl, rfl⟩ | ⟨rfl, rfl⟩ | ⟨rfl, rfl⟩ | ⟨rfl, rfl⟩ | ⟨rfl, rfl⟩ | ⟨rfl, rfl⟩ | ⟨rfl, rfl⟩ | ⟨rfl, rfl⟩ | ⟨rfl, rfl⟩ | ⟨rfl, rfl⟩ | ⟨rfl, rfl⟩ | ⟨rfl, rfl⟩ | ⟨rfl, rfl⟩ | ⟨rfl, rfl⟩ | ⟨rfl, rfl⟩ | ⟨rfl, rfl⟩ | ⟨rfl, rfl⟩ | ⟨rfl, rfl⟩ | ⟨rfl, rfl⟩ | ⟨rfl, rfl⟩ | ⟨rfl, rfl⟩ | ⟨rfl, rfl⟩ | ⟨rfl, rfl⟩ | ⟨rfl, rfl⟩ | ⟨rfl, rfl⟩ | ⟨rfl, rfl⟩ | ⟨rfl, rfl⟩ <;> first | exact absurd ⟨rfl, rfl⟩ h | (simp [mo_c, sI, sU, sJ, bn_up]; done) | (simp only [mo_c, sI, sU, sJ]; rw [bn_up_cf _ _ (by decide)]; done)
theorem mo_best (ar : Nat → ClassId) (ad : Nat → Nat → Nat) (N : bn_S) (i : Nat) (v : Int64) : ∀ k' x' : Nat, (k', x') ∈ mo_ix → ¬ (k' = 22 ∧ x' = 0) → mo_c ar ad (sJ N 22 i v) k' x' = mo_c ar ad N k' x' := by
  intro k' x' hm h
  simp only [mo_ix, List.mem_cons, Prod.mk.injEq, List.not_mem_nil, or_false] at hm
  rcases hm with ⟨rfl, rfl⟩ | ⟨rfl, rfl⟩ | ⟨rfl, rfl⟩ | ⟨rfl, rfl⟩ | ⟨rfl, rfl⟩ | ⟨rfl, rfl⟩ | ⟨rfl, rfl⟩ | ⟨rfl, rfl⟩ | ⟨rfl, rfl⟩ | ⟨rfl, rfl⟩ | ⟨rfl, rfl⟩ | ⟨rfl, rfl⟩ | ⟨rfl, rfl⟩ | ⟨rfl, rfl⟩ | ⟨rfl, rfl⟩ | ⟨rfl, rfl⟩ | ⟨rfl, rfl⟩ | ⟨rfl, rfl⟩ | ⟨rfl, rfl⟩ | ⟨rfl, rfl⟩ | ⟨rfl, rfl⟩ | ⟨rfl, rfl⟩ | ⟨rfl, rfl⟩ | ⟨rfl, rfl⟩ | ⟨rfl, rfl⟩ | ⟨rfl, rfl⟩ | ⟨rfl, rfl⟩ | ⟨rfl, rfl⟩ | ⟨rfl, rfl⟩ | ⟨rfl, rfl⟩ | ⟨rfl, rfl⟩ <;> first | exact absurd ⟨rfl, rfl⟩ h | (simp [mo_c, sI, sU, sJ, bn_up]; done) | (simp only [mo_c, sI, sU, sJ]; rw [bn_up_cf _ _ (by decide)]; done)
theorem mo_hops (ar : Nat → ClassId) (ad : Nat → Nat → Nat) (N : bn_S) (i : Nat) (v : Int32) : ∀ k' x' : Nat, (k', x') ∈ mo_ix → ¬ (k' = 23 ∧ x' = 0) → mo_c ar ad (sI N 23 i v) k' x' = mo_c ar ad N k' x' := by
  intro k' x' hm h
  simp only [mo_ix, List.mem_cons, Prod.mk.injEq, List.not_mem_nil, or_false] at hm
  rcases hm with ⟨rfl, rfl⟩ | ⟨rfl, rfl⟩ | ⟨rfl, rfl⟩ | ⟨rfl, rfl⟩ | ⟨rfl, rfl⟩ | ⟨rfl, rfl⟩ | ⟨rfl, rfl⟩ | ⟨rfl, rfl⟩ | ⟨rfl, rfl⟩ | ⟨rfl, rfl⟩ | ⟨rfl, rfl⟩ | ⟨rfl, rfl⟩ | ⟨rfl, rfl⟩ | ⟨rfl, rfl⟩ | ⟨rfl, rfl⟩ | ⟨rfl, rfl⟩ | ⟨rfl, rfl⟩ | ⟨rfl, rfl⟩ | ⟨rfl, rfl⟩ | ⟨rfl, rfl⟩ | ⟨rfl, rfl⟩ | ⟨rfl, rfl⟩ | ⟨rfl, rfl⟩ | ⟨rfl, rfl⟩ | ⟨rfl, rfl⟩ | ⟨rfl, rfl⟩ | ⟨rfl, rfl⟩ | ⟨rfl, rfl⟩ | ⟨rfl, rfl⟩ | ⟨rfl, rfl⟩ | ⟨rfl, rfl⟩ <;> first | exact absurd ⟨rfl, rfl⟩ h | (simp [mo_c, sI, sU, sJ, bn_up]; done) | (simp only [mo_c, sI, sU, sJ]; rw [bn_up_cf _ _ (by decide)]; done)
theorem mo_rootPort (ar : Nat → ClassId) (ad : Nat → Nat → Nat) (N : bn_S) (i : Nat) (v : Int32) : ∀ k' x' : Nat, (k', x') ∈ mo_ix → ¬ (k' = 24 ∧ x' = 0) → mo_c ar ad (sI N 24 i v) k' x' = mo_c ar ad N k' x' := by
  intro k' x' hm h
  simp only [mo_ix, List.mem_cons, Prod.mk.injEq, List.not_mem_nil, or_false] at hm
  rcases hm with ⟨rfl, rfl⟩ | ⟨rfl, rfl⟩ | ⟨rfl, rfl⟩ | ⟨rfl, rfl⟩ | ⟨rfl, rfl⟩ | ⟨rfl, rfl⟩ | ⟨rfl, rfl⟩ | ⟨rfl, rfl⟩ | ⟨rfl, rfl⟩ | ⟨rfl, rfl⟩ | ⟨rfl, rfl⟩ | ⟨rfl, rfl⟩ | ⟨rfl, rfl⟩ | ⟨rfl, rfl⟩ | ⟨rfl, rfl⟩ | ⟨rfl, rfl⟩ | ⟨rfl, rfl⟩ | ⟨rfl, rfl⟩ | ⟨rfl, rfl⟩ | ⟨rfl, rfl⟩ | ⟨rfl, rfl⟩ | ⟨rfl, rfl⟩ | ⟨rfl, rfl⟩ | ⟨rfl, rfl⟩ | ⟨rfl, rfl⟩ | ⟨rfl, rfl⟩ | ⟨rfl, rfl⟩ | ⟨rfl, rfl⟩ | ⟨rfl, rfl⟩ | ⟨rfl, rfl⟩ | ⟨rfl, rfl⟩ <;> first | exact absurd ⟨rfl, rfl⟩ h | (simp [mo_c, sI, sU, sJ, bn_up]; done) | (simp only [mo_c, sI, sU, sJ]; rw [bn_up_cf _ _ (by decide)]; done)
theorem mo_known (ar : Nat → ClassId) (ad : Nat → Nat → Nat) (N : bn_S) (i : Nat) (v : Int32) : ∀ k' x' : Nat, (k', x') ∈ mo_ix → ¬ (k' = 25 ∧ x' = 0) → mo_c ar ad (sI N 25 i v) k' x' = mo_c ar ad N k' x' := by
  intro k' x' hm h
  simp only [mo_ix, List.mem_cons, Prod.mk.injEq, List.not_mem_nil, or_false] at hm
  rcases hm with ⟨rfl, rfl⟩ | ⟨rfl, rfl⟩ | ⟨rfl, rfl⟩ | ⟨rfl, rfl⟩ | ⟨rfl, rfl⟩ | ⟨rfl, rfl⟩ | ⟨rfl, rfl⟩ | ⟨rfl, rfl⟩ | ⟨rfl, rfl⟩ | ⟨rfl, rfl⟩ | ⟨rfl, rfl⟩ | ⟨rfl, rfl⟩ | ⟨rfl, rfl⟩ | ⟨rfl, rfl⟩ | ⟨rfl, rfl⟩ | ⟨rfl, rfl⟩ | ⟨rfl, rfl⟩ | ⟨rfl, rfl⟩ | ⟨rfl, rfl⟩ | ⟨rfl, rfl⟩ | ⟨rfl, rfl⟩ | ⟨rfl, rfl⟩ | ⟨rfl, rfl⟩ | ⟨rfl, rfl⟩ | ⟨rfl, rfl⟩ | ⟨rfl, rfl⟩ | ⟨rfl, rfl⟩ | ⟨rfl, rfl⟩ | ⟨rfl, rfl⟩ | ⟨rfl, rfl⟩ | ⟨rfl, rfl⟩ <;> first | exact absurd ⟨rfl, rfl⟩ h | (simp [mo_c, sI, sU, sJ, bn_up]; done) | (simp only [mo_c, sI, sU, sJ]; rw [bn_up_cf _ _ (by decide)]; done)
theorem mo_behind (ar : Nat → ClassId) (ad : Nat → Nat → Nat) (N : bn_S) (i : Nat) (v : Nat) : ∀ k' x' : Nat, (k', x') ∈ mo_ix → ¬ (k' = 26 ∧ x' = 0) → mo_c ar ad (sU N 26 i v) k' x' = mo_c ar ad N k' x' := by
  intro k' x' hm h
  simp only [mo_ix, List.mem_cons, Prod.mk.injEq, List.not_mem_nil, or_false] at hm
  rcases hm with ⟨rfl, rfl⟩ | ⟨rfl, rfl⟩ | ⟨rfl, rfl⟩ | ⟨rfl, rfl⟩ | ⟨rfl, rfl⟩ | ⟨rfl, rfl⟩ | ⟨rfl, rfl⟩ | ⟨rfl, rfl⟩ | ⟨rfl, rfl⟩ | ⟨rfl, rfl⟩ | ⟨rfl, rfl⟩ | ⟨rfl, rfl⟩ | ⟨rfl, rfl⟩ | ⟨rfl, rfl⟩ | ⟨rfl, rfl⟩ | ⟨rfl, rfl⟩ | ⟨rfl, rfl⟩ | ⟨rfl, rfl⟩ | ⟨rfl, rfl⟩ | ⟨rfl, rfl⟩ | ⟨rfl, rfl⟩ | ⟨rfl, rfl⟩ | ⟨rfl, rfl⟩ | ⟨rfl, rfl⟩ | ⟨rfl, rfl⟩ | ⟨rfl, rfl⟩ | ⟨rfl, rfl⟩ | ⟨rfl, rfl⟩ | ⟨rfl, rfl⟩ | ⟨rfl, rfl⟩ | ⟨rfl, rfl⟩ <;> first | exact absurd ⟨rfl, rfl⟩ h | (simp [mo_c, sI, sU, sJ, bn_up]; done) | (simp only [mo_c, sI, sU, sJ]; rw [bn_up_cf _ _ (by decide)]; done)
theorem mo_at (ar : Nat → ClassId) (ad : Nat → Nat → Nat) (N : bn_S) (i : Nat) (v : Int32) : ∀ k' x' : Nat, (k', x') ∈ mo_ix → ¬ (k' = 27 ∧ x' = 0) → mo_c ar ad (sI N 27 i v) k' x' = mo_c ar ad N k' x' := by
  intro k' x' hm h
  simp only [mo_ix, List.mem_cons, Prod.mk.injEq, List.not_mem_nil, or_false] at hm
  rcases hm with ⟨rfl, rfl⟩ | ⟨rfl, rfl⟩ | ⟨rfl, rfl⟩ | ⟨rfl, rfl⟩ | ⟨rfl, rfl⟩ | ⟨rfl, rfl⟩ | ⟨rfl, rfl⟩ | ⟨rfl, rfl⟩ | ⟨rfl, rfl⟩ | ⟨rfl, rfl⟩ | ⟨rfl, rfl⟩ | ⟨rfl, rfl⟩ | ⟨rfl, rfl⟩ | ⟨rfl, rfl⟩ | ⟨rfl, rfl⟩ | ⟨rfl, rfl⟩ | ⟨rfl, rfl⟩ | ⟨rfl, rfl⟩ | ⟨rfl, rfl⟩ | ⟨rfl, rfl⟩ | ⟨rfl, rfl⟩ | ⟨rfl, rfl⟩ | ⟨rfl, rfl⟩ | ⟨rfl, rfl⟩ | ⟨rfl, rfl⟩ | ⟨rfl, rfl⟩ | ⟨rfl, rfl⟩ | ⟨rfl, rfl⟩ | ⟨rfl, rfl⟩ | ⟨rfl, rfl⟩ | ⟨rfl, rfl⟩ <;> first | exact absurd ⟨rfl, rfl⟩ h | (simp [mo_c, sI, sU, sJ, bn_up]; done) | (simp only [mo_c, sI, sU, sJ]; rw [bn_up_cf _ _ (by decide)]; done)
theorem mo_in (ar : Nat → ClassId) (ad : Nat → Nat → Nat) (N : bn_S) (i : Nat) (v : Nat) : ∀ k' x' : Nat, (k', x') ∈ mo_ix → ¬ (k' = 28 ∧ x' = 0) → mo_c ar ad (sU N 28 i v) k' x' = mo_c ar ad N k' x' := by
  intro k' x' hm h
  simp only [mo_ix, List.mem_cons, Prod.mk.injEq, List.not_mem_nil, or_false] at hm
  rcases hm with ⟨rfl, rfl⟩ | ⟨rfl, rfl⟩ | ⟨rfl, rfl⟩ | ⟨rfl, rfl⟩ | ⟨rfl, rfl⟩ | ⟨rfl, rfl⟩ | ⟨rfl, rfl⟩ | ⟨rfl, rfl⟩ | ⟨rfl, rfl⟩ | ⟨rfl, rfl⟩ | ⟨rfl, rfl⟩ | ⟨rfl, rfl⟩ | ⟨rfl, rfl⟩ | ⟨rfl, rfl⟩ | ⟨rfl, rfl⟩ | ⟨rfl, rfl⟩ | ⟨rfl, rfl⟩ | ⟨rfl, rfl⟩ | ⟨rfl, rfl⟩ | ⟨rfl, rfl⟩ | ⟨rfl, rfl⟩ | ⟨rfl, rfl⟩ | ⟨rfl, rfl⟩ | ⟨rfl, rfl⟩ | ⟨rfl, rfl⟩ | ⟨rfl, rfl⟩ | ⟨rfl, rfl⟩ | ⟨rfl, rfl⟩ | ⟨rfl, rfl⟩ | ⟨rfl, rfl⟩ | ⟨rfl, rfl⟩ <;> first | exact absurd ⟨rfl, rfl⟩ h | (simp [mo_c, sI, sU, sJ, bn_up]; done) | (simp only [mo_c, sI, sU, sJ]; rw [bn_up_cf _ _ (by decide)]; done)
theorem mo_got (ar : Nat → ClassId) (ad : Nat → Nat → Nat) (N : bn_S) (i : Nat) (v : Nat) : ∀ k' x' : Nat, (k', x') ∈ mo_ix → ¬ (k' = 29 ∧ x' = 0) → mo_c ar ad (sU N 29 i v) k' x' = mo_c ar ad N k' x' := by
  intro k' x' hm h
  simp only [mo_ix, List.mem_cons, Prod.mk.injEq, List.not_mem_nil, or_false] at hm
  rcases hm with ⟨rfl, rfl⟩ | ⟨rfl, rfl⟩ | ⟨rfl, rfl⟩ | ⟨rfl, rfl⟩ | ⟨rfl, rfl⟩ | ⟨rfl, rfl⟩ | ⟨rfl, rfl⟩ | ⟨rfl, rfl⟩ | ⟨rfl, rfl⟩ | ⟨rfl, rfl⟩ | ⟨rfl, rfl⟩ | ⟨rfl, rfl⟩ | ⟨rfl, rfl⟩ | ⟨rfl, rfl⟩ | ⟨rfl, rfl⟩ | ⟨rfl, rfl⟩ | ⟨rfl, rfl⟩ | ⟨rfl, rfl⟩ | ⟨rfl, rfl⟩ | ⟨rfl, rfl⟩ | ⟨rfl, rfl⟩ | ⟨rfl, rfl⟩ | ⟨rfl, rfl⟩ | ⟨rfl, rfl⟩ | ⟨rfl, rfl⟩ | ⟨rfl, rfl⟩ | ⟨rfl, rfl⟩ | ⟨rfl, rfl⟩ | ⟨rfl, rfl⟩ | ⟨rfl, rfl⟩ | ⟨rfl, rfl⟩ <;> first | exact absurd ⟨rfl, rfl⟩ h | (simp [mo_c, sI, sU, sJ, bn_up]; done) | (simp only [mo_c, sI, sU, sJ]; rw [bn_up_cf _ _ (by decide)]; done)
theorem mo_inbox (ar : Nat → ClassId) (ad : Nat → Nat → Nat) (N : bn_S) (i : Nat) (v : Int64) : ∀ k' x' : Nat, (k', x') ∈ mo_ix → ¬ (k' = 30 ∧ x' = 0) → mo_c ar ad (sJ N 30 i v) k' x' = mo_c ar ad N k' x' := by
  intro k' x' hm h
  simp only [mo_ix, List.mem_cons, Prod.mk.injEq, List.not_mem_nil, or_false] at hm
  rcases hm with ⟨rfl, rfl⟩ | ⟨rfl, rfl⟩ | ⟨rfl, rfl⟩ | ⟨rfl, rfl⟩ | ⟨rfl, rfl⟩ | ⟨rfl, rfl⟩ | ⟨rfl, rfl⟩ | ⟨rfl, rfl⟩ | ⟨rfl, rfl⟩ | ⟨rfl, rfl⟩ | ⟨rfl, rfl⟩ | ⟨rfl, rfl⟩ | ⟨rfl, rfl⟩ | ⟨rfl, rfl⟩ | ⟨rfl, rfl⟩ | ⟨rfl, rfl⟩ | ⟨rfl, rfl⟩ | ⟨rfl, rfl⟩ | ⟨rfl, rfl⟩ | ⟨rfl, rfl⟩ | ⟨rfl, rfl⟩ | ⟨rfl, rfl⟩ | ⟨rfl, rfl⟩ | ⟨rfl, rfl⟩ | ⟨rfl, rfl⟩ | ⟨rfl, rfl⟩ | ⟨rfl, rfl⟩ | ⟨rfl, rfl⟩ | ⟨rfl, rfl⟩ | ⟨rfl, rfl⟩ | ⟨rfl, rfl⟩ <;> first | exact absurd ⟨rfl, rfl⟩ h | (simp [mo_c, sI, sU, sJ, bn_up]; done) | (simp only [mo_c, sI, sU, sJ]; rw [bn_up_cf _ _ (by decide)]; done)
