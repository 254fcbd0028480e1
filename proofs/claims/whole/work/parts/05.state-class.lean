/-! the class: its cells, by kind and number; rows of its fields and arrays: written by wip/whole/emit_state.py -/
def bn_uB (c : Nat) : Nat := if c ≤ 5 then 2 else if c = 6 then 12 else if c = 7 then 13 else if c = 8 then 3 else if c = 9 then 41 else if c = 10 then 8 else if c = 11 then 10 else if c = 12 then 3 else 4
def bn_uL (c : Nat) : Nat := if c = 8 then 1 else if c = 12 then 1 else 0
def bn_oB (nf c : Nat) : Nat := if c = 3 then 8 else if c = 5 then nf else 20
def bn_wf (nf : Nat) (N : bn_S) : Prop := (∀ c x : Nat, bn_uL c ≤ N.2.1 c x ∧ N.2.1 c x < bn_uB c) ∧ ∀ c x y : Nat, N.2.2.2 c x = some y → y < bn_oB nf c
theorem bn_wf_I {nf : Nat} {N : bn_S} (h : bn_wf nf N) (c x : Nat) (v : Int32) : bn_wf nf (sI N c x v) := h
theorem bn_wf_J {nf : Nat} {N : bn_S} (h : bn_wf nf N) (c x : Nat) (v : Int64) : bn_wf nf (sJ N c x v) := h
theorem bn_wf_U {nf : Nat} {N : bn_S} (h : bn_wf nf N) (c x : Nat) {v : Nat} (h1 : bn_uL c ≤ v) (h2 : v < bn_uB c) : bn_wf nf (sU N c x v) := by
  refine ⟨fun c' x' => ?_, h.2⟩
  show bn_uL c' ≤ bn_up N.2.1 c x v c' x' ∧ bn_up N.2.1 c x v c' x' < bn_uB c'
  unfold bn_up
  split
  · rename_i he
    rw [he.1]
    exact ⟨h1, h2⟩
  · exact h.1 c' x'
theorem bn_wf_O {nf : Nat} {N : bn_S} (h : bn_wf nf N) (c x : Nat) {v : Option Nat} (h1 : ∀ y, v = some y → y < bn_oB nf c) : bn_wf nf (sO N c x v) := by
  refine ⟨h.1, fun c' x' y hy => ?_⟩
  have hy : bn_up N.2.2.2 c x v c' x' = some y := hy
  unfold bn_up at hy
  split at hy
  · rename_i he
    rw [he.1]
    exact h1 y hy
  · exact h.2 c' x' y hy
theorem wf_tells {nf : Nat} {N : bn_S} (h : bn_wf nf N) (x : Nat) : N.2.1 1 x < 2 := (h.1 1 x).2
theorem wf_hasInfo {nf : Nat} {N : bn_S} (h : bn_wf nf N) (x : Nat) : N.2.1 2 x < 2 := (h.1 2 x).2
theorem wf_prop {nf : Nat} {N : bn_S} (h : bn_wf nf N) (x : Nat) : N.2.1 3 x < 2 := (h.1 3 x).2
theorem wf_agr {nf : Nat} {N : bn_S} (h : bn_wf nf N) (x : Nat) : N.2.1 4 x < 2 := (h.1 4 x).2
theorem wf_mprop {nf : Nat} {N : bn_S} (h : bn_wf nf N) (x : Nat) : N.2.1 5 x < 2 := (h.1 5 x).2
theorem wf_first {nf : Nat} {N : bn_S} (h : bn_wf nf N) (x : Nat) : N.2.1 6 x < 12 := (h.1 6 x).2
theorem wf_count {nf : Nat} {N : bn_S} (h : bn_wf nf N) (x : Nat) : N.2.1 7 x < 13 := (h.1 7 x).2
theorem wf_svlan {nf : Nat} {N : bn_S} (h : bn_wf nf N) (x : Nat) : N.2.1 8 x < 3 := (h.1 8 x).2
theorem wf_svlan_lo {nf : Nat} {N : bn_S} (h : bn_wf nf N) (x : Nat) : 1 ≤ N.2.1 8 x := (h.1 8 x).1
theorem wf_scount {nf : Nat} {N : bn_S} (h : bn_wf nf N) (x : Nat) : N.2.1 9 x < 41 := (h.1 9 x).2
theorem wf_src {nf : Nat} {N : bn_S} (h : bn_wf nf N) (x : Nat) : N.2.1 10 x < 8 := (h.1 10 x).2
theorem wf_dst {nf : Nat} {N : bn_S} (h : bn_wf nf N) (x : Nat) : N.2.1 11 x < 10 := (h.1 11 x).2
theorem wf_fvlan {nf : Nat} {N : bn_S} (h : bn_wf nf N) (x : Nat) : N.2.1 12 x < 3 := (h.1 12 x).2
theorem wf_fvlan_lo {nf : Nat} {N : bn_S} (h : bn_wf nf N) (x : Nat) : 1 ≤ N.2.1 12 x := (h.1 12 x).1
theorem bn_uB_p (b : Nat) : bn_uB (b + 20) = 4 := by
  unfold bn_uB
  rw [if_neg (by omega), if_neg (by omega), if_neg (by omega), if_neg (by omega), if_neg (by omega), if_neg (by omega), if_neg (by omega), if_neg (by omega)]
theorem bn_uL_p (b : Nat) : bn_uL (b + 20) = 0 := by
  unfold bn_uL
  rw [if_neg (by omega), if_neg (by omega)]
theorem wf_place {nf : Nat} {N : bn_S} (h : bn_wf nf N) (b i : Nat) : N.2.1 (b + 20) i < 4 := by
  have h1 := (h.1 (b + 20) i).2
  rw [bn_uB_p] at h1
  exact h1
def bn_c (ar : Nat → ClassId) (ad : Nat → Nat → Nat) (N : bn_S) (k x : Nat) : va_E := match k with
  | 0 => .inr (0, [.ref (ad 1 0), .ref (ad 10 0), .int (nI (N.2.1 1 x))])
  | 1 => .inl (ar 3, 5, .inr (.inr (.inr (.inr (fun i => some (ad 2 i))))))
  | 2 => .inr (1, [.int (nI x), .int (N.1 1 x), .ref (ad 3 x), .int (N.1 2 x), .int (N.1 3 x), .int (N.1 4 x), va_rf ((N.2.2.2 1 x).map (ad 6)), .ref (ad 4 x), .ref (ad 5 x)])
  | 3 => .inl (ar 4, 4, .inr (.inr (.inr (.inr (fun i => some (ad 6 (4 * x + i)))))))
  | 4 => .inl (ar 0, 16, .inl (fun i => nI (N.2.1 (x + 20) i)))
  | 5 => .inl (ar 0, 16, .inl (N.1 (x + 20)))
  | 6 => .inr (2, [.ref (ad 2 (x / 4)), .int (nI (x % 4)), .ref (ad 7 x), .int (N.1 5 x), .int (N.1 6 x), va_rf ((N.2.2.2 2 x).map (ad 6)), va_rf ((N.2.2.2 3 x).map (ad 11)), .int (nI (N.2.1 2 x)), .long (N.2.2.1 1 x), .int (N.1 7 x), .int (N.1 8 x), .int (N.1 9 x), .int (N.1 10 x), .int (nI (N.2.1 3 x)), .int (nI (N.2.1 4 x)), .int (N.1 11 x)])
  | 7 => .inr (3, [.ref (ad 8 x), .int (nI (N.2.1 6 x)), .int (nI (N.2.1 7 x))])
  | 8 => .inl (ar 5, 12, .inr (.inr (.inr (.inr (fun i => some (ad 9 (12 * x + i)))))))
  | 9 => .inr (4, [.int (N.1 12 x), .int (N.1 13 x), .long (N.2.2.1 2 x), .int (N.1 14 x), .int (nI (N.2.1 5 x)), va_rf ((N.2.2.2 5 x).map (ad 13))])
  | 10 => .inl (ar 6, 8, .inr (.inr (.inr (.inr (fun i => some (ad 11 i))))))
  | 11 => .inr (5, [va_rf ((N.2.2.2 4 x).map (ad 6)), .int (nI (N.2.1 8 x)), .ref (ad 12 x), .int (nI (N.2.1 9 x))])
  | 12 => .inl (ar 1, 40, .inr (.inl (N.2.2.1 (x + 20))))
  | _ => .inr (6, [.int (nI (N.2.1 10 x)), .int (nI (N.2.1 11 x)), .int (nI (N.2.1 12 x)), .int (N.1 15 x)])
def bn_ty (ar : Nat → ClassId) : List (ClassId × FieldType) := [(ar 0, .int), (ar 1, .long), (ar 2, .boolean), (ar 3, .object "BridgeNet$Bridge"), (ar 4, .object "BridgeNet$Port"), (ar 5, .object "BridgeNet$Message"), (ar 6, .object "BridgeNet$Station")]
def bn_ix (nf : Nat) : List (Nat × Nat) := (0, 0) :: (1, 0) :: (10, 0) :: ((List.range 5).map (fun i => (2, i)) ++ (List.range 5).map (fun i => (3, i)) ++ (List.range 5).map (fun i => (4, i)) ++ (List.range 5).map (fun i => (5, i)) ++ (List.range 20).map (fun i => (6, i)) ++ (List.range 20).map (fun i => (7, i)) ++ (List.range 20).map (fun i => (8, i)) ++ (List.range 240).map (fun i => (9, i)) ++ (List.range 8).map (fun i => (11, i)) ++ (List.range 8).map (fun i => (12, i)) ++ (List.range nf).map (fun i => (13, i)))
theorem mm_2 {nf x : Nat} (h : x < 5) : (2, x) ∈ bn_ix nf := by simp [bn_ix, h]
theorem mm_3 {nf x : Nat} (h : x < 5) : (3, x) ∈ bn_ix nf := by simp [bn_ix, h]
theorem mm_4 {nf x : Nat} (h : x < 5) : (4, x) ∈ bn_ix nf := by simp [bn_ix, h]
theorem mm_5 {nf x : Nat} (h : x < 5) : (5, x) ∈ bn_ix nf := by simp [bn_ix, h]
theorem mm_6 {nf x : Nat} (h : x < 20) : (6, x) ∈ bn_ix nf := by simp [bn_ix, h]
theorem mm_7 {nf x : Nat} (h : x < 20) : (7, x) ∈ bn_ix nf := by simp [bn_ix, h]
theorem mm_8 {nf x : Nat} (h : x < 20) : (8, x) ∈ bn_ix nf := by simp [bn_ix, h]
theorem mm_9 {nf x : Nat} (h : x < 240) : (9, x) ∈ bn_ix nf := by simp [bn_ix, h]
theorem mm_11 {nf x : Nat} (h : x < 8) : (11, x) ∈ bn_ix nf := by simp [bn_ix, h]
theorem mm_12 {nf x : Nat} (h : x < 8) : (12, x) ∈ bn_ix nf := by simp [bn_ix, h]
theorem mm_13 {nf x : Nat} (h : x < nf) : (13, x) ∈ bn_ix nf := by simp [bn_ix, h]
theorem mm_0 {nf : Nat} : (0, 0) ∈ bn_ix nf := by simp [bn_ix]
theorem mm_1 {nf : Nat} : (1, 0) ∈ bn_ix nf := by simp [bn_ix]
theorem mm_10 {nf : Nat} : (10, 0) ∈ bn_ix nf := by simp [bn_ix]
abbrev bn_y (D : va_G) (ar : Nat → ClassId) (ad : Nat → Nat → Nat) (nf : Nat) : bn_Y := (D, bn_ty ar, bn_ix nf, ad, bn_c ar ad, bn_wf nf)
theorem o_Ne_tellsAtNextTick (ar : Nat → ClassId) (ad : Nat → Nat → Nat) (N : bn_S) (x : Nat) (v : Nat) : ∀ k' x' : Nat, ¬ (k' = 0 ∧ x' = x) → bn_c ar ad (sU N 1 x v) k' x' = bn_c ar ad N k' x' := by
  intro k' x' h
  unfold bn_c
  split <;> first | (simp_all [sI, sU, sJ, sO, bn_up]; done) | (simp_all [sI, sU, sJ, sO]; exact bn_up_cf _ _ (by omega))
theorem o_Br_id (ar : Nat → ClassId) (ad : Nat → Nat → Nat) (N : bn_S) (x : Nat) (v : Int32) : ∀ k' x' : Nat, ¬ (k' = 2 ∧ x' = x) → bn_c ar ad (sI N 1 x v) k' x' = bn_c ar ad N k' x' := by
  intro k' x' h
  unfold bn_c
  split <;> first | (simp_all [sI, sU, sJ, sO, bn_up]; done) | (simp_all [sI, sU, sJ, sO]; exact bn_up_cf _ _ (by omega))
theorem o_Br_root (ar : Nat → ClassId) (ad : Nat → Nat → Nat) (N : bn_S) (x : Nat) (v : Int32) : ∀ k' x' : Nat, ¬ (k' = 2 ∧ x' = x) → bn_c ar ad (sI N 2 x v) k' x' = bn_c ar ad N k' x' := by
  intro k' x' h
  unfold bn_c
  split <;> first | (simp_all [sI, sU, sJ, sO, bn_up]; done) | (simp_all [sI, sU, sJ, sO]; exact bn_up_cf _ _ (by omega))
theorem o_Br_cost (ar : Nat → ClassId) (ad : Nat → Nat → Nat) (N : bn_S) (x : Nat) (v : Int32) : ∀ k' x' : Nat, ¬ (k' = 2 ∧ x' = x) → bn_c ar ad (sI N 3 x v) k' x' = bn_c ar ad N k' x' := by
  intro k' x' h
  unfold bn_c
  split <;> first | (simp_all [sI, sU, sJ, sO, bn_up]; done) | (simp_all [sI, sU, sJ, sO]; exact bn_up_cf _ _ (by omega))
theorem o_Br_hops (ar : Nat → ClassId) (ad : Nat → Nat → Nat) (N : bn_S) (x : Nat) (v : Int32) : ∀ k' x' : Nat, ¬ (k' = 2 ∧ x' = x) → bn_c ar ad (sI N 4 x v) k' x' = bn_c ar ad N k' x' := by
  intro k' x' h
  unfold bn_c
  split <;> first | (simp_all [sI, sU, sJ, sO, bn_up]; done) | (simp_all [sI, sU, sJ, sO]; exact bn_up_cf _ _ (by omega))
theorem o_Br_rootPort (ar : Nat → ClassId) (ad : Nat → Nat → Nat) (N : bn_S) (x : Nat) (v : Option Nat) : ∀ k' x' : Nat, ¬ (k' = 2 ∧ x' = x) → bn_c ar ad (sO N 1 x v) k' x' = bn_c ar ad N k' x' := by
  intro k' x' h
  unfold bn_c
  split <;> first | (simp_all [sI, sU, sJ, sO, bn_up]; done) | (simp_all [sI, sU, sJ, sO]; exact bn_up_cf _ _ (by omega))
theorem o_Po_cost (ar : Nat → ClassId) (ad : Nat → Nat → Nat) (N : bn_S) (x : Nat) (v : Int32) : ∀ k' x' : Nat, ¬ (k' = 6 ∧ x' = x) → bn_c ar ad (sI N 5 x v) k' x' = bn_c ar ad N k' x' := by
  intro k' x' h
  unfold bn_c
  split <;> first | (simp_all [sI, sU, sJ, sO, bn_up]; done) | (simp_all [sI, sU, sJ, sO]; exact bn_up_cf _ _ (by omega))
theorem o_Po_vlans (ar : Nat → ClassId) (ad : Nat → Nat → Nat) (N : bn_S) (x : Nat) (v : Int32) : ∀ k' x' : Nat, ¬ (k' = 6 ∧ x' = x) → bn_c ar ad (sI N 6 x v) k' x' = bn_c ar ad N k' x' := by
  intro k' x' h
  unfold bn_c
  split <;> first | (simp_all [sI, sU, sJ, sO, bn_up]; done) | (simp_all [sI, sU, sJ, sO]; exact bn_up_cf _ _ (by omega))
theorem o_Po_peer (ar : Nat → ClassId) (ad : Nat → Nat → Nat) (N : bn_S) (x : Nat) (v : Option Nat) : ∀ k' x' : Nat, ¬ (k' = 6 ∧ x' = x) → bn_c ar ad (sO N 2 x v) k' x' = bn_c ar ad N k' x' := by
  intro k' x' h
  unfold bn_c
  split <;> first | (simp_all [sI, sU, sJ, sO, bn_up]; done) | (simp_all [sI, sU, sJ, sO]; exact bn_up_cf _ _ (by omega))
theorem o_Po_station (ar : Nat → ClassId) (ad : Nat → Nat → Nat) (N : bn_S) (x : Nat) (v : Option Nat) : ∀ k' x' : Nat, ¬ (k' = 6 ∧ x' = x) → bn_c ar ad (sO N 3 x v) k' x' = bn_c ar ad N k' x' := by
  intro k' x' h
  unfold bn_c
  split <;> first | (simp_all [sI, sU, sJ, sO, bn_up]; done) | (simp_all [sI, sU, sJ, sO]; exact bn_up_cf _ _ (by omega))
theorem o_Po_hasInfo (ar : Nat → ClassId) (ad : Nat → Nat → Nat) (N : bn_S) (x : Nat) (v : Nat) : ∀ k' x' : Nat, ¬ (k' = 6 ∧ x' = x) → bn_c ar ad (sU N 2 x v) k' x' = bn_c ar ad N k' x' := by
  intro k' x' h
  unfold bn_c
  split <;> first | (simp_all [sI, sU, sJ, sO, bn_up]; done) | (simp_all [sI, sU, sJ, sO]; exact bn_up_cf _ _ (by omega))
theorem o_Po_info (ar : Nat → ClassId) (ad : Nat → Nat → Nat) (N : bn_S) (x : Nat) (v : Int64) : ∀ k' x' : Nat, ¬ (k' = 6 ∧ x' = x) → bn_c ar ad (sJ N 1 x v) k' x' = bn_c ar ad N k' x' := by
  intro k' x' h
  unfold bn_c
  split <;> first | (simp_all [sI, sU, sJ, sO, bn_up]; done) | (simp_all [sI, sU, sJ, sO]; exact bn_up_cf _ _ (by omega))
theorem o_Po_infoHops (ar : Nat → ClassId) (ad : Nat → Nat → Nat) (N : bn_S) (x : Nat) (v : Int32) : ∀ k' x' : Nat, ¬ (k' = 6 ∧ x' = x) → bn_c ar ad (sI N 7 x v) k' x' = bn_c ar ad N k' x' := by
  intro k' x' h
  unfold bn_c
  split <;> first | (simp_all [sI, sU, sJ, sO, bn_up]; done) | (simp_all [sI, sU, sJ, sO]; exact bn_up_cf _ _ (by omega))
theorem o_Po_infoLife (ar : Nat → ClassId) (ad : Nat → Nat → Nat) (N : bn_S) (x : Nat) (v : Int32) : ∀ k' x' : Nat, ¬ (k' = 6 ∧ x' = x) → bn_c ar ad (sI N 8 x v) k' x' = bn_c ar ad N k' x' := by
  intro k' x' h
  unfold bn_c
  split <;> first | (simp_all [sI, sU, sJ, sO, bn_up]; done) | (simp_all [sI, sU, sJ, sO]; exact bn_up_cf _ _ (by omega))
theorem o_Po_role (ar : Nat → ClassId) (ad : Nat → Nat → Nat) (N : bn_S) (x : Nat) (v : Int32) : ∀ k' x' : Nat, ¬ (k' = 6 ∧ x' = x) → bn_c ar ad (sI N 9 x v) k' x' = bn_c ar ad N k' x' := by
  intro k' x' h
  unfold bn_c
  split <;> first | (simp_all [sI, sU, sJ, sO, bn_up]; done) | (simp_all [sI, sU, sJ, sO]; exact bn_up_cf _ _ (by omega))
theorem o_Po_state (ar : Nat → ClassId) (ad : Nat → Nat → Nat) (N : bn_S) (x : Nat) (v : Int32) : ∀ k' x' : Nat, ¬ (k' = 6 ∧ x' = x) → bn_c ar ad (sI N 10 x v) k' x' = bn_c ar ad N k' x' := by
  intro k' x' h
  unfold bn_c
  split <;> first | (simp_all [sI, sU, sJ, sO, bn_up]; done) | (simp_all [sI, sU, sJ, sO]; exact bn_up_cf _ _ (by omega))
theorem o_Po_proposing (ar : Nat → ClassId) (ad : Nat → Nat → Nat) (N : bn_S) (x : Nat) (v : Nat) : ∀ k' x' : Nat, ¬ (k' = 6 ∧ x' = x) → bn_c ar ad (sU N 3 x v) k' x' = bn_c ar ad N k' x' := by
  intro k' x' h
  unfold bn_c
  split <;> first | (simp_all [sI, sU, sJ, sO, bn_up]; done) | (simp_all [sI, sU, sJ, sO]; exact bn_up_cf _ _ (by omega))
theorem o_Po_agreed (ar : Nat → ClassId) (ad : Nat → Nat → Nat) (N : bn_S) (x : Nat) (v : Nat) : ∀ k' x' : Nat, ¬ (k' = 6 ∧ x' = x) → bn_c ar ad (sU N 4 x v) k' x' = bn_c ar ad N k' x' := by
  intro k' x' h
  unfold bn_c
  split <;> first | (simp_all [sI, sU, sJ, sO, bn_up]; done) | (simp_all [sI, sU, sJ, sO]; exact bn_up_cf _ _ (by omega))
theorem o_Po_waits (ar : Nat → ClassId) (ad : Nat → Nat → Nat) (N : bn_S) (x : Nat) (v : Int32) : ∀ k' x' : Nat, ¬ (k' = 6 ∧ x' = x) → bn_c ar ad (sI N 11 x v) k' x' = bn_c ar ad N k' x' := by
  intro k' x' h
  unfold bn_c
  split <;> first | (simp_all [sI, sU, sJ, sO, bn_up]; done) | (simp_all [sI, sU, sJ, sO]; exact bn_up_cf _ _ (by omega))
theorem o_Li_first (ar : Nat → ClassId) (ad : Nat → Nat → Nat) (N : bn_S) (x : Nat) (v : Nat) : ∀ k' x' : Nat, ¬ (k' = 7 ∧ x' = x) → bn_c ar ad (sU N 6 x v) k' x' = bn_c ar ad N k' x' := by
  intro k' x' h
  unfold bn_c
  split <;> first | (simp_all [sI, sU, sJ, sO, bn_up]; done) | (simp_all [sI, sU, sJ, sO]; exact bn_up_cf _ _ (by omega))
theorem o_Li_count (ar : Nat → ClassId) (ad : Nat → Nat → Nat) (N : bn_S) (x : Nat) (v : Nat) : ∀ k' x' : Nat, ¬ (k' = 7 ∧ x' = x) → bn_c ar ad (sU N 7 x v) k' x' = bn_c ar ad N k' x' := by
  intro k' x' h
  unfold bn_c
  split <;> first | (simp_all [sI, sU, sJ, sO, bn_up]; done) | (simp_all [sI, sU, sJ, sO]; exact bn_up_cf _ _ (by omega))
theorem o_Ms_kind (ar : Nat → ClassId) (ad : Nat → Nat → Nat) (N : bn_S) (x : Nat) (v : Int32) : ∀ k' x' : Nat, ¬ (k' = 9 ∧ x' = x) → bn_c ar ad (sI N 12 x v) k' x' = bn_c ar ad N k' x' := by
  intro k' x' h
  unfold bn_c
  split <;> first | (simp_all [sI, sU, sJ, sO, bn_up]; done) | (simp_all [sI, sU, sJ, sO]; exact bn_up_cf _ _ (by omega))
theorem o_Ms_root (ar : Nat → ClassId) (ad : Nat → Nat → Nat) (N : bn_S) (x : Nat) (v : Int32) : ∀ k' x' : Nat, ¬ (k' = 9 ∧ x' = x) → bn_c ar ad (sI N 13 x v) k' x' = bn_c ar ad N k' x' := by
  intro k' x' h
  unfold bn_c
  split <;> first | (simp_all [sI, sU, sJ, sO, bn_up]; done) | (simp_all [sI, sU, sJ, sO]; exact bn_up_cf _ _ (by omega))
theorem o_Ms_vector (ar : Nat → ClassId) (ad : Nat → Nat → Nat) (N : bn_S) (x : Nat) (v : Int64) : ∀ k' x' : Nat, ¬ (k' = 9 ∧ x' = x) → bn_c ar ad (sJ N 2 x v) k' x' = bn_c ar ad N k' x' := by
  intro k' x' h
  unfold bn_c
  split <;> first | (simp_all [sI, sU, sJ, sO, bn_up]; done) | (simp_all [sI, sU, sJ, sO]; exact bn_up_cf _ _ (by omega))
theorem o_Ms_hops (ar : Nat → ClassId) (ad : Nat → Nat → Nat) (N : bn_S) (x : Nat) (v : Int32) : ∀ k' x' : Nat, ¬ (k' = 9 ∧ x' = x) → bn_c ar ad (sI N 14 x v) k' x' = bn_c ar ad N k' x' := by
  intro k' x' h
  unfold bn_c
  split <;> first | (simp_all [sI, sU, sJ, sO, bn_up]; done) | (simp_all [sI, sU, sJ, sO]; exact bn_up_cf _ _ (by omega))
theorem o_Ms_proposing (ar : Nat → ClassId) (ad : Nat → Nat → Nat) (N : bn_S) (x : Nat) (v : Nat) : ∀ k' x' : Nat, ¬ (k' = 9 ∧ x' = x) → bn_c ar ad (sU N 5 x v) k' x' = bn_c ar ad N k' x' := by
  intro k' x' h
  unfold bn_c
  split <;> first | (simp_all [sI, sU, sJ, sO, bn_up]; done) | (simp_all [sI, sU, sJ, sO]; exact bn_up_cf _ _ (by omega))
theorem o_Ms_frame (ar : Nat → ClassId) (ad : Nat → Nat → Nat) (N : bn_S) (x : Nat) (v : Option Nat) : ∀ k' x' : Nat, ¬ (k' = 9 ∧ x' = x) → bn_c ar ad (sO N 5 x v) k' x' = bn_c ar ad N k' x' := by
  intro k' x' h
  unfold bn_c
  split <;> first | (simp_all [sI, sU, sJ, sO, bn_up]; done) | (simp_all [sI, sU, sJ, sO]; exact bn_up_cf _ _ (by omega))
theorem o_St_place (ar : Nat → ClassId) (ad : Nat → Nat → Nat) (N : bn_S) (x : Nat) (v : Option Nat) : ∀ k' x' : Nat, ¬ (k' = 11 ∧ x' = x) → bn_c ar ad (sO N 4 x v) k' x' = bn_c ar ad N k' x' := by
  intro k' x' h
  unfold bn_c
  split <;> first | (simp_all [sI, sU, sJ, sO, bn_up]; done) | (simp_all [sI, sU, sJ, sO]; exact bn_up_cf _ _ (by omega))
theorem o_St_vlan (ar : Nat → ClassId) (ad : Nat → Nat → Nat) (N : bn_S) (x : Nat) (v : Nat) : ∀ k' x' : Nat, ¬ (k' = 11 ∧ x' = x) → bn_c ar ad (sU N 8 x v) k' x' = bn_c ar ad N k' x' := by
  intro k' x' h
  unfold bn_c
  split <;> first | (simp_all [sI, sU, sJ, sO, bn_up]; done) | (simp_all [sI, sU, sJ, sO]; exact bn_up_cf _ _ (by omega))
theorem o_St_count (ar : Nat → ClassId) (ad : Nat → Nat → Nat) (N : bn_S) (x : Nat) (v : Nat) : ∀ k' x' : Nat, ¬ (k' = 11 ∧ x' = x) → bn_c ar ad (sU N 9 x v) k' x' = bn_c ar ad N k' x' := by
  intro k' x' h
  unfold bn_c
  split <;> first | (simp_all [sI, sU, sJ, sO, bn_up]; done) | (simp_all [sI, sU, sJ, sO]; exact bn_up_cf _ _ (by omega))
theorem o_arr_4 (ar : Nat → ClassId) (ad : Nat → Nat → Nat) (N : bn_S) (x i : Nat) (v : Nat) : ∀ k' x' : Nat, ¬ (k' = 4 ∧ x' = x) → bn_c ar ad (sU N (x + 20) i v) k' x' = bn_c ar ad N k' x' := by
  intro k' x' h
  unfold bn_c
  split <;> first | (simp_all [sI, sU, sJ, sO, bn_up]; done) | (simp_all [sI, sU, sJ, sO]; exact bn_up_cf _ _ (by omega)) | (simp [sI, sU, sJ, sO, bn_up]; intros; omega)
theorem o_arr_5 (ar : Nat → ClassId) (ad : Nat → Nat → Nat) (N : bn_S) (x i : Nat) (v : Int32) : ∀ k' x' : Nat, ¬ (k' = 5 ∧ x' = x) → bn_c ar ad (sI N (x + 20) i v) k' x' = bn_c ar ad N k' x' := by
  intro k' x' h
  unfold bn_c
  split <;> first | (simp_all [sI, sU, sJ, sO, bn_up]; done) | (simp_all [sI, sU, sJ, sO]; exact bn_up_cf _ _ (by omega)) | (simp [sI, sU, sJ, sO, bn_up]; intros; omega)
theorem o_arr_12 (ar : Nat → ClassId) (ad : Nat → Nat → Nat) (N : bn_S) (x i : Nat) (v : Int64) : ∀ k' x' : Nat, ¬ (k' = 12 ∧ x' = x) → bn_c ar ad (sJ N (x + 20) i v) k' x' = bn_c ar ad N k' x' := by
  intro k' x' h
  unfold bn_c
  split <;> first | (simp_all [sI, sU, sJ, sO, bn_up]; done) | (simp_all [sI, sU, sJ, sO]; exact bn_up_cf _ _ (by omega)) | (simp [sI, sU, sJ, sO, bn_up]; intros; omega)
