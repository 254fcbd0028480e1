/-! relation of the two states (523.rel-compute): written by wip/whole/rel -/
theorem rl_y {nf x0 : Nat} {N0 M0 N M : bn_S} (h : RR nf x0 N0 M0 N M) {x : Nat} (hx : x < 20) (h1 : 1 ≤ M.2.1 4 x) (h2 : M.2.1 4 x < 100) (h0 : x0 / 4 = x / 4 ∨ 20 ≤ x0) : M.2.1 4 x - 1 < 20 ∧ ¬ M.2.1 4 x - 1 = x0 := by
  have hj := h.jb x hx
  have hd := h.diff x hx h1 h2
  refine ⟨by omega, ?_⟩
  intro e
  rw [e] at hd
  rcases h0 with a | a
  · exact hd a
  · omega
theorem rl_post_full {M : bn_S} {x : Nat} (w : Int32) (hc : M.2.1 13 (M.2.1 4 x - 1) = 12) : o_Mo_post M x w = (-1, M) := by unfold o_Mo_post; rw [if_pos hc]
theorem rl_post_ok {M : bn_S} {x : Nat} (w : Int32) (hc : ¬ M.2.1 13 (M.2.1 4 x - 1) = 12) : o_Mo_post M x w = (nI (12 * (M.2.1 4 x - 1) + M.2.1 13 (M.2.1 4 x - 1)), sU (sI M 14 (12 * (M.2.1 4 x - 1) + M.2.1 13 (M.2.1 4 x - 1)) w) 13 (M.2.1 4 x - 1) (M.2.1 13 (M.2.1 4 x - 1) + 1)) := by unfold o_Mo_post; rw [if_neg hc]
theorem rl_nneg {n : Nat} (h : n < 2 ^ 31) : ¬ nI n < 0 := by
  rw [Int32.lt_iff_toInt_lt, nI_toInt h]; simp
theorem rr_tell {nf x0 : Nat} {N0 M0 N M : bn_S} (h : RR nf x0 N0 M0 N M) {x : Nat} (hx : x < 20) {b : Nat} (hb : b = x / 4) (h1 : 1 ≤ M.2.1 4 x) (h2 : M.2.1 4 x < 100) (h0 : x0 / 4 = x / 4 ∨ 20 ≤ x0) : RR nf x0 N0 M0 (o_Br_tellOn N b x) (o_Mo_tell M x) := by
  subst hb
  obtain ⟨hy, hy0⟩ := rl_y h hx h1 h2 h0
  obtain ⟨r, c, i, n, hr, hc, hn, hi, e1, e2, e3, e4, e5⟩ := rl_own h (b := x / 4) (x := x) (by omega) rfl
  unfold o_Br_tellOn o_Mo_tell
  rw [h.peer x hx, rl_p_lt h1 h2, e1, e3]
  show RR nf x0 N0 M0 (o_Li_putTell N (M.2.1 4 x - 1) (rl_v r c i (x % 4)) (nI n) (N.2.1 3 x)) _
  unfold o_Li_putTell o_Li_put
  rw [rl_v_root _ hr (by omega) (by omega) (by omega), h.cnt _ hy, h.prop x hx]
  by_cases hf : M.2.1 13 (M.2.1 4 x - 1) = 12
  · rw [rl_post_full 1 hf, if_pos hf, if_pos (show (-1 : Int32) < 0 from by decide)]
    exact h
  · rw [rl_post_ok 1 hf]
    have hcb := h.cnb _ hy
    rw [if_neg (rl_nneg (by omega)), nI_clamp (by omega)]
    simp only [bn_oc]
    rw [if_neg hf]
    have e6 : r_Mo_wouldTell (sU (sI M 14 (12 * (M.2.1 4 x - 1) + M.2.1 13 (M.2.1 4 x - 1)) 1) 13 (M.2.1 4 x - 1) (M.2.1 13 (M.2.1 4 x - 1) + 1)) x = rl_w r c i (x % 4) := e2
    have e7 : (sU (sI M 14 (12 * (M.2.1 4 x - 1) + M.2.1 13 (M.2.1 4 x - 1)) 1) 13 (M.2.1 4 x - 1) (M.2.1 13 (M.2.1 4 x - 1) + 1)).1 23 (x / 4) = nI n := e4
    have e8 : (sU (sI M 14 (12 * (M.2.1 4 x - 1) + M.2.1 13 (M.2.1 4 x - 1)) 1) 13 (M.2.1 4 x - 1) (M.2.1 13 (M.2.1 4 x - 1) + 1)).2.1 7 x = M.2.1 7 x := rfl
    rw [e6, e7, e8]
    exact rr_putT h hy hy0 hf hr hi (by omega) hc hn _
theorem rl_ld {nf x0 : Nat} {N0 M0 N M : bn_S} (h : RR nf x0 N0 M0 N M) {x : Nat} (hx : x < 20) : r_Po_isLinkedDesignated N x = 0 ↔ ¬ (1 ≤ M.2.1 4 x ∧ M.2.1 4 x < 100 ∧ M.1 5 x = 2) := by
  unfold r_Po_isLinkedDesignated
  rw [h.peer x hx, h.role x hx]
  by_cases hl : 1 ≤ M.2.1 4 x ∧ M.2.1 4 x < 100
  · rw [rl_p_lt hl.1 hl.2]
    simp only [bn_oc]
    by_cases e : M.1 5 x = 2
    · rw [if_pos e]; simp [hl, e]
    · rw [if_neg e]; simp [e]
  · rw [rl_p_none (by omega)]
    simp only [bn_oc]
    constructor
    · intro _ a; exact hl ⟨a.1, a.2.1⟩
    · intro _; trivial
theorem rr_tellAll {nf x0 : Nat} {N0 M0 N M : bn_S} (h : RR nf x0 N0 M0 N M) {b : Nat} (hb : b < 5) (h0 : x0 / 4 = b ∨ 20 ≤ x0) (k : Nat) (hk : k ≤ 4) : RR nf x0 N0 M0 (it_Br_tellOnAll b N k) (it_Mo_tellAll b M k) := by
  induction k with
  | zero => exact h
  | succ k ih =>
    have hR := ih (by omega)
    show RR nf x0 N0 M0 (bd_Br_tellOnAll b k (it_Br_tellOnAll b N k)) (bd_Mo_tellAll b k (it_Mo_tellAll b M k))
    generalize it_Br_tellOnAll b N k = q at hR ⊢
    generalize it_Mo_tellAll b M k = m at hR ⊢
    have hx : 4 * b + k < 20 := by omega
    have hl := rl_ld hR hx
    unfold bd_Br_tellOnAll bd_Mo_tellAll
    by_cases e : 1 ≤ m.2.1 4 (4 * b + k) ∧ m.2.1 4 (4 * b + k) < 100 ∧ m.1 5 (4 * b + k) = 2
    · rw [if_neg (by rw [hl]; exact fun a => a e), if_neg (rl_lk1 e.1 e.2.1), if_pos e.2.2]
      exact rr_tell hR hx (by omega) e.1 e.2.1 (by omega)
    · rw [if_pos (by rw [hl]; exact e)]
      by_cases e1 : r_Mo_isLinked m (4 * b + k) = 0
      · rw [if_pos e1]; exact hR
      · rw [if_neg e1, if_neg (fun a => e (by rw [rl_lk] at e1; exact ⟨by omega, by omega, a⟩))]
        exact hR
theorem rl_roles_st (N : bn_S) (b k : Nat) : (it_Br_giveRoles b (0, N) k).2.1 2 = N.1 2 ∧ (it_Br_giveRoles b (0, N) k).2.1 3 = N.1 3 ∧ (it_Br_giveRoles b (0, N) k).2.1 4 = N.1 4 := by
  induction k with
  | zero => exact ⟨rfl, rfl, rfl⟩
  | succ k ih =>
    show (bd_Br_giveRoles b k (it_Br_giveRoles b (0, N) k)).2.1 2 = _ ∧ (bd_Br_giveRoles b k (it_Br_giveRoles b (0, N) k)).2.1 3 = _ ∧ (bd_Br_giveRoles b k (it_Br_giveRoles b (0, N) k)).2.1 4 = _
    generalize it_Br_giveRoles b (0, N) k = q at ih ⊢
    rw [← ih.1, ← ih.2.1, ← ih.2.2]
    unfold bd_Br_giveRoles
    split
    · exact ⟨rfl, rfl, rfl⟩
    · generalize r_Br_dueRole q.2 b (4 * b + k) = r
      unfold o_Po_become
      split
      · cases q.2.2.2.2 3 (4 * b + k) with
        | none => exact ⟨rfl, rfl, rfl⟩
        | some y => simp only [bn_oc]; split <;> exact ⟨rfl, rfl, rfl⟩
      · split <;> exact ⟨rfl, rfl, rfl⟩
theorem rr_compute {nf x0 : Nat} {N0 M0 N M : bn_S} (h : RR nf x0 N0 M0 N M) {b : Nat} (hb : b < 5) (h0 : x0 / 4 = b ∨ 20 ≤ x0) : RR nf x0 N0 M0 (o_Br_compute N b) (o_Mo_compute M b) := by
  have hC := rr_choose h hb
  have b1 := rl_best h hb M
  have b2 := rl_best hC hb (o_Mo_choose M b)
  unfold o_Br_compute o_Mo_compute
  rw [b1.1, b1.2.1, b1.2.2, b2.1, b2.2.1, b2.2.2]
  have hs := rl_roles_st (o_Br_chooseRoot N b) b 4
  unfold o_Br_giveRoles
  simp only []
  rw [hs.1, hs.2.1, hs.2.2]
  generalize o_Br_chooseRoot N b = NC at hC ⊢
  generalize o_Mo_choose M b = MC at hC ⊢
  obtain ⟨l0, f0⟩ := rr_roles_loop hC hb 0 4 (by omega)
  obtain ⟨l1, f1⟩ := rr_roles_loop hC hb 1 4 (by omega)
  have t0 : RR nf x0 N0 M0 (o_Br_tellOnAll (it_Br_giveRoles b (0, NC) 4).2 b) (o_Mo_tellAll (it_Mo_compute b (0, MC) 4).2 b) := rr_tellAll l0 hb h0 4 (by omega)
  have t1 : RR nf x0 N0 M0 (o_Br_tellOnAll (it_Br_giveRoles b (0, NC) 4).2 b) (o_Mo_tellAll (it_Mo_compute b (1, MC) 4).2 b) := rr_tellAll l1 hb h0 4 (by omega)
  have hm1 : ¬ (it_Mo_compute b (1, MC) 4).1 = 0 := by rcases f1 with ⟨_, a⟩ | ⟨_, a⟩ <;> omega
  rw [if_neg hm1]
  rcases f0 with ⟨a1, a2⟩ | ⟨a1, a2⟩
  · rw [a1, if_pos (show nI 0 = 0 from rfl), if_pos a2]
    split
    · split
      · split
        · exact l0
        · exact t1
      · exact t1
    · exact t1
  · rw [a1, if_neg (show ¬ nI 1 = 0 from by decide), if_neg (show ¬ (it_Mo_compute b (0, MC) 4).1 = 0 from by omega)]
    split
    · split
      · split
        · exact t0
        · exact t1
      · exact t1
    · exact t1
