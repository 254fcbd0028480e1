/-! relation of the two states (522.rel-put): written by wip/whole/rel -/
theorem rl_best {nf x0 : Nat} {N0 M0 N M : bn_S} (h : RR nf x0 N0 M0 N M) {b : Nat} (hb : b < 5) (M' : bn_S) : r_Mo_rootOf M' (M.2.2.1 22 b) = N.1 2 b ∧ r_Mo_costOf M' (M.2.2.1 22 b) = N.1 3 b ∧ M.1 23 b = N.1 4 b := by
  obtain ⟨r, c, g, p, n, hr, hg, hp, hc, hn, e1, e2, e3, e4, e5⟩ := h.best b hb
  rw [e1, e2, e3, e4, e5, rl_w_root _ hr (by omega) (by omega) (by omega), rl_w_cost _ hr (by omega) (by omega) (by omega)]
  exact ⟨rfl, rfl, rfl⟩
theorem rl_own {nf x0 : Nat} {N0 M0 N M : bn_S} (h : RR nf x0 N0 M0 N M) {b x : Nat} (hb : b < 5) (hx : x / 4 = b) : ∃ r c i n : Nat, r < 128 ∧ c ≤ 50 * n ∧ n ≤ 6 ∧ i < 128 ∧ r_Br_ownVector N b x = rl_v r c i (x % 4) ∧ r_Mo_wouldTell M x = rl_w r c i (x % 4) ∧ N.1 4 b = nI n ∧ M.1 23 b = nI n ∧ N.1 2 b = nI r := by
  obtain ⟨r, c, g, p, n, hr, hg, hp, hc, hn, e1, e2, e3, e4, e5⟩ := h.best b hb
  obtain ⟨i, hi, i1, i2⟩ := rl_id h hb
  refine ⟨r, c, i, n, hr, hc, hn, hi, ?_, ?_, e3, e5, e1⟩
  · unfold r_Br_ownVector
    rw [e1, e2, i1]
    exact rl_v_of N hr (by omega) (by omega) (by omega)
  · unfold r_Mo_wouldTell
    rw [hx, e4, rl_w_root _ hr (by omega) (by omega) (by omega), rl_w_cost _ hr (by omega) (by omega) (by omega), i2, rl_64 (by omega), rl_64 (by omega), rl_64 (by omega), rl_64 (by omega)]
    exact rl_w_of M hr (by omega) (by omega) (by omega)
theorem rl_free {nf x0 : Nat} {N0 M0 N M : bn_S} (h : RR nf x0 N0 M0 N M) {x : Nat} (hx : x < 20) : r_Po_isFree N x = 0 ↔ ¬ M.2.1 4 x = 0 := by
  unfold r_Po_isFree
  rw [h.peer x hx, h.stn x hx]
  by_cases h0 : M.2.1 4 x = 0
  · rw [rl_p_none (Or.inl h0), rl_s_none (by omega)]
    simp [bn_oc, h0]
  · by_cases h1 : M.2.1 4 x < 100
    · rw [rl_p_lt (by omega) h1]
      simp [bn_oc, h0]
    · rw [rl_p_none (by omega), rl_s_ge (by omega)]
      simp [bn_oc, h0]
theorem rl_due {nf x0 : Nat} {N0 M0 N M : bn_S} (h : RR nf x0 N0 M0 N M) {x : Nat} (hx : x < 20) {b : Nat} (hb : b < 5) (hxb : x / 4 = b) : r_Br_dueRole N b x = r_Mo_roleOf M x ∧ (r_Mo_roleOf M x = 1 ∨ r_Mo_roleOf M x = 3 → 1 ≤ M.2.1 4 x ∧ M.2.1 4 x < 100) ∧ (r_Mo_roleOf M x = 2 → ¬ M.2.1 4 x = 0) := by
  unfold r_Br_dueRole r_Mo_roleOf
  by_cases h0 : M.2.1 4 x = 0
  · rw [if_neg (fun a => (rl_free h hx).mp a h0), if_pos h0]
    simp
  · rw [if_pos ((rl_free h hx).mpr h0), if_neg h0, h.stn x hx]
    refine ⟨?_, ?_, fun _ => h0⟩
    · by_cases h1 : M.2.1 4 x < 100
      · rw [rl_s_none h1, if_pos h1]
        obtain ⟨r, c, i, n, hr, hc, hn, hi, e1, e2, _, _, _⟩ := rl_own h hb hxb
        rw [e1, e2]
        have key : (if N.2.1 2 x = 0 then (2 : Int32) else (if N.2.2.1 1 x ≤ rl_v r c i (x % 4) then 3 else 2)) = (if M.1 12 x = 0 then 2 else (if M.2.2.1 10 x ≤ rl_w r c i (x % 4) then 3 else 2)) := by
          rcases h.info x hx with ⟨a1, a2⟩ | ⟨a1, r', c', g', p', n', l', hr', hg', hp', hc', hn', hl1, hl6, ev, ew, _, _, _, el⟩
          · rw [if_pos a1, if_pos a2]
          · rw [if_neg (by omega), el, if_neg (rl_ne0 hl1 (by omega)), ev, ew]
            by_cases e : rl_v r' c' g' p' ≤ rl_v r c i (x % 4)
            · rw [if_pos e, if_pos ((rl_vw_le hr' (by omega) (by omega) (by omega) hr (by omega) (by omega) (by omega)).mp e)]
            · rw [if_neg e, if_neg (fun a => e ((rl_vw_le hr' (by omega) (by omega) (by omega) hr (by omega) (by omega) (by omega)).mpr a))]
        rw [← key, hxb]
        rcases h.rp b hb with ⟨o1, o2⟩ | ⟨y, hy, o1, o2⟩
        · have hne : ¬ (-1 : Int32) = nI x := by
            intro e
            have := congrArg Int32.toInt e
            rw [nI_toInt (by omega)] at this
            have h2 : (-1 : Int32).toInt = -1 := by decide
            omega
          rw [o1, o2, if_neg hne]
          rfl
        · rw [o1, o2]
          show (if x = y then (1 : Int32) else _) = _
          by_cases e : x = y
          · rw [if_pos e, if_pos (by rw [e])]
          · rw [if_neg e, if_neg (show ¬ nI y = nI x from by rw [rl_nI (by omega) (by omega)]; omega)]
      · rw [rl_s_ge (by omega), if_neg h1]
        rfl
    · intro hh
      by_cases h1 : M.2.1 4 x < 100
      · omega
      · rw [if_neg h1] at hh
        exact absurd hh (by decide)
theorem rr_roles_loop {nf x0 : Nat} {N0 M0 N M : bn_S} (h : RR nf x0 N0 M0 N M) {b : Nat} (hb : b < 5) (c0 : Nat) (k : Nat) (hk : k ≤ 4) : RR nf x0 N0 M0 (it_Br_giveRoles b (0, N) k).2 (it_Mo_compute b (c0, M) k).2 ∧ (((it_Br_giveRoles b (0, N) k).1 = 0 ∧ (it_Mo_compute b (c0, M) k).1 = c0) ∨ ((it_Br_giveRoles b (0, N) k).1 = 1 ∧ (it_Mo_compute b (c0, M) k).1 = 1)) := by
  induction k with
  | zero => exact ⟨h, Or.inl ⟨rfl, rfl⟩⟩
  | succ k ih =>
    obtain ⟨hR, hf⟩ := ih (by omega)
    show RR nf x0 N0 M0 (bd_Br_giveRoles b k (it_Br_giveRoles b (0, N) k)).2 (bd_Mo_compute b k (it_Mo_compute b (c0, M) k)).2 ∧ (((bd_Br_giveRoles b k (it_Br_giveRoles b (0, N) k)).1 = 0 ∧ (bd_Mo_compute b k (it_Mo_compute b (c0, M) k)).1 = c0) ∨ ((bd_Br_giveRoles b k (it_Br_giveRoles b (0, N) k)).1 = 1 ∧ (bd_Mo_compute b k (it_Mo_compute b (c0, M) k)).1 = 1))
    generalize it_Br_giveRoles b (0, N) k = q at hR hf ⊢
    generalize it_Mo_compute b (c0, M) k = m at hR hf ⊢
    have hx : 4 * b + k < 20 := by omega
    obtain ⟨d1, d2, d3⟩ := rl_due hR hx hb (by omega)
    unfold bd_Br_giveRoles bd_Mo_compute
    rw [d1, hR.role _ hx]
    by_cases e : r_Mo_roleOf m.2 (4 * b + k) = m.2.1 5 (4 * b + k)
    · rw [if_pos e, if_pos e]
      exact ⟨hR, hf⟩
    · rw [if_neg e, if_neg e]
      exact ⟨rr_become hR hx _ d2 d3, Or.inr ⟨rfl, rfl⟩⟩
theorem rl_m_ne {nf : Nat} {N M : bn_S} {i j i' j' : Nat} (hi : ¬ i' = i) (hj : ¬ j' = j) (h : rl_m nf N i' M j') (y c c' : Nat) (kd ro ho : Int32) (v : Int64) (pr : Nat) (w : Int64) (h2 : Int32) (p2 : Nat) :
    rl_m nf (sU (sI (sJ (sO (sI (sI (sU N 7 y c) 12 i kd) 13 i ro) 5 i none) 2 i v) 14 i ho) 5 i pr) i' (sU (sI (sJ (sU (sI M 14 j kd) 13 y c') 15 j w) 16 j h2) 17 j p2) j' := by
  unfold rl_m at *
  show rl_mm nf (N.2.1 10) (N.2.1 11) (N.2.1 12) (N.1 15) _ _ _ _ _ _ _ _ _ _ _ _ _ _
  simpa [sI, sU, sJ, sO, bn_up, hi, hj] using h
theorem rl_m_ne2 {nf : Nat} {N M : bn_S} {i j i' j' : Nat} (hi : ¬ i' = i) (hj : ¬ j' = j) (h : rl_m nf N i' M j') (y c c' : Nat) (kd ro : Int32) (w : Int64) :
    rl_m nf (sO (sI (sI (sU N 7 y c) 12 i kd) 13 i ro) 5 i none) i' (sJ (sU (sI M 14 j kd) 13 y c') 15 j w) j' := by
  unfold rl_m at *
  show rl_mm nf (N.2.1 10) (N.2.1 11) (N.2.1 12) (N.1 15) _ _ _ _ _ _ _ _ _ _ _ _ _ _
  simpa [sI, sU, sJ, sO, bn_up, hi, hj] using h
theorem rl_m_ne3 {nf : Nat} {N M : bn_S} {i j i' j' : Nat} (hi : ¬ i' = i) (hj : ¬ j' = j) (h : rl_m nf N i' M j') (y c c' : Nat) (kd ro : Int32) (f : Nat) :
    rl_m nf (sO (sI (sI (sU N 7 y c) 12 i kd) 13 i ro) 5 i (some f)) i' (o_Mo_copy (sU (sI M 14 j kd) 13 y c') 240 j) j' := by
  unfold rl_m at *
  show rl_mm nf (N.2.1 10) (N.2.1 11) (N.2.1 12) (N.1 15) _ _ _ _ _ _ _ _ _ _ _ _ _ _
  simpa [o_Mo_copy, sI, sU, sJ, sO, bn_up, hi, hj] using h

theorem rr_putT {nf x0 : Nat} {N0 M0 N M : bn_S} (h : RR nf x0 N0 M0 N M) {y : Nat} (hy : y < 20) (hy0 : ¬ y = x0) (hc : ¬ M.2.1 13 y = 12) {r c b p n : Nat} (hr : r < 128) (hb : b < 128) (hp : p < 4) (hcn0 : c ≤ 50 * n) (hn : n ≤ 6) (pr : Nat) : RR nf x0 N0 M0 (sU (sI (sJ (sO (sI (sI (sU N 7 y (M.2.1 13 y + 1)) 12 (12 * y + (N.2.1 6 y + M.2.1 13 y) % 12) 1) 13 (12 * y + (N.2.1 6 y + M.2.1 13 y) % 12) (nI r)) 5 (12 * y + (N.2.1 6 y + M.2.1 13 y) % 12) none) 2 (12 * y + (N.2.1 6 y + M.2.1 13 y) % 12) (rl_v r c b p)) 14 (12 * y + (N.2.1 6 y + M.2.1 13 y) % 12) (nI n)) 5 (12 * y + (N.2.1 6 y + M.2.1 13 y) % 12) pr) (sU (sI (sJ (sU (sI M 14 (12 * y + M.2.1 13 y) 1) 13 y (M.2.1 13 y + 1)) 15 (12 * y + M.2.1 13 y) (rl_w r c b p)) 16 (12 * y + M.2.1 13 y) (nI n)) 17 (12 * y + M.2.1 13 y) pr) := by
  have hcb := h.cnb y hy
  have hcn := h.cnt y hy
  have hj240 : ¬ 240 = 12 * y + M.2.1 13 y := by omega
  refine ⟨h.role, h.stat, h.wait, h.cost, h.vlan, h.prop, h.prb, h.agr, h.cst, h.st3, h.PP, h.GG, h.G2, h.WW, h.info, h.peer, h.stn, h.jb, h.diff, h.stp, ?_, ?_, h.fst, ?_, h.bid, h.best, h.rp, h.plc, h.plb, h.liv, h.got, h.gotb, h.inb, h.kpl, h.ksv, h.ktl, h.kfs, h.kfd, h.kfv, h.kfw, h.kat, h.kin, h.kth, h.ktk, ?_, ?_, ?_, ?_, ?_, ?_, ?_, ?_, ?_⟩
  · intro z hz
    by_cases e : z = y
    · subst e; simp [o_Mo_copy, sI, sU, sJ, sO, bn_up]
    · have hs := h.cnt z hz
      simpa [o_Mo_copy, sI, sU, sJ, sO, bn_up, e] using hs
  · intro z hz
    by_cases e : z = y
    · subst e; simp [o_Mo_copy, sI, sU, sJ, sO, bn_up]; omega
    · have hs := h.cnb z hz
      simpa [o_Mo_copy, sI, sU, sJ, sO, bn_up, e] using hs
  · intro z hz k hk
    have hk : k < bn_up M.2.1 13 y (M.2.1 13 y + 1) 13 z := hk
    by_cases e : z = y
    · subst e
      rw [bn_up_s] at hk
      by_cases ek : k = M.2.1 13 z
      · subst ek
        show rl_m nf _ (12 * z + (N.2.1 6 z + M.2.1 13 z) % 12) _ (12 * z + M.2.1 13 z)
        generalize 12 * z + (N.2.1 6 z + M.2.1 13 z) % 12 = i
        generalize 12 * z + M.2.1 13 z = j
        unfold rl_m
        show rl_mm nf (N.2.1 10) (N.2.1 11) (N.2.1 12) (N.1 15) _ _ _ _ _ _ _ _ _ _ _ _ _ _
        simp [o_Mo_copy, sI, sU, sJ, sO, bn_up]
        exact Or.inl ⟨rfl, rfl, rfl, rfl, r, c, b, p, n, hr, hb, hp, hcn0, hn, rfl, rfl, rfl, rfl, rfl⟩
      · refine rl_m_ne (by have := h.fst z hz; omega) (by omega) (h.msg z hz k (by omega)) _ _ _ _ _ _ _ _ _ _ _
    · have hk : k < M.2.1 13 z := by simpa [bn_up, e] using hk
      have := h.fst z hz
      have := h.cnb z hz
      exact rl_m_ne (by omega) (by omega) (h.msg z hz k hk) _ _ _ _ _ _ _ _ _ _ _
  · have hs := h.h14
    simpa [o_Mo_copy, sI, sU, sJ, sO, bn_up, hj240] using hs
  · have hs := h.h15
    simpa [o_Mo_copy, sI, sU, sJ, sO, bn_up, hj240] using hs
  · have hs := h.h16
    simpa [o_Mo_copy, sI, sU, sJ, sO, bn_up, hj240] using hs
  · have hs := h.h17
    simpa [o_Mo_copy, sI, sU, sJ, sO, bn_up, hj240] using hs
  · have hs := h.h18
    simpa [o_Mo_copy, sI, sU, sJ, sO, bn_up, hj240] using hs
  · have hs := h.h19
    simpa [o_Mo_copy, sI, sU, sJ, sO, bn_up, hj240] using hs
  · have hs := h.h20
    simpa [o_Mo_copy, sI, sU, sJ, sO, bn_up, hj240] using hs
  · have hs := h.h21
    simpa [o_Mo_copy, sI, sU, sJ, sO, bn_up, hj240] using hs
  · intro i hi
    have hs := h.khN i hi
    have hn : ¬ i = 12 * y + (N.2.1 6 y + M.2.1 13 y) % 12 := by have := h.fst y hy; omega
    simpa [o_Mo_copy, sI, sU, sJ, sO, bn_up, hn] using hs
theorem rr_putA {nf x0 : Nat} {N0 M0 N M : bn_S} (h : RR nf x0 N0 M0 N M) {y : Nat} (hy : y < 20) (hy0 : ¬ y = x0) (hc : ¬ M.2.1 13 y = 12) {r : Nat} (hr : r < 128) : RR nf x0 N0 M0 (sO (sI (sI (sU N 7 y (M.2.1 13 y + 1)) 12 (12 * y + (N.2.1 6 y + M.2.1 13 y) % 12) 2) 13 (12 * y + (N.2.1 6 y + M.2.1 13 y) % 12) (nI r)) 5 (12 * y + (N.2.1 6 y + M.2.1 13 y) % 12) none) (sJ (sU (sI M 14 (12 * y + M.2.1 13 y) 2) 13 y (M.2.1 13 y + 1)) 15 (12 * y + M.2.1 13 y) (Int64.ofNat r)) := by
  have hcb := h.cnb y hy
  have hcn := h.cnt y hy
  have hj240 : ¬ 240 = 12 * y + M.2.1 13 y := by omega
  refine ⟨h.role, h.stat, h.wait, h.cost, h.vlan, h.prop, h.prb, h.agr, h.cst, h.st3, h.PP, h.GG, h.G2, h.WW, h.info, h.peer, h.stn, h.jb, h.diff, h.stp, ?_, ?_, h.fst, ?_, h.bid, h.best, h.rp, h.plc, h.plb, h.liv, h.got, h.gotb, h.inb, h.kpl, h.ksv, h.ktl, h.kfs, h.kfd, h.kfv, h.kfw, h.kat, h.kin, h.kth, h.ktk, ?_, ?_, ?_, ?_, ?_, ?_, ?_, ?_, ?_⟩
  · intro z hz
    by_cases e : z = y
    · subst e; simp [o_Mo_copy, sI, sU, sJ, sO, bn_up]
    · have hs := h.cnt z hz
      simpa [o_Mo_copy, sI, sU, sJ, sO, bn_up, e] using hs
  · intro z hz
    by_cases e : z = y
    · subst e; simp [o_Mo_copy, sI, sU, sJ, sO, bn_up]; omega
    · have hs := h.cnb z hz
      simpa [o_Mo_copy, sI, sU, sJ, sO, bn_up, e] using hs
  · intro z hz k hk
    have hk : k < bn_up M.2.1 13 y (M.2.1 13 y + 1) 13 z := hk
    by_cases e : z = y
    · subst e
      rw [bn_up_s] at hk
      by_cases ek : k = M.2.1 13 z
      · subst ek
        show rl_m nf _ (12 * z + (N.2.1 6 z + M.2.1 13 z) % 12) _ (12 * z + M.2.1 13 z)
        generalize 12 * z + (N.2.1 6 z + M.2.1 13 z) % 12 = i
        generalize 12 * z + M.2.1 13 z = j
        unfold rl_m
        show rl_mm nf (N.2.1 10) (N.2.1 11) (N.2.1 12) (N.1 15) _ _ _ _ _ _ _ _ _ _ _ _ _ _
        simp [o_Mo_copy, sI, sU, sJ, sO, bn_up]
        exact Or.inr (Or.inl ⟨rfl, rfl, rfl, r, hr, rfl, rfl⟩)
      · refine rl_m_ne2 (by have := h.fst z hz; omega) (by omega) (h.msg z hz k (by omega)) _ _ _ _ _ _
    · have hk : k < M.2.1 13 z := by simpa [bn_up, e] using hk
      have := h.fst z hz
      have := h.cnb z hz
      exact rl_m_ne2 (by omega) (by omega) (h.msg z hz k hk) _ _ _ _ _ _
  · have hs := h.h14
    simpa [o_Mo_copy, sI, sU, sJ, sO, bn_up, hj240] using hs
  · have hs := h.h15
    simpa [o_Mo_copy, sI, sU, sJ, sO, bn_up, hj240] using hs
  · have hs := h.h16
    simpa [o_Mo_copy, sI, sU, sJ, sO, bn_up, hj240] using hs
  · have hs := h.h17
    simpa [o_Mo_copy, sI, sU, sJ, sO, bn_up, hj240] using hs
  · have hs := h.h18
    simpa [o_Mo_copy, sI, sU, sJ, sO, bn_up, hj240] using hs
  · have hs := h.h19
    simpa [o_Mo_copy, sI, sU, sJ, sO, bn_up, hj240] using hs
  · have hs := h.h20
    simpa [o_Mo_copy, sI, sU, sJ, sO, bn_up, hj240] using hs
  · have hs := h.h21
    simpa [o_Mo_copy, sI, sU, sJ, sO, bn_up, hj240] using hs
  · intro i hi
    have hs := h.khN i hi
    have hn : ¬ i = 12 * y + (N.2.1 6 y + M.2.1 13 y) % 12 := by have := h.fst y hy; omega
    simpa [o_Mo_copy, sI, sU, sJ, sO, bn_up, hn] using hs
theorem rr_putF {nf x0 : Nat} {N0 M0 N M : bn_S} (h : RR nf x0 N0 M0 N M) {y : Nat} (hy : y < 20) (hy0 : ¬ y = x0) (hc : ¬ M.2.1 13 y = 12) {f : Nat} (hf : f < nf) (f0 : M.1 14 240 = 3) (f1 : N.2.1 10 f = M.2.1 18 240) (f2 : N.2.1 11 f = M.2.1 19 240) (f3 : N.2.1 12 f = M.2.1 20 240) (f4 : N.1 15 f = M.1 21 240) (b1 : M.2.1 18 240 < 8) (b2 : M.2.1 19 240 < 10) (b3 : 1 ≤ M.2.1 20 240) (b4 : M.2.1 20 240 < 3) : RR nf x0 N0 M0 (sO (sI (sI (sU N 7 y (M.2.1 13 y + 1)) 12 (12 * y + (N.2.1 6 y + M.2.1 13 y) % 12) 3) 13 (12 * y + (N.2.1 6 y + M.2.1 13 y) % 12) 0) 5 (12 * y + (N.2.1 6 y + M.2.1 13 y) % 12) (some f)) (o_Mo_copy (sU (sI M 14 (12 * y + M.2.1 13 y) 3) 13 y (M.2.1 13 y + 1)) 240 (12 * y + M.2.1 13 y)) := by
  have hcb := h.cnb y hy
  have hcn := h.cnt y hy
  have hj240 : ¬ 240 = 12 * y + M.2.1 13 y := by omega
  refine ⟨h.role, h.stat, h.wait, h.cost, h.vlan, h.prop, h.prb, h.agr, h.cst, h.st3, h.PP, h.GG, h.G2, h.WW, h.info, h.peer, h.stn, h.jb, h.diff, h.stp, ?_, ?_, h.fst, ?_, h.bid, h.best, h.rp, h.plc, h.plb, h.liv, h.got, h.gotb, h.inb, h.kpl, h.ksv, h.ktl, h.kfs, h.kfd, h.kfv, h.kfw, h.kat, h.kin, h.kth, h.ktk, ?_, ?_, ?_, ?_, ?_, ?_, ?_, ?_, ?_⟩
  · intro z hz
    by_cases e : z = y
    · subst e; simp [o_Mo_copy, sI, sU, sJ, sO, bn_up]
    · have hs := h.cnt z hz
      simpa [o_Mo_copy, sI, sU, sJ, sO, bn_up, e] using hs
  · intro z hz
    by_cases e : z = y
    · subst e; simp [o_Mo_copy, sI, sU, sJ, sO, bn_up]; omega
    · have hs := h.cnb z hz
      simpa [o_Mo_copy, sI, sU, sJ, sO, bn_up, e] using hs
  · intro z hz k hk
    have hk : k < bn_up M.2.1 13 y (M.2.1 13 y + 1) 13 z := hk
    by_cases e : z = y
    · subst e
      rw [bn_up_s] at hk
      by_cases ek : k = M.2.1 13 z
      · subst ek
        show rl_m nf _ (12 * z + (N.2.1 6 z + M.2.1 13 z) % 12) _ (12 * z + M.2.1 13 z)
        generalize 12 * z + (N.2.1 6 z + M.2.1 13 z) % 12 = i
        generalize 12 * z + M.2.1 13 z = j
        unfold rl_m
        show rl_mm nf (N.2.1 10) (N.2.1 11) (N.2.1 12) (N.1 15) _ _ _ _ _ _ _ _ _ _ _ _ _ _
        simp [o_Mo_copy, sI, sU, sJ, sO, bn_up]
        exact Or.inr (Or.inr ⟨rfl, by split <;> simp [f0], f, hf, rfl, f1, f2, f3, f4, b1, b2, b3, b4⟩)
      · refine rl_m_ne3 (by have := h.fst z hz; omega) (by omega) (h.msg z hz k (by omega)) _ _ _ _ _ _
    · have hk : k < M.2.1 13 z := by simpa [bn_up, e] using hk
      have := h.fst z hz
      have := h.cnb z hz
      exact rl_m_ne3 (by omega) (by omega) (h.msg z hz k hk) _ _ _ _ _ _
  · have hs := h.h14
    simpa [o_Mo_copy, sI, sU, sJ, sO, bn_up, hj240] using hs
  · have hs := h.h15
    simpa [o_Mo_copy, sI, sU, sJ, sO, bn_up, hj240] using hs
  · have hs := h.h16
    simpa [o_Mo_copy, sI, sU, sJ, sO, bn_up, hj240] using hs
  · have hs := h.h17
    simpa [o_Mo_copy, sI, sU, sJ, sO, bn_up, hj240] using hs
  · have hs := h.h18
    simpa [o_Mo_copy, sI, sU, sJ, sO, bn_up, hj240] using hs
  · have hs := h.h19
    simpa [o_Mo_copy, sI, sU, sJ, sO, bn_up, hj240] using hs
  · have hs := h.h20
    simpa [o_Mo_copy, sI, sU, sJ, sO, bn_up, hj240] using hs
  · have hs := h.h21
    simpa [o_Mo_copy, sI, sU, sJ, sO, bn_up, hj240] using hs
  · intro i hi
    have hs := h.khN i hi
    have hn : ¬ i = 12 * y + (N.2.1 6 y + M.2.1 13 y) % 12 := by have := h.fst y hy; omega
    simpa [o_Mo_copy, sI, sU, sJ, sO, bn_up, hn] using hs
