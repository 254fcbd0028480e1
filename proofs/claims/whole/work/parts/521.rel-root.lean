/-! relation of the two states (521.rel-root): written by wip/whole/rel -/
theorem rl_nI_add (a b : Nat) : nI a + nI b = nI (a + b) := by unfold nI; rw [Int32.ofNat_add]
theorem rl_mul8 (a : Nat) : 8 * nI a = nI (8 * a) := by unfold nI; rw [Int32.ofNat_mul]; rfl
theorem rl_id {nf x0 : Nat} {N0 M0 N M : bn_S} (h : RR nf x0 N0 M0 N M) {b : Nat} (hb : b < 5) : ∃ i : Nat, i < 128 ∧ N.1 1 b = nI i ∧ r_Mo_id M b = nI i := by
  obtain ⟨p, hp, e1, e2⟩ := h.bid b hb
  refine ⟨8 * p + b, by omega, e2, ?_⟩
  unfold r_Mo_id
  rw [e1, rl_mul8, rl_nI_add]
theorem rl_life {u : Nat} {v : Int64} {a l : Int32} {w : Int64} {a' l' : Int32} (h : rl_inf u v a l w a' l') : (u = 0 ∧ l' ≤ 0) ∨ (¬ u = 0 ∧ ¬ l' ≤ 0) := by
  rcases h with ⟨h1, h2⟩ | ⟨h1, r, c, b, p, n, m, _, _, _, _, _, h6, h7, _, _, _, _, _, h9⟩
  · exact Or.inl ⟨h1, by rw [h2]; decide⟩
  · exact Or.inr ⟨by omega, by rw [h9]; exact rl_pos h6 (by omega)⟩
theorem rr_choose_loop {nf x0 : Nat} {N0 M0 N M : bn_S} (h : RR nf x0 N0 M0 N M) {b : Nat} (hb : b < 5) (k : Nat) (hk : k ≤ 4) :
    ∃ r c g p n : Nat, r < 128 ∧ g < 128 ∧ p < 4 ∧ c ≤ 50 * n ∧ n ≤ 6 ∧
      (it_Br_chooseRoot b (r_Ve_of N (N.1 1 b) 0 (N.1 1 b) 0, (sO (sI N 4 b 0) 1 b none)) k).1 = rl_v r c g p ∧
      RR nf x0 N0 M0 (sI (sI ((it_Br_chooseRoot b (r_Ve_of N (N.1 1 b) 0 (N.1 1 b) 0, (sO (sI N 4 b 0) 1 b none)) k).2) 2 b (nI r)) 3 b (nI c)) (it_Mo_choose b (sI (sI (sJ M 22 b (r_Mo_vector M (Int32.toInt64 (r_Mo_id M b)) 0 (Int32.toInt64 (r_Mo_id M b)) 0)) 23 b 0) 24 b (-1)) k) ∧
      ((it_Mo_choose b (sI (sI (sJ M 22 b (r_Mo_vector M (Int32.toInt64 (r_Mo_id M b)) 0 (Int32.toInt64 (r_Mo_id M b)) 0)) 23 b 0) 24 b (-1)) k).2.2.1 22 b) = rl_w r c g p := by
  induction k with
  | zero =>
    obtain ⟨i, hi, e1, e2⟩ := rl_id h hb
    refine ⟨i, 0, i, 0, 0, hi, hi, by omega, by omega, by omega, ?_, ?_, ?_⟩
    · show r_Ve_of N (N.1 1 b) 0 (N.1 1 b) 0 = _
      rw [e1]
      exact rl_v_of N (r := i) (c := 0) (b := i) (p := 0) hi (by omega) (by omega) (by omega)
    · show RR nf x0 N0 M0 (sI (sI (sO (sI N 4 b 0) 1 b none) 2 b (nI i)) 3 b (nI 0)) (sI (sI (sJ M 22 b (r_Mo_vector M (Int32.toInt64 (r_Mo_id M b)) 0 (Int32.toInt64 (r_Mo_id M b)) 0)) 23 b 0) 24 b (-1))
      have ew : r_Mo_vector M (Int32.toInt64 (r_Mo_id M b)) 0 (Int32.toInt64 (r_Mo_id M b)) 0 = rl_w i 0 i 0 := by
        rw [e2, rl_64 (by omega)]
        exact rl_w_of M (r := i) (c := 0) (b := i) (p := 0) hi (by omega) (by omega) (by omega)
      rw [ew]
      refine ⟨h.role, h.stat, h.wait, h.cost, h.vlan, h.prop, h.prb, h.agr, h.cst, h.st3, h.PP, h.GG, h.G2, h.WW, h.info, h.peer, h.stn, h.jb, h.diff, h.stp, h.cnt, h.cnb, h.fst, h.msg, h.bid, ?_, ?_, h.plc, h.plb, h.liv, h.got, h.gotb, h.inb, h.kpl, h.ksv, h.ktl, h.kfs, h.kfd, h.kfv, h.kfw, h.kat, h.kin, h.kth, h.ktk, h.h14, h.h15, h.h16, h.h17, h.h18, h.h19, h.h20, h.h21, h.khN⟩
      · intro z hz
        by_cases e : z = b
        · subst e; simp [sI, sU, sJ, sO, bn_up] <;> (exact ⟨i, 0, i, 0, 0, hi, hi, by omega, by omega, by omega, rfl, rfl, rfl, rfl, rfl⟩)
        · have hs := h.best z hz
          simpa [sI, sU, sJ, sO, bn_up, e] using hs
      · intro z hz
        by_cases e : z = b
        · subst e; simp [sI, sU, sJ, sO, bn_up] <;> (exact Or.inl ⟨rfl, rfl⟩)
        · have hs := h.rp z hz
          simpa [sI, sU, sJ, sO, bn_up, e] using hs
    · show bn_up M.2.2.1 22 b _ 22 b = _
      rw [bn_up_s, e2, rl_64 (by omega)]
      exact rl_w_of M (r := i) (c := 0) (b := i) (p := 0) hi (by omega) (by omega) (by omega)
  | succ k ih =>
    obtain ⟨r, c, g, p, n, hr, hg, hp, hc, hn, eq1, hR, eq2⟩ := ih (by omega)
    generalize hq : it_Br_chooseRoot b (r_Ve_of N (N.1 1 b) 0 (N.1 1 b) 0, (sO (sI N 4 b 0) 1 b none)) k = q at eq1 hR
    generalize hm : it_Mo_choose b (sI (sI (sJ M 22 b (r_Mo_vector M (Int32.toInt64 (r_Mo_id M b)) 0 (Int32.toInt64 (r_Mo_id M b)) 0)) 23 b 0) 24 b (-1)) k = m at hR eq2
    have g1 : it_Br_chooseRoot b (r_Ve_of N (N.1 1 b) 0 (N.1 1 b) 0, (sO (sI N 4 b 0) 1 b none)) (k + 1) = bd_Br_chooseRoot b k q := by rw [← hq]; rfl
    have g2 : it_Mo_choose b (sI (sI (sJ M 22 b (r_Mo_vector M (Int32.toInt64 (r_Mo_id M b)) 0 (Int32.toInt64 (r_Mo_id M b)) 0)) 23 b 0) 24 b (-1)) (k + 1) = bd_Mo_choose b k m := by rw [← hm]; rfl
    rw [g1, g2]
    clear g1 g2 hq hm ih
    have hx : 4 * b + k < 20 := by omega
    have hi := hR.info (4 * b + k) hx
    unfold bd_Br_chooseRoot bd_Mo_choose
    rcases rl_life hi with ⟨hu, hl⟩ | ⟨hu, hl⟩
    · have hu : q.2.2.1 2 (4 * b + k) = 0 := hu
      rw [if_pos hu, if_pos hl]
      exact ⟨r, c, g, p, n, hr, hg, hp, hc, hn, eq1, hR, eq2⟩
    · have hu' : ¬ q.2.2.1 2 (4 * b + k) = 0 := hu
      rw [if_neg hu', if_neg hl]
      rcases hi with ⟨h1, h2⟩ | ⟨h1, r', c', g', p', n', l', hr', hg', hp', hc', hn', _, _, ev, ew, eh, eh', _, _⟩
      · exact absurd h1 hu
      · have ev : q.2.2.2.1 1 (4 * b + k) = rl_v r' c' g' p' := ev
        have eh : q.2.1 7 (4 * b + k) = nI n' := eh
        obtain ⟨i, hi, e1, e2⟩ := rl_id hR hb
        have e1 : q.2.1 1 b = nI i := e1
        rw [ev, ew, rl_v_bridge _ hr' (by omega) (by omega) (by omega), rl_w_bridge _ hr' (by omega) (by omega) (by omega), e1, e2]
        by_cases ei : nI g' = nI i
        · rw [if_pos ei, if_pos ei]
          exact ⟨r, c, g, p, n, hr, hg, hp, hc, hn, eq1, hR, eq2⟩
        · rw [if_neg ei, if_neg ei]
          obtain ⟨d, hd, ed⟩ := hR.cst (4 * b + k) hx
          have ed' : q.2.1 5 (4 * b + k) = nI d := by
            have := hR.cost (4 * b + k) hx
            rw [ed] at this
            exact this
          rw [ed, ed', rl_v_far _ hd, rl_w_far hd, eq1, eq2]
          by_cases el : rl_v r c g p ≤ rl_v r' (c' + d) g' p'
          · rw [if_pos el, if_pos ((rl_vw_le hr (by omega) (by omega) (by omega) hr' (by omega) (by omega) (by omega)).mp el)]
            exact ⟨r, c, g, p, n, hr, hg, hp, hc, hn, rfl, hR, eq2⟩
          · rw [if_neg el, if_neg (fun a => el ((rl_vw_le hr (by omega) (by omega) (by omega) hr' (by omega) (by omega) (by omega)).mpr a))]
            refine ⟨r', c' + d, g', p', n' + 1, hr', hg', hp', by omega, by omega, rfl, ?_, ?_⟩
            · unfold r_Po_hopsThrough
              rw [eh, eh']
              show RR nf x0 N0 M0 (sI (sI (sO (sI q.2 4 b (nI n' + 1)) 1 b (some (4 * b + k))) 2 b (nI r')) 3 b (nI (c' + d))) (sI (sI (sJ m 22 b (rl_w r' (c' + d) g' p')) 23 b (nI n' + 1)) 24 b (nI (4 * b + k)))
              have ek : nI n' + 1 = nI (n' + 1) := by rw [← rl_nI_add]; rfl
              rw [ek]
              refine ⟨hR.role, hR.stat, hR.wait, hR.cost, hR.vlan, hR.prop, hR.prb, hR.agr, hR.cst, hR.st3, hR.PP, hR.GG, hR.G2, hR.WW, hR.info, hR.peer, hR.stn, hR.jb, hR.diff, hR.stp, hR.cnt, hR.cnb, hR.fst, hR.msg, hR.bid, ?_, ?_, hR.plc, hR.plb, hR.liv, hR.got, hR.gotb, hR.inb, hR.kpl, hR.ksv, hR.ktl, hR.kfs, hR.kfd, hR.kfv, hR.kfw, hR.kat, hR.kin, hR.kth, hR.ktk, hR.h14, hR.h15, hR.h16, hR.h17, hR.h18, hR.h19, hR.h20, hR.h21, hR.khN⟩
              · intro z hz
                by_cases e : z = b
                · subst e; simp [sI, sU, sJ, sO, bn_up] <;> (exact ⟨r', c' + d, g', p', n' + 1, hr', hg', hp', by omega, by omega, rfl, rfl, rfl, rfl, rfl⟩)
                · have hs := hR.best z hz
                  simpa [sI, sU, sJ, sO, bn_up, e] using hs
              · intro z hz
                by_cases e : z = b
                · subst e; simp [sI, sU, sJ, sO, bn_up] <;> (exact Or.inr ⟨4 * z + k, hx, rfl, rfl⟩)
                · have hs := hR.rp z hz
                  simpa [sI, sU, sJ, sO, bn_up, e] using hs
            · show bn_up m.2.2.1 22 b _ 22 b = _
              rw [bn_up_s]
theorem rr_choose {nf x0 : Nat} {N0 M0 N M : bn_S} (h : RR nf x0 N0 M0 N M) {b : Nat} (hb : b < 5) : RR nf x0 N0 M0 (o_Br_chooseRoot N b) (o_Mo_choose M b) := by
  obtain ⟨r, c, g, p, n, hr, hg, hp, hc, hn, eq1, hR, eq2⟩ := rr_choose_loop h hb 4 (by omega)
  unfold o_Br_chooseRoot o_Mo_choose
  rw [eq1, rl_v_root _ hr (by omega) (by omega) (by omega), rl_v_cost _ hr (by omega) (by omega) (by omega)]
  exact hR
