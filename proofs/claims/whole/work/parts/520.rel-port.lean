/-! relation of the two states (520.rel-port): written by wip/whole/rel -/
theorem rl_w4 : ∃ w : Nat, 1 ≤ w ∧ w ≤ 4 ∧ (4 : Int32) = nI w := ⟨4, by omega, by omega, by decide⟩
theorem rr_propose {nf x0 : Nat} {N0 M0 N M : bn_S} (h : RR nf x0 N0 M0 N M) {x : Nat} (hx : x < 20) : RR nf x0 N0 M0 (o_Po_propose N x) (sI (sU (sI M 6 x 0) 7 x 1) 9 x 4) := by
  refine ⟨h.role, ?_, ?_, h.cost, h.vlan, ?_, ?_, h.agr, h.cst, ?_, ?_, h.GG, h.G2, ?_, h.info, h.peer, h.stn, h.jb, h.diff, h.stp, h.cnt, h.cnb, h.fst, h.msg, h.bid, h.best, h.rp, h.plc, h.plb, h.liv, h.got, h.gotb, h.inb, h.kpl, h.ksv, h.ktl, h.kfs, h.kfd, h.kfv, h.kfw, h.kat, h.kin, h.kth, h.ktk, h.h14, h.h15, h.h16, h.h17, h.h18, h.h19, h.h20, h.h21, h.khN⟩
  · intro z hz
    by_cases e : z = x
    · subst e; simp [o_Po_propose, sI, sU, sJ, sO, bn_up]
    · have hs := h.stat z hz
      simpa [o_Po_propose, sI, sU, sJ, sO, bn_up, e] using hs
  · intro z hz
    by_cases e : z = x
    · subst e; simp [o_Po_propose, sI, sU, sJ, sO, bn_up]
    · have hs := h.wait z hz
      simpa [o_Po_propose, sI, sU, sJ, sO, bn_up, e] using hs
  · intro z hz
    by_cases e : z = x
    · subst e; simp [o_Po_propose, sI, sU, sJ, sO, bn_up]
    · have hs := h.prop z hz
      simpa [o_Po_propose, sI, sU, sJ, sO, bn_up, e] using hs
  · intro z hz
    by_cases e : z = x
    · subst e; simp [o_Po_propose, sI, sU, sJ, sO, bn_up]
    · have hs := h.prb z hz
      simpa [o_Po_propose, sI, sU, sJ, sO, bn_up, e] using hs
  · intro z hz
    by_cases e : z = x
    · subst e; simp [o_Po_propose, sI, sU, sJ, sO, bn_up]
    · have hs := h.st3 z hz
      simpa [o_Po_propose, sI, sU, sJ, sO, bn_up, e] using hs
  · intro z hz
    by_cases e : z = x
    · subst e; simp [o_Po_propose, sI, sU, sJ, sO, bn_up]
    · have hs := h.PP z hz
      simpa [o_Po_propose, sI, sU, sJ, sO, bn_up, e] using hs
  · intro z hz
    by_cases e : z = x
    · subst e; simp [o_Po_propose, sI, sU, sJ, sO, bn_up] <;> (intros; exact rl_w4)
    · have hs := h.WW z hz
      simpa [o_Po_propose, sI, sU, sJ, sO, bn_up, e] using hs
theorem rr_takeAgr {nf x0 : Nat} {N0 M0 N M : bn_S} (h : RR nf x0 N0 M0 N M) {x : Nat} (hx : x < 20) (hj : ¬ M.2.1 4 x = 0) : RR nf x0 N0 M0 (o_Po_takeAgreement N x) (sI (sU (sU (sI M 6 x 2) 8 x 1) 7 x 0) 9 x 0) := by
  refine ⟨h.role, ?_, ?_, h.cost, h.vlan, ?_, ?_, ?_, h.cst, ?_, ?_, h.GG, h.G2, ?_, h.info, h.peer, h.stn, h.jb, h.diff, h.stp, h.cnt, h.cnb, h.fst, h.msg, h.bid, h.best, h.rp, h.plc, h.plb, h.liv, h.got, h.gotb, h.inb, h.kpl, h.ksv, h.ktl, h.kfs, h.kfd, h.kfv, h.kfw, h.kat, h.kin, h.kth, h.ktk, h.h14, h.h15, h.h16, h.h17, h.h18, h.h19, h.h20, h.h21, h.khN⟩
  · intro z hz
    by_cases e : z = x
    · subst e; simp [o_Po_takeAgreement, o_Po_forward, sI, sU, sJ, sO, bn_up]
    · have hs := h.stat z hz
      simpa [o_Po_takeAgreement, o_Po_forward, sI, sU, sJ, sO, bn_up, e] using hs
  · intro z hz
    by_cases e : z = x
    · subst e; simp [o_Po_takeAgreement, o_Po_forward, sI, sU, sJ, sO, bn_up]
    · have hs := h.wait z hz
      simpa [o_Po_takeAgreement, o_Po_forward, sI, sU, sJ, sO, bn_up, e] using hs
  · intro z hz
    by_cases e : z = x
    · subst e; simp [o_Po_takeAgreement, o_Po_forward, sI, sU, sJ, sO, bn_up]
    · have hs := h.prop z hz
      simpa [o_Po_takeAgreement, o_Po_forward, sI, sU, sJ, sO, bn_up, e] using hs
  · intro z hz
    by_cases e : z = x
    · subst e; simp [o_Po_takeAgreement, o_Po_forward, sI, sU, sJ, sO, bn_up]
    · have hs := h.prb z hz
      simpa [o_Po_takeAgreement, o_Po_forward, sI, sU, sJ, sO, bn_up, e] using hs
  · intro z hz
    by_cases e : z = x
    · subst e; simp [o_Po_takeAgreement, o_Po_forward, sI, sU, sJ, sO, bn_up]
    · have hs := h.agr z hz
      simpa [o_Po_takeAgreement, o_Po_forward, sI, sU, sJ, sO, bn_up, e] using hs
  · intro z hz
    by_cases e : z = x
    · subst e; simp [o_Po_takeAgreement, o_Po_forward, sI, sU, sJ, sO, bn_up]
    · have hs := h.st3 z hz
      simpa [o_Po_takeAgreement, o_Po_forward, sI, sU, sJ, sO, bn_up, e] using hs
  · intro z hz
    by_cases e : z = x
    · subst e; simp [o_Po_takeAgreement, o_Po_forward, sI, sU, sJ, sO, bn_up] <;> (exact hj)
    · have hs := h.PP z hz
      simpa [o_Po_takeAgreement, o_Po_forward, sI, sU, sJ, sO, bn_up, e] using hs
  · intro z hz
    by_cases e : z = x
    · subst e; simp [o_Po_takeAgreement, o_Po_forward, sI, sU, sJ, sO, bn_up]
    · have hs := h.WW z hz
      simpa [o_Po_takeAgreement, o_Po_forward, sI, sU, sJ, sO, bn_up, e] using hs
theorem rr_forward {nf x0 : Nat} {N0 M0 N M : bn_S} (h : RR nf x0 N0 M0 N M) {x : Nat} (hx : x < 20) (hj : ¬ M.2.1 4 x = 0) : RR nf x0 N0 M0 (o_Po_forward N x) (sI (sU (sI M 6 x 2) 7 x 0) 9 x 0) := by
  refine ⟨h.role, ?_, ?_, h.cost, h.vlan, ?_, ?_, h.agr, h.cst, ?_, ?_, h.GG, h.G2, ?_, h.info, h.peer, h.stn, h.jb, h.diff, h.stp, h.cnt, h.cnb, h.fst, h.msg, h.bid, h.best, h.rp, h.plc, h.plb, h.liv, h.got, h.gotb, h.inb, h.kpl, h.ksv, h.ktl, h.kfs, h.kfd, h.kfv, h.kfw, h.kat, h.kin, h.kth, h.ktk, h.h14, h.h15, h.h16, h.h17, h.h18, h.h19, h.h20, h.h21, h.khN⟩
  · intro z hz
    by_cases e : z = x
    · subst e; simp [o_Po_forward, sI, sU, sJ, sO, bn_up]
    · have hs := h.stat z hz
      simpa [o_Po_forward, sI, sU, sJ, sO, bn_up, e] using hs
  · intro z hz
    by_cases e : z = x
    · subst e; simp [o_Po_forward, sI, sU, sJ, sO, bn_up]
    · have hs := h.wait z hz
      simpa [o_Po_forward, sI, sU, sJ, sO, bn_up, e] using hs
  · intro z hz
    by_cases e : z = x
    · subst e; simp [o_Po_forward, sI, sU, sJ, sO, bn_up]
    · have hs := h.prop z hz
      simpa [o_Po_forward, sI, sU, sJ, sO, bn_up, e] using hs
  · intro z hz
    by_cases e : z = x
    · subst e; simp [o_Po_forward, sI, sU, sJ, sO, bn_up]
    · have hs := h.prb z hz
      simpa [o_Po_forward, sI, sU, sJ, sO, bn_up, e] using hs
  · intro z hz
    by_cases e : z = x
    · subst e; simp [o_Po_forward, sI, sU, sJ, sO, bn_up]
    · have hs := h.st3 z hz
      simpa [o_Po_forward, sI, sU, sJ, sO, bn_up, e] using hs
  · intro z hz
    by_cases e : z = x
    · subst e; simp [o_Po_forward, sI, sU, sJ, sO, bn_up] <;> (exact hj)
    · have hs := h.PP z hz
      simpa [o_Po_forward, sI, sU, sJ, sO, bn_up, e] using hs
  · intro z hz
    by_cases e : z = x
    · subst e; simp [o_Po_forward, sI, sU, sJ, sO, bn_up]
    · have hs := h.WW z hz
      simpa [o_Po_forward, sI, sU, sJ, sO, bn_up, e] using hs
theorem rr_five {nf x0 : Nat} {N0 M0 N M : bn_S} (h : RR nf x0 N0 M0 N M) {x : Nat} (hx : x < 20) (ro st wa : Int32) (pr ag : Nat) (hpr : pr < 2) (hst : st = 0 ∨ st = 1 ∨ st = 2) (h1 : st = 2 → ¬ M.2.1 4 x = 0) (h2 : ro = 1 ∨ ro = 3 → 1 ≤ M.2.1 4 x ∧ M.2.1 4 x < 100) (h4 : ro = 2 → ¬ M.2.1 4 x = 0) (h3 : ro = 2 → M.2.1 4 x < 100 → ¬ st = 2 → ∃ w : Nat, 1 ≤ w ∧ w ≤ 4 ∧ wa = nI w) : RR nf x0 N0 M0 (sI (sI (sU (sU (sI N 9 x ro) 4 x ag) 3 x pr) 11 x wa) 10 x st) (sI (sI (sU (sU (sI M 5 x ro) 8 x ag) 7 x pr) 9 x wa) 6 x st) := by
  refine ⟨?_, ?_, ?_, h.cost, h.vlan, ?_, ?_, ?_, h.cst, ?_, ?_, ?_, ?_, ?_, h.info, h.peer, h.stn, h.jb, h.diff, h.stp, h.cnt, h.cnb, h.fst, h.msg, h.bid, h.best, h.rp, h.plc, h.plb, h.liv, h.got, h.gotb, h.inb, h.kpl, h.ksv, h.ktl, h.kfs, h.kfd, h.kfv, h.kfw, h.kat, h.kin, h.kth, h.ktk, h.h14, h.h15, h.h16, h.h17, h.h18, h.h19, h.h20, h.h21, h.khN⟩
  · intro z hz
    by_cases e : z = x
    · subst e; simp [sI, sU, sJ, sO, bn_up]
    · have hs := h.role z hz
      simpa [sI, sU, sJ, sO, bn_up, e] using hs
  · intro z hz
    by_cases e : z = x
    · subst e; simp [sI, sU, sJ, sO, bn_up]
    · have hs := h.stat z hz
      simpa [sI, sU, sJ, sO, bn_up, e] using hs
  · intro z hz
    by_cases e : z = x
    · subst e; simp [sI, sU, sJ, sO, bn_up]
    · have hs := h.wait z hz
      simpa [sI, sU, sJ, sO, bn_up, e] using hs
  · intro z hz
    by_cases e : z = x
    · subst e; simp [sI, sU, sJ, sO, bn_up]
    · have hs := h.prop z hz
      simpa [sI, sU, sJ, sO, bn_up, e] using hs
  · intro z hz
    by_cases e : z = x
    · subst e; simp [sI, sU, sJ, sO, bn_up] <;> (exact hpr)
    · have hs := h.prb z hz
      simpa [sI, sU, sJ, sO, bn_up, e] using hs
  · intro z hz
    by_cases e : z = x
    · subst e; simp [sI, sU, sJ, sO, bn_up]
    · have hs := h.agr z hz
      simpa [sI, sU, sJ, sO, bn_up, e] using hs
  · intro z hz
    by_cases e : z = x
    · subst e; simp [sI, sU, sJ, sO, bn_up] <;> (exact hst)
    · have hs := h.st3 z hz
      simpa [sI, sU, sJ, sO, bn_up, e] using hs
  · intro z hz
    by_cases e : z = x
    · subst e; simp [sI, sU, sJ, sO, bn_up] <;> (exact h1)
    · have hs := h.PP z hz
      simpa [sI, sU, sJ, sO, bn_up, e] using hs
  · intro z hz
    by_cases e : z = x
    · subst e; simp [sI, sU, sJ, sO, bn_up] <;> (exact h2)
    · have hs := h.GG z hz
      simpa [sI, sU, sJ, sO, bn_up, e] using hs
  · intro z hz
    by_cases e : z = x
    · subst e; simp [sI, sU, sJ, sO, bn_up] <;> (exact h4)
    · have hs := h.G2 z hz
      simpa [sI, sU, sJ, sO, bn_up, e] using hs
  · intro z hz
    by_cases e : z = x
    · subst e; simp [sI, sU, sJ, sO, bn_up] <;> (exact h3)
    · have hs := h.WW z hz
      simpa [sI, sU, sJ, sO, bn_up, e] using hs
theorem rl_p_lt {j : Nat} (h : 1 ≤ j) (h' : j < 100) : rl_p j = some (j - 1) := by simp [rl_p, h, h']
theorem rl_p_none {j : Nat} (h : j = 0 ∨ 100 ≤ j) : rl_p j = none := by unfold rl_p; rw [if_neg (by omega)]
theorem rl_s_ge {j : Nat} (h : 100 ≤ j) : rl_s j = some (j - 100) := by simp [rl_s, h]
theorem rl_s_none {j : Nat} (h : j < 100) : rl_s j = none := by unfold rl_s; rw [if_neg (by omega)]
theorem rl_lk (M : bn_S) (x : Nat) : r_Mo_isLinked M x = 0 ↔ ¬ (1 ≤ M.2.1 4 x ∧ M.2.1 4 x < 100) := by
  unfold r_Mo_isLinked
  split
  · simp; omega
  · split
    · simp; omega
    · simp; omega
theorem rl_lk1 {M : bn_S} {x : Nat} (h : 1 ≤ M.2.1 4 x) (h' : M.2.1 4 x < 100) : ¬ r_Mo_isLinked M x = 0 := by rw [rl_lk]; omega
theorem rl_lk0 {M : bn_S} {x : Nat} (h : ¬ (1 ≤ M.2.1 4 x ∧ M.2.1 4 x < 100)) : r_Mo_isLinked M x = 0 := by rw [rl_lk]; exact h

theorem rr_become {nf x0 : Nat} {N0 M0 N M : bn_S} (h : RR nf x0 N0 M0 N M) {x : Nat} (hx : x < 20) (r : Int32) (h1 : r = 1 ∨ r = 3 → 1 ≤ M.2.1 4 x ∧ M.2.1 4 x < 100) (h2 : r = 2 → ¬ M.2.1 4 x = 0) : RR nf x0 N0 M0 (o_Po_become N x r) (o_Mo_take M x r) := by
  unfold o_Po_become o_Mo_take
  by_cases e2 : r = 2
  · subst e2
    rw [if_pos rfl, if_pos rfl, h.stn x hx]
    by_cases hl : M.2.1 4 x < 100
    · rw [rl_s_none hl, if_neg (rl_lk1 (M := sU (sI M 5 x 2) 8 x 0) (by have := h2 rfl; show 1 ≤ M.2.1 4 x; omega) hl), if_neg (by decide), if_neg (rl_lk1 (M := sI (sU (sU (sI M 5 x 2) 8 x 0) 7 x 1) 9 x 4) (by have := h2 rfl; show 1 ≤ M.2.1 4 x; omega) hl)]
      have h5 := rr_five h hx 2 0 4 1 0 (by omega) (by simp) (by simp) (by simp) (fun _ => h2 rfl) (fun _ _ _ => rl_w4)
      exact ⟨h5.role, h5.stat, h5.wait, h5.cost, h5.vlan, h5.prop, h5.prb, h5.agr, h5.cst, h5.st3, h5.PP, h5.GG, h5.G2, h5.WW, h5.info, h5.peer, h5.stn, h5.jb, h5.diff, h5.stp, h5.cnt, h5.cnb, h5.fst, h5.msg, h5.bid, h5.best, h5.rp, h5.plc, h5.plb, h5.liv, h5.got, h5.gotb, h5.inb, h5.kpl, h5.ksv, h5.ktl, h5.kfs, h5.kfd, h5.kfv, h5.kfw, h5.kat, h5.kin, h5.kth, h5.ktk, h5.h14, h5.h15, h5.h16, h5.h17, h5.h18, h5.h19, h5.h20, h5.h21, h5.khN⟩
    · rw [rl_s_ge (by omega), if_pos (rl_lk0 (M := sU (sI M 5 x 2) 8 x 0) (by show ¬ (1 ≤ M.2.1 4 x ∧ M.2.1 4 x < 100); omega)), if_neg (by decide), if_pos (rl_lk0 (M := sI (sU (sU (sI M 5 x 2) 8 x 0) 7 x 0) 9 x 0) (by show ¬ (1 ≤ M.2.1 4 x ∧ M.2.1 4 x < 100); omega))]
      simp only [bn_oc]
      rw [if_neg (by decide)]
      exact rr_five h hx 2 2 0 0 0 (by omega) (by simp) (fun _ => h2 rfl) (by simp) (fun _ => h2 rfl) (by simp)
  · rw [if_neg e2, if_neg e2]
    by_cases e1 : r = 1
    · subst e1
      rw [if_pos rfl, if_pos rfl]
      exact rr_five h hx 1 2 0 0 0 (by omega) (by simp) (fun _ => by have := h1 (Or.inl rfl); omega) (fun _ => h1 (Or.inl rfl)) (by simp) (by simp)
    · rw [if_neg e1, if_neg e1]
      exact rr_five h hx r 0 0 0 0 (by omega) (by simp) (by simp) h1 (fun e => absurd e e2) (fun e => absurd e e2)
theorem rr_hold {nf x0 : Nat} {N0 M0 N M : bn_S} (h : RR nf x0 N0 M0 N M) {x : Nat} (hx : x < 20) {r c b p n : Nat} (hr : r < 128) (hb : b < 128) (hp : p < 4) (hc : c ≤ 50 * n) (hn : n ≤ 5) : RR nf x0 N0 M0 (o_Po_hold N x (rl_v r c b p) (nI n)) (sI (sI (sJ M 10 x (rl_w r c b p)) 11 x (nI n)) 12 x 6) := by
  refine ⟨h.role, h.stat, h.wait, h.cost, h.vlan, h.prop, h.prb, h.agr, h.cst, h.st3, h.PP, h.GG, h.G2, h.WW, ?_, h.peer, h.stn, h.jb, h.diff, h.stp, h.cnt, h.cnb, h.fst, h.msg, h.bid, h.best, h.rp, h.plc, h.plb, h.liv, h.got, h.gotb, h.inb, h.kpl, h.ksv, h.ktl, h.kfs, h.kfd, h.kfv, h.kfw, h.kat, h.kin, h.kth, h.ktk, h.h14, h.h15, h.h16, h.h17, h.h18, h.h19, h.h20, h.h21, h.khN⟩
  · intro z hz
    by_cases e : z = x
    · subst e; simp [o_Po_hold, sI, sU, sJ, sO, bn_up] <;> (exact Or.inr ⟨rfl, r, c, b, p, n, 6, hr, hb, hp, hc, hn, by omega, by omega, rfl, rfl, rfl, rfl, by decide, by decide⟩)
    · have hs := h.info z hz
      simpa [o_Po_hold, sI, sU, sJ, sO, bn_up, e] using hs
theorem rl_sub {n : Nat} (h : 1 ≤ n) : nI n - 1 = nI (n - 1) := by
  obtain ⟨m, rfl⟩ : ∃ m, n = m + 1 := ⟨n - 1, by omega⟩
  unfold nI
  rw [Int32.ofNat_add]
  have : Int32.ofNat m + Int32.ofNat 1 - 1 = Int32.ofNat m := Int32.add_sub_cancel ..
  rw [this]; simp
theorem rl_pos {n : Nat} (h : 1 ≤ n) (h' : n < 2 ^ 31) : ¬ nI n ≤ 0 := by
  rw [Int32.le_iff_toInt_le, nI_toInt h']; simp; omega
theorem rl_pos' {n : Nat} (h : 1 ≤ n) (h' : n < 2 ^ 31) : 0 < nI n := by
  rw [Int32.lt_iff_toInt_lt, nI_toInt h']; simp; omega
theorem rl_ne0 {n : Nat} (h : 1 ≤ n) (h' : n < 2 ^ 31) : ¬ nI n = 0 := by
  intro e
  have : nI n = nI 0 := e
  rw [rl_nI h' (by omega)] at this
  omega

theorem rr_ageInfo {nf x0 : Nat} {N0 M0 N M : bn_S} (h : RR nf x0 N0 M0 N M) {x : Nat} (hx : x < 20) : RR nf x0 N0 M0 (o_Po_ageInfo N x) (if M.1 12 x ≤ 0 then sI M 12 x 0 else sI M 12 x (M.1 12 x - 1)) := by
  unfold o_Po_ageInfo
  have hi := h.info x hx
  rcases hi with ⟨hu, hl⟩ | ⟨hu, r, c, b, p, n, m, hr, hb, hp, hc, hn, hm1, hm6, ev, ew, eh, eh', el, el'⟩
  · rw [if_pos hu, hl, if_pos (by decide)]
    refine ⟨h.role, h.stat, h.wait, h.cost, h.vlan, h.prop, h.prb, h.agr, h.cst, h.st3, h.PP, h.GG, h.G2, h.WW, ?_, h.peer, h.stn, h.jb, h.diff, h.stp, h.cnt, h.cnb, h.fst, h.msg, h.bid, h.best, h.rp, h.plc, h.plb, h.liv, h.got, h.gotb, h.inb, h.kpl, h.ksv, h.ktl, h.kfs, h.kfd, h.kfv, h.kfw, h.kat, h.kin, h.kth, h.ktk, h.h14, h.h15, h.h16, h.h17, h.h18, h.h19, h.h20, h.h21, h.khN⟩
    intro z hz
    by_cases e : z = x
    · subst e; simp only [sI, bn_up, and_self, if_true]; exact Or.inl ⟨hu, rfl⟩
    · have hs := h.info z hz
      simpa [sI, sU, sJ, sO, bn_up, e] using hs
  · rw [if_neg (by omega), el, el', if_neg (rl_pos hm1 (by omega)), rl_sub hm1]
    by_cases e1 : m = 1
    · subst e1
      rw [if_pos (by decide)]
      refine ⟨h.role, h.stat, h.wait, h.cost, h.vlan, h.prop, h.prb, h.agr, h.cst, h.st3, h.PP, h.GG, h.G2, h.WW, ?_, h.peer, h.stn, h.jb, h.diff, h.stp, h.cnt, h.cnb, h.fst, h.msg, h.bid, h.best, h.rp, h.plc, h.plb, h.liv, h.got, h.gotb, h.inb, h.kpl, h.ksv, h.ktl, h.kfs, h.kfd, h.kfv, h.kfw, h.kat, h.kin, h.kth, h.ktk, h.h14, h.h15, h.h16, h.h17, h.h18, h.h19, h.h20, h.h21, h.khN⟩
      intro z hz
      by_cases e : z = x
      · subst e; exact Or.inl ⟨by simp [sU, bn_up], by simp [sI, bn_up]; decide⟩
      · have hs := h.info z hz
        simpa [sI, sU, sJ, sO, bn_up, e] using hs
    · rw [if_neg (rl_pos (by omega) (by omega))]
      refine ⟨h.role, h.stat, h.wait, h.cost, h.vlan, h.prop, h.prb, h.agr, h.cst, h.st3, h.PP, h.GG, h.G2, h.WW, ?_, h.peer, h.stn, h.jb, h.diff, h.stp, h.cnt, h.cnb, h.fst, h.msg, h.bid, h.best, h.rp, h.plc, h.plb, h.liv, h.got, h.gotb, h.inb, h.kpl, h.ksv, h.ktl, h.kfs, h.kfd, h.kfv, h.kfw, h.kat, h.kin, h.kth, h.ktk, h.h14, h.h15, h.h16, h.h17, h.h18, h.h19, h.h20, h.h21, h.khN⟩
      intro z hz
      by_cases e : z = x
      · subst e; exact Or.inr ⟨by simp [sU, bn_up], r, c, b, p, n, m - 1, hr, hb, hp, hc, hn, by omega, by omega, ev, ew, eh, eh', by simp [sI, sU, bn_up], by simp [sI, sU, bn_up]⟩
      · have hs := h.info z hz
        simpa [sI, sU, sJ, sO, bn_up, e] using hs
theorem rr_ageWait {nf x0 : Nat} {N0 M0 N M : bn_S} (h : RR nf x0 N0 M0 N M) {x : Nat} (hx : x < 20) {b k : Nat} (hk : x = 4 * b + k) : RR nf x0 N0 M0 (o_Po_ageWait N x) (bd_Mo_ageOf3 b k M) := by
  subst hk
  unfold o_Po_ageWait bd_Mo_ageOf3 r_Po_isLinkedDesignated
  rw [h.peer _ hx, h.role _ hx, h.stat _ hx, h.wait _ hx]
  by_cases hl : 1 ≤ M.2.1 4 (4 * b + k) ∧ M.2.1 4 (4 * b + k) < 100
  · rw [rl_p_lt hl.1 hl.2, if_neg (rl_lk1 hl.1 hl.2)]
    show RR nf x0 N0 M0 (if (if M.1 5 (4 * b + k) = 2 then (1 : Int32) else 0) = 0 then _ else _) _
    by_cases e2 : M.1 5 (4 * b + k) = 2
    · rw [if_pos e2, if_pos e2, if_neg (by decide)]
      by_cases es : M.1 6 (4 * b + k) = 2
      · rw [if_pos es, if_pos (by rw [es]; decide)]
        exact h
      · rw [if_neg es]
        obtain ⟨w, hw1, hw4, ew⟩ := h.WW _ hx e2 hl.2 es
        rw [ew, rl_sub hw1]
        have h01 : M.1 6 (4 * b + k) = 0 ∨ M.1 6 (4 * b + k) = 1 := by rcases h.st3 _ hx with a | a | a <;> simp_all
        rw [if_neg (show ¬ (2 : Int32) ≤ M.1 6 (4 * b + k) from by rcases h01 with a | a <;> rw [a] <;> decide)]
        by_cases e1 : w = 1
        · subst e1
          rw [if_pos (show nI (1 - 1) ≤ 0 from by decide), if_pos (show nI (1 - 1) = 0 from by decide)]
          have hpr := h.prop _ hx
          rcases h01 with a | a
          · rw [a, if_pos rfl, if_pos (by decide)]
            by_cases hp : M.2.1 7 (4 * b + k) = 0
            · rw [if_pos hp]
              refine ⟨h.role, ?_, ?_, h.cost, h.vlan, ?_, ?_, h.agr, h.cst, ?_, ?_, h.GG, h.G2, ?_, h.info, h.peer, h.stn, h.jb, h.diff, h.stp, h.cnt, h.cnb, h.fst, h.msg, h.bid, h.best, h.rp, h.plc, h.plb, h.liv, h.got, h.gotb, h.inb, h.kpl, h.ksv, h.ktl, h.kfs, h.kfd, h.kfv, h.kfw, h.kat, h.kin, h.kth, h.ktk, h.h14, h.h15, h.h16, h.h17, h.h18, h.h19, h.h20, h.h21, h.khN⟩
              · intro z hz
                by_cases e : z = (4 * b + k)
                · subst e; simp [sI, sU, sJ, sO, bn_up] <;> (rfl)
                · have hs := h.stat z hz
                  simpa [sI, sU, sJ, sO, bn_up, e] using hs
              · intro z hz
                by_cases e : z = (4 * b + k)
                · subst e; simp [sI, sU, sJ, sO, bn_up]
                · have hs := h.wait z hz
                  simpa [sI, sU, sJ, sO, bn_up, e] using hs
              · intro z hz
                by_cases e : z = (4 * b + k)
                · subst e; simp [sI, sU, sJ, sO, bn_up] <;> (omega)
                · have hs := h.prop z hz
                  simpa [sI, sU, sJ, sO, bn_up, e] using hs
              · intro z hz
                by_cases e : z = (4 * b + k)
                · subst e; simp [sI, sU, sJ, sO, bn_up]
                · have hs := h.prb z hz
                  simpa [sI, sU, sJ, sO, bn_up, e] using hs
              · intro z hz
                by_cases e : z = (4 * b + k)
                · subst e; simp [sI, sU, sJ, sO, bn_up] <;> (exact Or.inr (Or.inl rfl))
                · have hs := h.st3 z hz
                  simpa [sI, sU, sJ, sO, bn_up, e] using hs
              · intro z hz
                by_cases e : z = (4 * b + k)
                · subst e; simp [sI, sU, sJ, sO, bn_up] <;> (intro e; exact absurd e (by decide))
                · have hs := h.PP z hz
                  simpa [sI, sU, sJ, sO, bn_up, e] using hs
              · intro z hz
                by_cases e : z = (4 * b + k)
                · subst e; simp [sI, sU, sJ, sO, bn_up] <;> (intros; exact rl_w4)
                · have hs := h.WW z hz
                  simpa [sI, sU, sJ, sO, bn_up, e] using hs
            · rw [if_neg hp]
              refine ⟨h.role, ?_, ?_, h.cost, h.vlan, ?_, ?_, h.agr, h.cst, ?_, ?_, h.GG, h.G2, ?_, h.info, h.peer, h.stn, h.jb, h.diff, h.stp, h.cnt, h.cnb, h.fst, h.msg, h.bid, h.best, h.rp, h.plc, h.plb, h.liv, h.got, h.gotb, h.inb, h.kpl, h.ksv, h.ktl, h.kfs, h.kfd, h.kfv, h.kfw, h.kat, h.kin, h.kth, h.ktk, h.h14, h.h15, h.h16, h.h17, h.h18, h.h19, h.h20, h.h21, h.khN⟩
              · intro z hz
                by_cases e : z = (4 * b + k)
                · subst e; simp [sI, sU, sJ, sO, bn_up] <;> (rfl)
                · have hs := h.stat z hz
                  simpa [sI, sU, sJ, sO, bn_up, e] using hs
              · intro z hz
                by_cases e : z = (4 * b + k)
                · subst e; simp [sI, sU, sJ, sO, bn_up]
                · have hs := h.wait z hz
                  simpa [sI, sU, sJ, sO, bn_up, e] using hs
              · intro z hz
                by_cases e : z = (4 * b + k)
                · subst e; simp [sI, sU, sJ, sO, bn_up] <;> (have := h.prb _ hz; omega)
                · have hs := h.prop z hz
                  simpa [sI, sU, sJ, sO, bn_up, e] using hs
              · intro z hz
                by_cases e : z = (4 * b + k)
                · subst e; simp [sI, sU, sJ, sO, bn_up]
                · have hs := h.prb z hz
                  simpa [sI, sU, sJ, sO, bn_up, e] using hs
              · intro z hz
                by_cases e : z = (4 * b + k)
                · subst e; simp [sI, sU, sJ, sO, bn_up] <;> (exact Or.inr (Or.inl rfl))
                · have hs := h.st3 z hz
                  simpa [sI, sU, sJ, sO, bn_up, e] using hs
              · intro z hz
                by_cases e : z = (4 * b + k)
                · subst e; simp [sI, sU, sJ, sO, bn_up] <;> (intro e; exact absurd e (by decide))
                · have hs := h.PP z hz
                  simpa [sI, sU, sJ, sO, bn_up, e] using hs
              · intro z hz
                by_cases e : z = (4 * b + k)
                · subst e; simp [sI, sU, sJ, sO, bn_up] <;> (intros; exact rl_w4)
                · have hs := h.WW z hz
                  simpa [sI, sU, sJ, sO, bn_up, e] using hs
          · rw [a, if_neg (by decide), if_neg (by decide)]
            by_cases hp : M.2.1 7 (4 * b + k) = 0
            · rw [if_pos hp]
              refine ⟨h.role, ?_, ?_, h.cost, h.vlan, ?_, ?_, h.agr, h.cst, ?_, ?_, h.GG, h.G2, ?_, h.info, h.peer, h.stn, h.jb, h.diff, h.stp, h.cnt, h.cnb, h.fst, h.msg, h.bid, h.best, h.rp, h.plc, h.plb, h.liv, h.got, h.gotb, h.inb, h.kpl, h.ksv, h.ktl, h.kfs, h.kfd, h.kfv, h.kfw, h.kat, h.kin, h.kth, h.ktk, h.h14, h.h15, h.h16, h.h17, h.h18, h.h19, h.h20, h.h21, h.khN⟩
              · intro z hz
                by_cases e : z = (4 * b + k)
                · subst e; simp [o_Po_forward, sI, sU, sJ, sO, bn_up] <;> (rfl)
                · have hs := h.stat z hz
                  simpa [o_Po_forward, sI, sU, sJ, sO, bn_up, e] using hs
              · intro z hz
                by_cases e : z = (4 * b + k)
                · subst e; simp [o_Po_forward, sI, sU, sJ, sO, bn_up]
                · have hs := h.wait z hz
                  simpa [o_Po_forward, sI, sU, sJ, sO, bn_up, e] using hs
              · intro z hz
                by_cases e : z = (4 * b + k)
                · subst e; simp [o_Po_forward, sI, sU, sJ, sO, bn_up]
                · have hs := h.prop z hz
                  simpa [o_Po_forward, sI, sU, sJ, sO, bn_up, e] using hs
              · intro z hz
                by_cases e : z = (4 * b + k)
                · subst e; simp [o_Po_forward, sI, sU, sJ, sO, bn_up]
                · have hs := h.prb z hz
                  simpa [o_Po_forward, sI, sU, sJ, sO, bn_up, e] using hs
              · intro z hz
                by_cases e : z = (4 * b + k)
                · subst e; simp [o_Po_forward, sI, sU, sJ, sO, bn_up] <;> (exact Or.inr (Or.inr rfl))
                · have hs := h.st3 z hz
                  simpa [o_Po_forward, sI, sU, sJ, sO, bn_up, e] using hs
              · intro z hz
                by_cases e : z = (4 * b + k)
                · subst e; simp [o_Po_forward, sI, sU, sJ, sO, bn_up] <;> (omega)
                · have hs := h.PP z hz
                  simpa [o_Po_forward, sI, sU, sJ, sO, bn_up, e] using hs
              · intro z hz
                by_cases e : z = (4 * b + k)
                · subst e; simp [o_Po_forward, sI, sU, sJ, sO, bn_up] <;> (intros; exact absurd rfl ‹¬ (1 + 1 : Int32) = 2›)
                · have hs := h.WW z hz
                  simpa [o_Po_forward, sI, sU, sJ, sO, bn_up, e] using hs
            · rw [if_neg hp]
              refine ⟨h.role, ?_, ?_, h.cost, h.vlan, ?_, ?_, h.agr, h.cst, ?_, ?_, h.GG, h.G2, ?_, h.info, h.peer, h.stn, h.jb, h.diff, h.stp, h.cnt, h.cnb, h.fst, h.msg, h.bid, h.best, h.rp, h.plc, h.plb, h.liv, h.got, h.gotb, h.inb, h.kpl, h.ksv, h.ktl, h.kfs, h.kfd, h.kfv, h.kfw, h.kat, h.kin, h.kth, h.ktk, h.h14, h.h15, h.h16, h.h17, h.h18, h.h19, h.h20, h.h21, h.khN⟩
              · intro z hz
                by_cases e : z = (4 * b + k)
                · subst e; simp [o_Po_forward, sI, sU, sJ, sO, bn_up] <;> (rfl)
                · have hs := h.stat z hz
                  simpa [o_Po_forward, sI, sU, sJ, sO, bn_up, e] using hs
              · intro z hz
                by_cases e : z = (4 * b + k)
                · subst e; simp [o_Po_forward, sI, sU, sJ, sO, bn_up]
                · have hs := h.wait z hz
                  simpa [o_Po_forward, sI, sU, sJ, sO, bn_up, e] using hs
              · intro z hz
                by_cases e : z = (4 * b + k)
                · subst e; simp [o_Po_forward, sI, sU, sJ, sO, bn_up]
                · have hs := h.prop z hz
                  simpa [o_Po_forward, sI, sU, sJ, sO, bn_up, e] using hs
              · intro z hz
                by_cases e : z = (4 * b + k)
                · subst e; simp [o_Po_forward, sI, sU, sJ, sO, bn_up]
                · have hs := h.prb z hz
                  simpa [o_Po_forward, sI, sU, sJ, sO, bn_up, e] using hs
              · intro z hz
                by_cases e : z = (4 * b + k)
                · subst e; simp [o_Po_forward, sI, sU, sJ, sO, bn_up] <;> (exact Or.inr (Or.inr rfl))
                · have hs := h.st3 z hz
                  simpa [o_Po_forward, sI, sU, sJ, sO, bn_up, e] using hs
              · intro z hz
                by_cases e : z = (4 * b + k)
                · subst e; simp [o_Po_forward, sI, sU, sJ, sO, bn_up] <;> (omega)
                · have hs := h.PP z hz
                  simpa [o_Po_forward, sI, sU, sJ, sO, bn_up, e] using hs
              · intro z hz
                by_cases e : z = (4 * b + k)
                · subst e; simp [o_Po_forward, sI, sU, sJ, sO, bn_up] <;> (intros; exact absurd rfl ‹¬ (1 + 1 : Int32) = 2›)
                · have hs := h.WW z hz
                  simpa [o_Po_forward, sI, sU, sJ, sO, bn_up, e] using hs
        · rw [if_neg (show ¬ nI (w - 1) ≤ 0 from rl_pos (by omega) (by omega)), if_neg (show ¬ nI (w - 1) = 0 from rl_ne0 (by omega) (by omega))]
          refine ⟨h.role, h.stat, ?_, h.cost, h.vlan, h.prop, h.prb, h.agr, h.cst, h.st3, h.PP, h.GG, h.G2, ?_, h.info, h.peer, h.stn, h.jb, h.diff, h.stp, h.cnt, h.cnb, h.fst, h.msg, h.bid, h.best, h.rp, h.plc, h.plb, h.liv, h.got, h.gotb, h.inb, h.kpl, h.ksv, h.ktl, h.kfs, h.kfd, h.kfv, h.kfw, h.kat, h.kin, h.kth, h.ktk, h.h14, h.h15, h.h16, h.h17, h.h18, h.h19, h.h20, h.h21, h.khN⟩
          · intro z hz
            by_cases e : z = (4 * b + k)
            · subst e; simp [sI, sU, sJ, sO, bn_up]
            · have hs := h.wait z hz
              simpa [sI, sU, sJ, sO, bn_up, e] using hs
          · intro z hz
            by_cases e : z = (4 * b + k)
            · subst e; simp [sI, sU, sJ, sO, bn_up] <;> (intros; exact ⟨w - 1, by omega, by omega, rfl⟩)
            · have hs := h.WW z hz
              simpa [sI, sU, sJ, sO, bn_up, e] using hs
    · rw [if_neg e2, if_neg e2, if_pos rfl]
      exact h
  · rw [rl_p_none (by omega), if_pos (rl_lk0 hl)]
    show RR nf x0 N0 M0 (if (0 : Int32) = 0 then _ else _) _
    rw [if_pos rfl]
    exact h
