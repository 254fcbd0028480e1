/-! relation of the two states (526.rel-clear): written by wip/whole/rel -/
theorem rr_rebase {nf x0 : Nat} {N0 M0 N M : bn_S} (h : RR nf x0 N0 M0 N M) (x1 : Nat) : RR nf x1 N M N M := by
  refine ⟨h.role, h.stat, h.wait, h.cost, h.vlan, h.prop, h.prb, h.agr, h.cst, h.st3, h.PP, h.GG, h.G2, h.WW, h.info, h.peer, h.stn, h.jb, h.diff, h.stp, h.cnt, h.cnb, h.fst, h.msg, h.bid, h.best, h.rp, h.plc, h.plb, h.liv, h.got, h.gotb, h.inb, rfl, rfl, rfl, rfl, rfl, rfl, rfl, rfl, rfl, rfl, rfl, rfl, rfl, rfl, rfl, rfl, rfl, rfl, rfl, fun _ _ => ⟨rfl, rfl⟩⟩
/-- the line moved up by k -/
def rl_sh (x : Nat) (q : bn_S) (k : Nat) : bn_S := (fun c j => if (c = 14 ∨ c = 16 ∨ c = 21) ∧ 12 * x ≤ j ∧ j < 12 * x + k then q.1 c (j + 1) else q.1 c j, fun c j => if (c = 17 ∨ c = 18 ∨ c = 19 ∨ c = 20) ∧ 12 * x ≤ j ∧ j < 12 * x + k then q.2.1 c (j + 1) else q.2.1 c j, fun c j => if c = 15 ∧ 12 * x ≤ j ∧ j < 12 * x + k then q.2.2.1 c (j + 1) else q.2.2.1 c j, q.2.2.2)
theorem rl_shift_eq (x : Nat) (q : bn_S) (k : Nat) : it_Mo_shift x q k = rl_sh x q k := by
  induction k with
  | zero =>
    show q = _
    unfold rl_sh
    refine Prod.ext ?_ (Prod.ext ?_ (Prod.ext ?_ rfl)) <;> funext c j <;> exact (if_neg (by omega)).symm
  | succ k ih =>
    show bd_Mo_shift x k (it_Mo_shift x q k) = _
    rw [ih]
    unfold bd_Mo_shift o_Mo_copy
    refine Prod.ext ?_ (Prod.ext ?_ (Prod.ext ?_ rfl))
    · funext c j
      show bn_up (bn_up (bn_up (rl_sh x q k).1 14 (12 * x + k) ((rl_sh x q k).1 14 (12 * x + k + 1))) 16 (12 * x + k) ((rl_sh x q k).1 16 (12 * x + k + 1))) 21 (12 * x + k) ((rl_sh x q k).1 21 (12 * x + k + 1)) c j = (rl_sh x q (k + 1)).1 c j
      simp only [bn_up, rl_sh]
      by_cases ej : j = 12 * x + k
      · subst ej
        by_cases e1 : c = 14
        · subst e1; simp; intros; omega
        · by_cases e2 : c = 16
          · subst e2; simp; intros; omega
          · by_cases e3 : c = 21
            · subst e3; simp; intros; omega
            · simp [e1, e2, e3]
      · by_cases e1 : 12 * x ≤ j ∧ j < 12 * x + k
        · have e2 : 12 * x ≤ j ∧ j < 12 * x + (k + 1) := by omega
          simp [ej, e1, e2]
        · have e2 : ¬ (12 * x ≤ j ∧ j < 12 * x + (k + 1)) := by omega
          simp [ej, e1, e2]
    · funext c j
      show bn_up (bn_up (bn_up (bn_up (rl_sh x q k).2.1 17 (12 * x + k) ((rl_sh x q k).2.1 17 (12 * x + k + 1))) 18 (12 * x + k) ((rl_sh x q k).2.1 18 (12 * x + k + 1))) 19 (12 * x + k) ((rl_sh x q k).2.1 19 (12 * x + k + 1))) 20 (12 * x + k) ((rl_sh x q k).2.1 20 (12 * x + k + 1)) c j = (rl_sh x q (k + 1)).2.1 c j
      simp only [bn_up, rl_sh]
      by_cases ej : j = 12 * x + k
      · subst ej
        by_cases e1 : c = 17
        · subst e1; simp; intros; omega
        · by_cases e2 : c = 18
          · subst e2; simp; intros; omega
          · by_cases e3 : c = 19
            · subst e3; simp; intros; omega
            · by_cases e4 : c = 20
              · subst e4; simp; intros; omega
              · simp [e1, e2, e3, e4]
      · by_cases e1 : 12 * x ≤ j ∧ j < 12 * x + k
        · have e2 : 12 * x ≤ j ∧ j < 12 * x + (k + 1) := by omega
          simp [ej, e1, e2]
        · have e2 : ¬ (12 * x ≤ j ∧ j < 12 * x + (k + 1)) := by omega
          simp [ej, e1, e2]
    · funext c j
      show bn_up (rl_sh x q k).2.2.1 15 (12 * x + k) ((rl_sh x q k).2.2.1 15 (12 * x + k + 1)) c j = (rl_sh x q (k + 1)).2.2.1 c j
      simp only [bn_up, rl_sh]
      by_cases ej : j = 12 * x + k
      · subst ej
        by_cases e1 : c = 15
        · subst e1; simp; intros; omega
        · simp [e1]
      · by_cases e1 : 12 * x ≤ j ∧ j < 12 * x + k
        · have e2 : 12 * x ≤ j ∧ j < 12 * x + (k + 1) := by omega
          simp [ej, e1, e2]
        · have e2 : ¬ (12 * x ≤ j ∧ j < 12 * x + (k + 1)) := by omega
          simp [ej, e1, e2]
theorem rl_shift_of (M : bn_S) (x : Nat) : o_Mo_shift M x = rl_sh x (sU (o_Mo_copy M (12 * x) 240) 13 x (M.2.1 13 x - 1)) (M.2.1 13 x - 1) := by
  unfold o_Mo_shift
  rw [rl_shift_eq]
  rfl
theorem rl_mm_eq {nf : Nat} {fs fd fv : Nat → Nat} {fw : Nat → Int32} {k1 : Int32} {v : Int64} {ro ho : Int32} {pr : Nat} {fo : Option Nat} {k2 k2' : Int32} {w w' : Int64} {h2 h2' : Int32} {p2 s2 d2 v2 p2' s2' d2' v2' : Nat} {wh wh' : Int32} (h : rl_mm nf fs fd fv fw k1 v ro ho pr fo k2 w h2 p2 s2 d2 v2 wh) (e1 : k2' = k2) (e2 : w' = w) (e3 : h2' = h2) (e4 : p2' = p2) (e5 : s2' = s2) (e6 : d2' = d2) (e7 : v2' = v2) (e8 : wh' = wh) : rl_mm nf fs fd fv fw k1 v ro ho pr fo k2' w' h2' p2' s2' d2' v2' wh' := by
  subst e1 e2 e3 e4 e5 e6 e7 e8
  exact h
theorem rl_copy_ne (M : bn_S) (x n j : Nat) (hj : ¬ j = 240) : (sU (o_Mo_copy M (12 * x) 240) 13 x n).1 14 j = M.1 14 j ∧ (sU (o_Mo_copy M (12 * x) 240) 13 x n).2.2.1 15 j = M.2.2.1 15 j ∧ (sU (o_Mo_copy M (12 * x) 240) 13 x n).1 16 j = M.1 16 j ∧ (sU (o_Mo_copy M (12 * x) 240) 13 x n).2.1 17 j = M.2.1 17 j ∧ (sU (o_Mo_copy M (12 * x) 240) 13 x n).2.1 18 j = M.2.1 18 j ∧ (sU (o_Mo_copy M (12 * x) 240) 13 x n).2.1 19 j = M.2.1 19 j ∧ (sU (o_Mo_copy M (12 * x) 240) 13 x n).2.1 20 j = M.2.1 20 j ∧ (sU (o_Mo_copy M (12 * x) 240) 13 x n).1 21 j = M.1 21 j := by
  simp [o_Mo_copy, sI, sU, sJ, bn_up, hj]
theorem rl_sh_in (x : Nat) (q : bn_S) (k j : Nat) (h : 12 * x ≤ j ∧ j < 12 * x + k) : (rl_sh x q k).1 14 j = q.1 14 (j + 1) ∧ (rl_sh x q k).2.2.1 15 j = q.2.2.1 15 (j + 1) ∧ (rl_sh x q k).1 16 j = q.1 16 (j + 1) ∧ (rl_sh x q k).2.1 17 j = q.2.1 17 (j + 1) ∧ (rl_sh x q k).2.1 18 j = q.2.1 18 (j + 1) ∧ (rl_sh x q k).2.1 19 j = q.2.1 19 (j + 1) ∧ (rl_sh x q k).2.1 20 j = q.2.1 20 (j + 1) ∧ (rl_sh x q k).1 21 j = q.1 21 (j + 1) := by
  simp [rl_sh, h]
theorem rl_sh_out (x : Nat) (q : bn_S) (k j : Nat) (h : ¬ (12 * x ≤ j ∧ j < 12 * x + k)) : (rl_sh x q k).1 14 j = q.1 14 j ∧ (rl_sh x q k).2.2.1 15 j = q.2.2.1 15 j ∧ (rl_sh x q k).1 16 j = q.1 16 j ∧ (rl_sh x q k).2.1 17 j = q.2.1 17 j ∧ (rl_sh x q k).2.1 18 j = q.2.1 18 j ∧ (rl_sh x q k).2.1 19 j = q.2.1 19 j ∧ (rl_sh x q k).2.1 20 j = q.2.1 20 j ∧ (rl_sh x q k).1 21 j = q.1 21 j := by
  simp [rl_sh, h]
theorem rr_shift {nf x0 : Nat} {N0 M0 N M : bn_S} (h : RR nf x0 N0 M0 N M) {x : Nat} (hx : x < 20) (hc : ¬ M.2.1 13 x = 0) (x1 : Nat) : RR nf x1 (sU (sU N 6 x ((N.2.1 6 x + 1) % 12)) 7 x (M.2.1 13 x - 1)) (o_Mo_shift M x) (sU (sU N 6 x ((N.2.1 6 x + 1) % 12)) 7 x (M.2.1 13 x - 1)) (o_Mo_shift M x) := by
  rw [rl_shift_of]
  have hcb := h.cnb x hx
  have hfs := h.fst x hx
  refine ⟨h.role, h.stat, h.wait, h.cost, h.vlan, h.prop, h.prb, h.agr, h.cst, h.st3, h.PP, h.GG, h.G2, h.WW, h.info, h.peer, h.stn, h.jb, h.diff, h.stp, ?_, ?_, ?_, ?_, h.bid, h.best, h.rp, h.plc, h.plb, h.liv, h.got, h.gotb, h.inb, rfl, rfl, rfl, rfl, rfl, rfl, rfl, rfl, rfl, rfl, rfl, rfl, rfl, rfl, rfl, rfl, rfl, rfl, rfl, fun _ _ => ⟨rfl, rfl⟩⟩
  · intro z hz
    by_cases e : z = x
    · subst e
      exact (bn_up_s (bn_up N.2.1 6 z ((N.2.1 6 z + 1) % 12)) 7 z (M.2.1 13 z - 1)).trans (bn_up_s M.2.1 13 z (M.2.1 13 z - 1)).symm
    · show bn_up (bn_up N.2.1 6 x ((N.2.1 6 x + 1) % 12)) 7 x (M.2.1 13 x - 1) 7 z = bn_up M.2.1 13 x (M.2.1 13 x - 1) 13 z
      simp [bn_up, e]
      exact h.cnt z hz
  · intro z hz
    show bn_up M.2.1 13 x (M.2.1 13 x - 1) 13 z ≤ 12
    have := h.cnb z hz
    unfold bn_up
    split
    · omega
    · exact this
  · intro z hz
    show bn_up N.2.1 6 x ((N.2.1 6 x + 1) % 12) 6 z < 12
    have := h.fst z hz
    unfold bn_up
    split
    · omega
    · exact this
  · intro z hz k hk
    have hk : k < bn_up M.2.1 13 x (M.2.1 13 x - 1) 13 z := hk
    show rl_mm nf (N.2.1 10) (N.2.1 11) (N.2.1 12) (N.1 15) (N.1 12 (12 * z + (bn_up N.2.1 6 x ((N.2.1 6 x + 1) % 12) 6 z + k) % 12)) (N.2.2.1 2 (12 * z + (bn_up N.2.1 6 x ((N.2.1 6 x + 1) % 12) 6 z + k) % 12)) (N.1 13 (12 * z + (bn_up N.2.1 6 x ((N.2.1 6 x + 1) % 12) 6 z + k) % 12)) (N.1 14 (12 * z + (bn_up N.2.1 6 x ((N.2.1 6 x + 1) % 12) 6 z + k) % 12)) (N.2.1 5 (12 * z + (bn_up N.2.1 6 x ((N.2.1 6 x + 1) % 12) 6 z + k) % 12)) (N.2.2.2 5 (12 * z + (bn_up N.2.1 6 x ((N.2.1 6 x + 1) % 12) 6 z + k) % 12)) _ _ _ _ _ _ _ _
    by_cases e : z = x
    · subst e
      rw [bn_up_s] at hk ⊢
      have ei : 12 * z + ((N.2.1 6 z + 1) % 12 + k) % 12 = 12 * z + (N.2.1 6 z + (k + 1)) % 12 := by omega
      rw [ei]
      obtain ⟨a1, a2, a3, a4, a5, a6, a7, a8⟩ := rl_sh_in z (sU (o_Mo_copy M (12 * z) 240) 13 z (M.2.1 13 z - 1)) (M.2.1 13 z - 1) (12 * z + k) (by omega)
      obtain ⟨b1, b2, b3, b4, b5, b6, b7, b8⟩ := rl_copy_ne M z (M.2.1 13 z - 1) (12 * z + k + 1) (by omega)
      exact rl_mm_eq (h.msg z hz (k + 1) (by omega)) (a1.trans b1) (a2.trans b2) (a3.trans b3) (a4.trans b4) (a5.trans b5) (a6.trans b6) (a7.trans b7) (a8.trans b8)
    · have hk : k < M.2.1 13 z := by simpa [bn_up, e] using hk
      have hzb := h.cnb z hz
      have e6 : bn_up N.2.1 6 x ((N.2.1 6 x + 1) % 12) 6 z = N.2.1 6 z := by simp [bn_up, e]
      rw [e6]
      obtain ⟨a1, a2, a3, a4, a5, a6, a7, a8⟩ := rl_sh_out x (sU (o_Mo_copy M (12 * x) 240) 13 x (M.2.1 13 x - 1)) (M.2.1 13 x - 1) (12 * z + k) (by omega)
      obtain ⟨b1, b2, b3, b4, b5, b6, b7, b8⟩ := rl_copy_ne M x (M.2.1 13 x - 1) (12 * z + k) (by omega)
      exact rl_mm_eq (h.msg z hz k hk) (a1.trans b1) (a2.trans b2) (a3.trans b3) (a4.trans b4) (a5.trans b5) (a6.trans b6) (a7.trans b7) (a8.trans b8)
theorem rl_shift_hand {nf x0 : Nat} {N0 M0 N M : bn_S} (h : RR nf x0 N0 M0 N M) {x : Nat} (hx : x < 20) (hc : ¬ M.2.1 13 x = 0) : rl_m nf (sU (sU N 6 x ((N.2.1 6 x + 1) % 12)) 7 x (M.2.1 13 x - 1)) (12 * x + N.2.1 6 x) (o_Mo_shift M x) 240 := by
  rw [rl_shift_of]
  have hcb := h.cnb x hx
  have hfs := h.fst x hx
  obtain ⟨a1, a2, a3, a4, a5, a6, a7, a8⟩ := rl_sh_out x (sU (o_Mo_copy M (12 * x) 240) 13 x (M.2.1 13 x - 1)) (M.2.1 13 x - 1) 240 (by omega)
  have hm := h.msg x hx 0 (by omega)
  rw [show 12 * x + (N.2.1 6 x + 0) % 12 = 12 * x + N.2.1 6 x from by omega] at hm
  have hb : (sU (o_Mo_copy M (12 * x) 240) 13 x (M.2.1 13 x - 1)).1 14 240 = M.1 14 (12 * x + 0) ∧ (sU (o_Mo_copy M (12 * x) 240) 13 x (M.2.1 13 x - 1)).2.2.1 15 240 = M.2.2.1 15 (12 * x + 0) ∧ (sU (o_Mo_copy M (12 * x) 240) 13 x (M.2.1 13 x - 1)).1 16 240 = M.1 16 (12 * x + 0) ∧ (sU (o_Mo_copy M (12 * x) 240) 13 x (M.2.1 13 x - 1)).2.1 17 240 = M.2.1 17 (12 * x + 0) ∧ (sU (o_Mo_copy M (12 * x) 240) 13 x (M.2.1 13 x - 1)).2.1 18 240 = M.2.1 18 (12 * x + 0) ∧ (sU (o_Mo_copy M (12 * x) 240) 13 x (M.2.1 13 x - 1)).2.1 19 240 = M.2.1 19 (12 * x + 0) ∧ (sU (o_Mo_copy M (12 * x) 240) 13 x (M.2.1 13 x - 1)).2.1 20 240 = M.2.1 20 (12 * x + 0) ∧ (sU (o_Mo_copy M (12 * x) 240) 13 x (M.2.1 13 x - 1)).1 21 240 = M.1 21 (12 * x + 0) := by
    simp [o_Mo_copy, sI, sU, sJ, bn_up]
  obtain ⟨b1, b2, b3, b4, b5, b6, b7, b8⟩ := hb
  exact rl_mm_eq hm (a1.trans b1) (a2.trans b2) (a3.trans b3) (a4.trans b4) (a5.trans b5) (a6.trans b6) (a7.trans b7) (a8.trans b8)

theorem rl_sI_self (M : bn_S) (c x : Nat) : sI M c x (M.1 c x) = M := by
  unfold sI
  refine Prod.ext ?_ rfl
  funext c' x'
  show bn_up M.1 c x (M.1 c x) c' x' = _
  unfold bn_up
  split
  · rename_i e; rw [e.1, e.2]
  · rfl
theorem rr_life {nf x0 : Nat} {N0 M0 N M : bn_S} (h : RR nf x0 N0 M0 N M) {b i l : Nat} (hb : b < 5) (hi : i < 16) (hl : l ≤ 12) : RR nf x0 N0 M0 (sI N (b + 20) i (nI l)) (sI M 25 (16 * b + i) (nI l)) := by
  refine ⟨h.role, h.stat, h.wait, h.cost, h.vlan, h.prop, h.prb, h.agr, h.cst, h.st3, h.PP, h.GG, h.G2, h.WW, h.info, h.peer, h.stn, h.jb, h.diff, h.stp, h.cnt, h.cnb, h.fst, h.msg, h.bid, h.best, h.rp, h.plc, h.plb, ?_, h.got, h.gotb, h.inb, h.kpl, h.ksv, h.ktl, h.kfs, h.kfd, h.kfv, h.kfw, h.kat, h.kin, h.kth, h.ktk, h.h14, h.h15, h.h16, h.h17, h.h18, h.h19, h.h20, h.h21, h.khN⟩
  intro b' hb' i' hi'
  obtain ⟨l', hl', l1, l2⟩ := h.liv b' hb' i' hi'
  by_cases e : b' = b ∧ i' = i
  · rw [e.1, e.2]
    exact ⟨l, hl, bn_up_s _ _ _ _, bn_up_s _ _ _ _⟩
  · refine ⟨l', hl', ?_, ?_⟩
    · show bn_up N.1 (b + 20) i (nI l) (b' + 20) i' = _
      unfold bn_up
      rw [if_neg (by omega)]; exact l1
    · show bn_up M.1 25 (16 * b + i) (nI l) 25 (16 * b' + i') = _
      unfold bn_up
      rw [if_neg (by omega)]; exact l2
theorem rr_forget {nf x0 : Nat} {N0 M0 N M : bn_S} (h : RR nf x0 N0 M0 N M) {x : Nat} (hx : x < 20) (k : Nat) (hk : k ≤ 16) : RR nf x0 N0 M0 (it_Br_forgetBehind (x / 4) (x % 4) N k) (it_Mo_clear x M k) := by
  induction k with
  | zero => exact h
  | succ k ih =>
    have hR := ih (by omega)
    show RR nf x0 N0 M0 (bd_Br_forgetBehind (x / 4) (x % 4) k (it_Br_forgetBehind (x / 4) (x % 4) N k)) (bd_Mo_clear x k (it_Mo_clear x M k))
    generalize it_Br_forgetBehind (x / 4) (x % 4) N k = q at hR ⊢
    generalize it_Mo_clear x M k = m at hR ⊢
    unfold bd_Br_forgetBehind bd_Mo_clear
    rw [hR.plc (x / 4) (by omega) k (by omega)]
    by_cases e : m.2.1 26 (16 * (x / 4) + k) = x % 4
    · rw [if_pos e, if_pos e]
      exact rr_life hR (l := 0) (by omega) (by omega) (by omega)
    · rw [if_neg e, if_neg e, rl_sI_self]
      exact hR
theorem rl_fg_I (b pp : Nat) (N : bn_S) (c x : Nat) (v : Int32) (hc : c < 20) (k : Nat) : it_Br_forgetBehind b pp (sI N c x v) k = sI (it_Br_forgetBehind b pp N k) c x v := by
  induction k with
  | zero => rfl
  | succ k ih =>
    show bd_Br_forgetBehind b pp k (it_Br_forgetBehind b pp (sI N c x v) k) = sI (bd_Br_forgetBehind b pp k (it_Br_forgetBehind b pp N k)) c x v
    rw [ih]
    generalize it_Br_forgetBehind b pp N k = q
    unfold bd_Br_forgetBehind
    show (if q.2.1 (b + 20) k = pp then _ else _) = _
    by_cases e : q.2.1 (b + 20) k = pp
    · rw [if_pos e, if_pos e]
      unfold sI
      refine Prod.ext ?_ rfl
      funext c' x'
      show bn_up (bn_up q.1 c x v) (b + 20) k 0 c' x' = bn_up (bn_up q.1 (b + 20) k 0) c x v c' x'
      unfold bn_up
      by_cases e1 : c' = b + 20 ∧ x' = k
      · rw [if_pos e1, if_neg (by omega), if_pos e1]
      · rw [if_neg e1, if_neg e1]
    · rw [if_neg e, if_neg e]
theorem rl_fg_U (b pp : Nat) (N : bn_S) (c x : Nat) (v : Nat) (hc : c < 20) (k : Nat) : it_Br_forgetBehind b pp (sU N c x v) k = sU (it_Br_forgetBehind b pp N k) c x v := by
  induction k with
  | zero => rfl
  | succ k ih =>
    show bd_Br_forgetBehind b pp k (it_Br_forgetBehind b pp (sU N c x v) k) = sU (bd_Br_forgetBehind b pp k (it_Br_forgetBehind b pp N k)) c x v
    rw [ih]
    generalize it_Br_forgetBehind b pp N k = q
    unfold bd_Br_forgetBehind
    have e0 : (sU q c x v).2.1 (b + 20) k = q.2.1 (b + 20) k := by
      show bn_up q.2.1 c x v (b + 20) k = _
      unfold bn_up
      rw [if_neg (by omega)]
    rw [e0]
    by_cases e : q.2.1 (b + 20) k = pp
    · rw [if_pos e, if_pos e]; rfl
    · rw [if_neg e, if_neg e]
theorem rl_join_eq (N : bn_S) (x : Nat) (q t : Option Nat) : o_Po_join N x q t = o_Br_forgetBehind (sI (sI (sU (sU (sI (sU (sU (sO (sO N 2 x q) 3 x t) 2 x 0) 7 x 0) 9 x 0) 4 x 0) 3 x 0) 11 x 0) 10 x 0) (x / 4) (x % 4) := by
  have h1 : o_Po_join N x q t = o_Po_become (o_Br_forgetBehind (o_Li_empty (sU (sO (sO N 2 x q) 3 x t) 2 x 0) x) (x / 4) (x % 4)) x 0 := by
    unfold o_Po_join
    cases q <;> cases t <;> rfl
  have h2 : ∀ S : bn_S, o_Po_become S x 0 = sI (sI (sU (sU (sI S 9 x 0) 4 x 0) 3 x 0) 11 x 0) 10 x 0 := by
    intro S
    unfold o_Po_become
    rw [if_neg (by decide), if_neg (by decide)]
  rw [h1, h2]
  unfold o_Br_forgetBehind
  rw [rl_fg_I _ _ _ _ _ _ (by omega), rl_fg_I _ _ _ _ _ _ (by omega), rl_fg_U _ _ _ _ _ _ (by omega), rl_fg_U _ _ _ _ _ _ (by omega), rl_fg_I _ _ _ _ _ _ (by omega)]
  rfl

theorem rr_join0 {nf x0 : Nat} {N0 M0 N M : bn_S} (h : RR nf x0 N0 M0 N M) {x : Nat} (hx : x < 20) {j : Nat} (hjb : j ≤ 20 ∨ 100 ≤ j ∧ j < 108) (hdf : 1 ≤ j → j < 100 → ¬ (j - 1) / 4 = x / 4) (hsp : 100 ≤ j → ¬ M.1 27 (j - 100) < 0) : RR nf x0 N0 M0 (sI (sI (sU (sU (sI (sU (sU (sO (sO N 2 x (rl_p j)) 3 x (rl_s j)) 2 x 0) 7 x 0) 9 x 0) 4 x 0) 3 x 0) 11 x 0) 10 x 0) (sI (sI (sU (sU (sI (sU (sI (sU M 4 x j) 12 x 0) 13 x 0) 5 x 0) 8 x 0) 7 x 0) 9 x 0) 6 x 0) := by
  refine ⟨?_, ?_, ?_, h.cost, h.vlan, ?_, ?_, ?_, h.cst, ?_, ?_, ?_, ?_, ?_, ?_, ?_, ?_, ?_, ?_, ?_, ?_, ?_, h.fst, ?_, h.bid, h.best, h.rp, h.plc, h.plb, h.liv, h.got, h.gotb, h.inb, h.kpl, h.ksv, h.ktl, h.kfs, h.kfd, h.kfv, h.kfw, h.kat, h.kin, h.kth, h.ktk, h.h14, h.h15, h.h16, h.h17, h.h18, h.h19, h.h20, h.h21, h.khN⟩
  · intro z hz
    by_cases e : z = x
    · subst e; simp [sI, sU, sJ, sO, bn_up]
    · have hs := h.role z hz
      simpa [sI, sU, sJ, sO, bn_up, e] using hs
  · intro z hz
    by_cases e : z = x
    · subst e; simp [sI, sU, sJ, sO, bn_up]
    · have hs := h.stat z hz
      simpa [sI, sU, sJ, sO, bn_up, e] using hs
  · intro z hz
    by_cases e : z = x
    · subst e; simp [sI, sU, sJ, sO, bn_up]
    · have hs := h.wait z hz
      simpa [sI, sU, sJ, sO, bn_up, e] using hs
  · intro z hz
    by_cases e : z = x
    · subst e; simp [sI, sU, sJ, sO, bn_up]
    · have hs := h.prop z hz
      simpa [sI, sU, sJ, sO, bn_up, e] using hs
  · intro z hz
    by_cases e : z = x
    · subst e; simp [sI, sU, sJ, sO, bn_up]
    · have hs := h.prb z hz
      simpa [sI, sU, sJ, sO, bn_up, e] using hs
  · intro z hz
    by_cases e : z = x
    · subst e; simp [sI, sU, sJ, sO, bn_up]
    · have hs := h.agr z hz
      simpa [sI, sU, sJ, sO, bn_up, e] using hs
  · intro z hz
    by_cases e : z = x
    · subst e; simp [sI, sU, sJ, sO, bn_up]
    · have hs := h.st3 z hz
      simpa [sI, sU, sJ, sO, bn_up, e] using hs
  · intro z hz
    by_cases e : z = x
    · subst e; simp [sI, sU, sJ, sO, bn_up]
    · have hs := h.PP z hz
      simpa [sI, sU, sJ, sO, bn_up, e] using hs
  · intro z hz
    by_cases e : z = x
    · subst e; simp [sI, sU, sJ, sO, bn_up]
    · have hs := h.GG z hz
      simpa [sI, sU, sJ, sO, bn_up, e] using hs
  · intro z hz
    by_cases e : z = x
    · subst e; simp [sI, sU, sJ, sO, bn_up]
    · have hs := h.G2 z hz
      simpa [sI, sU, sJ, sO, bn_up, e] using hs
  · intro z hz
    by_cases e : z = x
    · subst e; simp [sI, sU, sJ, sO, bn_up]
    · have hs := h.WW z hz
      simpa [sI, sU, sJ, sO, bn_up, e] using hs
  · intro z hz
    by_cases e : z = x
    · subst e; simp [sI, sU, sJ, sO, bn_up] <;> exact Or.inl ⟨rfl, rfl⟩
    · have hs := h.info z hz
      simpa [sI, sU, sJ, sO, bn_up, e] using hs
  · intro z hz
    by_cases e : z = x
    · subst e; simp [sI, sU, sJ, sO, bn_up]
    · have hs := h.peer z hz
      simpa [sI, sU, sJ, sO, bn_up, e] using hs
  · intro z hz
    by_cases e : z = x
    · subst e; simp [sI, sU, sJ, sO, bn_up]
    · have hs := h.stn z hz
      simpa [sI, sU, sJ, sO, bn_up, e] using hs
  · intro z hz
    by_cases e : z = x
    · subst e; simp [sI, sU, sJ, sO, bn_up] <;> exact hjb
    · have hs := h.jb z hz
      simpa [sI, sU, sJ, sO, bn_up, e] using hs
  · intro z hz
    by_cases e : z = x
    · subst e; simp [sI, sU, sJ, sO, bn_up] <;> exact hdf
    · have hs := h.diff z hz
      simpa [sI, sU, sJ, sO, bn_up, e] using hs
  · intro z hz
    by_cases e : z = x
    · subst e; simpa [sI, sU, sJ, sO, bn_up] using hsp
    · have hs := h.stp z hz
      simpa [sI, sU, sJ, sO, bn_up, e] using hs
  · intro z hz
    by_cases e : z = x
    · subst e; simp [sI, sU, sJ, sO, bn_up]
    · have hs := h.cnt z hz
      simpa [sI, sU, sJ, sO, bn_up, e] using hs
  · intro z hz
    by_cases e : z = x
    · subst e; simp [sI, sU, sJ, sO, bn_up]
    · have hs := h.cnb z hz
      simpa [sI, sU, sJ, sO, bn_up, e] using hs
  · intro z hz k hk
    by_cases e : z = x
    · subst e
      have hk : k < bn_up (bn_up M.2.1 4 z j) 13 z 0 13 z := hk
      rw [bn_up_s] at hk
      omega
    · have hk : k < M.2.1 13 z := by simpa [sI, sU, sJ, sO, bn_up, e] using hk
      exact h.msg z hz k hk
theorem rr_join {nf x0 : Nat} {N0 M0 N M : bn_S} (h : RR nf x0 N0 M0 N M) {x : Nat} (hx : x < 20) {j : Nat} (hjb : j ≤ 20 ∨ 100 ≤ j ∧ j < 108) (hdf : 1 ≤ j → j < 100 → ¬ (j - 1) / 4 = x / 4) (hsp : 100 ≤ j → ¬ M.1 27 (j - 100) < 0) : RR nf x0 N0 M0 (o_Po_join N x (rl_p j) (rl_s j)) (o_Mo_clear (sU M 4 x j) x) := by
  rw [rl_join_eq]
  exact rr_forget (rr_join0 h hx hjb hdf hsp) hx 16 (by omega)
theorem rl_cl_U (x : Nat) (M : bn_S) (y v : Nat) (k : Nat) : it_Mo_clear x (sU M 4 y v) k = sU (it_Mo_clear x M k) 4 y v := by
  induction k with
  | zero => rfl
  | succ k ih =>
    show bd_Mo_clear x k (it_Mo_clear x (sU M 4 y v) k) = sU (bd_Mo_clear x k (it_Mo_clear x M k)) 4 y v
    rw [ih]
    generalize it_Mo_clear x M k = q
    unfold bd_Mo_clear
    show (if q.2.1 26 _ = _ then _ else _) = _
    by_cases e : q.2.1 26 (16 * (x / 4) + k) = x % 4
    · rw [if_pos e, if_pos e]; rfl
    · rw [if_neg e, if_neg e]; rfl
theorem rl_sU_comm (M : bn_S) (c y v c' y' v' : Nat) (h : ¬ (c = c' ∧ y = y')) : sU (sU M c y v) c' y' v' = sU (sU M c' y' v') c y v := by
  unfold sU
  refine Prod.ext rfl (Prod.ext ?_ rfl)
  funext a b
  show bn_up (bn_up M.2.1 c y v) c' y' v' a b = bn_up (bn_up M.2.1 c' y' v') c y v a b
  unfold bn_up
  by_cases e1 : a = c ∧ b = y
  · by_cases e2 : a = c' ∧ b = y'
    · exact absurd ⟨e1.1.symm.trans e2.1, e1.2.symm.trans e2.2⟩ h
    · rw [if_neg e2, if_pos e1, if_pos e1]
  · rw [if_neg e1, if_neg e1]
theorem rl_clear_U (M : bn_S) (x y v : Nat) : o_Mo_clear (sU M 4 y v) x = sU (o_Mo_clear M x) 4 y v := by
  unfold o_Mo_clear
  rw [← rl_cl_U]
  congr 1
  have ht : ∀ S : bn_S, o_Mo_take S x 0 = sI (sI (sU (sU (sI S 5 x 0) 8 x 0) 7 x 0) 9 x 0) 6 x 0 := by
    intro S
    unfold o_Mo_take
    rw [if_neg (by decide), if_neg (by decide)]
  rw [ht, ht]
  unfold sI sU
  refine Prod.ext rfl (Prod.ext ?_ rfl)
  funext a b
  show bn_up (bn_up (bn_up (bn_up M.2.1 4 y v) 13 x 0) 8 x 0) 7 x 0 a b = bn_up (bn_up (bn_up (bn_up M.2.1 13 x 0) 8 x 0) 7 x 0) 4 y v a b
  unfold bn_up
  by_cases e : a = 4 ∧ b = y
  · rw [if_neg (by omega), if_neg (by omega), if_neg (by omega), if_pos e, if_pos e]
  · rw [if_neg e, if_neg e]
theorem rr_age1 {nf x0 : Nat} {N0 M0 N M : bn_S} (h : RR nf x0 N0 M0 N M) {b : Nat} (hb : b < 5) (k : Nat) (hk : k ≤ 4) : RR nf x0 N0 M0 (it_Br_age1 b N k) (it_Mo_ageOf1 b M k) := by
  induction k with
  | zero => exact h
  | succ k ih => exact rr_ageInfo (ih (by omega)) (x := 4 * b + k) (by omega)
theorem rr_age2 {nf x0 : Nat} {N0 M0 N M : bn_S} (h : RR nf x0 N0 M0 N M) {b : Nat} (hb : b < 5) (k : Nat) (hk : k ≤ 16) : RR nf x0 N0 M0 (it_Br_age2 b N k) (it_Mo_ageOf2 b M k) := by
  induction k with
  | zero => exact h
  | succ k ih =>
    have hR := ih (by omega)
    show RR nf x0 N0 M0 (bd_Br_age2 b k (it_Br_age2 b N k)) (bd_Mo_ageOf2 b k (it_Mo_ageOf2 b M k))
    generalize it_Br_age2 b N k = q at hR ⊢
    generalize it_Mo_ageOf2 b M k = m at hR ⊢
    obtain ⟨l, hl, l1, l2⟩ := hR.liv b hb k (by omega)
    unfold bd_Br_age2 bd_Mo_ageOf2
    rw [l1, l2]
    by_cases e0 : l = 0
    · subst e0
      rw [if_pos (show nI 0 ≤ 0 from by decide), if_neg (show ¬ 0 < nI 0 - 1 from by decide)]
      exact rr_life hR (l := 0) hb (by omega) (by omega)
    · rw [if_neg (rl_pos (by omega) (by omega)), rl_sub (by omega)]
      by_cases e1 : l = 1
      · subst e1
        rw [if_neg (show ¬ 0 < nI (1 - 1) from by decide)]
        exact rr_life hR (l := 0) hb (by omega) (by omega)
      · rw [if_pos (rl_pos' (by omega) (by omega))]
        exact rr_life hR (l := l - 1) hb (by omega) (by omega)
theorem rr_age3 {nf x0 : Nat} {N0 M0 N M : bn_S} (h : RR nf x0 N0 M0 N M) {b : Nat} (hb : b < 5) (k : Nat) (hk : k ≤ 4) : RR nf x0 N0 M0 (it_Br_age3 b N k) (it_Mo_ageOf3 b M k) := by
  induction k with
  | zero => exact h
  | succ k ih => exact rr_ageWait (ih (by omega)) (x := 4 * b + k) (by omega) rfl
theorem rr_age {nf x0 : Nat} {N0 M0 N M : bn_S} (h : RR nf x0 N0 M0 N M) {b : Nat} (hb : b < 5) (h0 : 20 ≤ x0) : RR nf x0 N0 M0 (o_Br_age N b) (o_Mo_compute (o_Mo_ageOf M b) b) :=
  rr_compute (rr_age3 (rr_age2 (rr_age1 h hb 4 (by omega)) hb 16 (by omega)) hb 4 (by omega)) hb (Or.inr h0)
