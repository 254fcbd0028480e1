/-! relation of the two states (527.rel-calls): written by wip/whole/rel -/
def rl_T (N M : bn_S) : Prop := (N.2.1 1 0 = 0 ∧ M.1 42 0 = 0) ∨ (N.2.1 1 0 = 1 ∧ M.1 42 0 = 1)
def rl_at (o : Option Nat) (j : Int32) : Prop := (o = none ∧ j < 0) ∨ ∃ y : Nat, y < 20 ∧ o = some y ∧ j = nI y
/-- the two states belong together -/
def RM (nf : Nat) (N M : bn_S) : Prop := RR nf 20 N M N M ∧ rl_T N M ∧ (∀ t : Nat, t < 8 → rl_at (N.2.2.2 4 t) (M.1 27 t)) ∧ ∀ t : Nat, t < 8 → ¬ M.1 27 t < 0 → N.2.1 8 t = M.2.1 28 t ∧ 1 ≤ M.2.1 28 t ∧ M.2.1 28 t < 3
theorem rm_of {nf x0 : Nat} {N0 M0 N M : bn_S} (h0 : RM nf N0 M0) (h : RR nf x0 N0 M0 N M) : RM nf N M := by
  obtain ⟨_, h2, h3, h4⟩ := h0
  refine ⟨rr_rebase h 20, ?_, ?_, ?_⟩
  · unfold rl_T
    rw [h.ktl, h.ktk]; exact h2
  · intro t ht
    rw [h.kpl, h.kat]; exact h3 t ht
  · intro t ht
    rw [h.ksv, h.kin, h.kat]; exact h4 t ht
theorem rm_th {nf : Nat} {N M : bn_S} (h0 : RM nf N M) (v : Int32) : RM nf N (sI M 41 0 v) := by
  obtain ⟨h, h2, h3, h4⟩ := h0
  refine ⟨?_, h2, h3, h4⟩
  refine ⟨h.role, h.stat, h.wait, h.cost, h.vlan, h.prop, h.prb, h.agr, h.cst, h.st3, h.PP, h.GG, h.G2, h.WW, h.info, h.peer, h.stn, h.jb, h.diff, h.stp, h.cnt, h.cnb, h.fst, h.msg, h.bid, h.best, h.rp, h.plc, h.plb, h.liv, h.got, h.gotb, h.inb, rfl, rfl, rfl, rfl, rfl, rfl, rfl, rfl, rfl, rfl, rfl, rfl, rfl, rfl, rfl, rfl, rfl, rfl, rfl, fun _ _ => ⟨rfl, rfl⟩⟩
theorem rl_cl {a : Int32} (h : ¬ a < 0) : a = nI a.toNatClampNeg ∧ (a.toNatClampNeg : Int) = a.toInt := by
  have h1 : 0 ≤ a.toInt := by
    rw [Int32.lt_iff_toInt_lt] at h
    have : (0 : Int32).toInt = 0 := rfl
    omega
  have h2 : (a.toNatClampNeg : Int) = a.toInt := by
    show (a.toInt.toNat : Int) = a.toInt
    omega
  refine ⟨?_, h2⟩
  apply Int32.toInt_inj.mp
  have h3 : a.toInt < 2 ^ 31 := Int32.toInt_lt a
  rw [nI_toInt (by omega), h2]
theorem rl_bridge (N M : bn_S) (ba : Int32) : (r_Ne_isBridge N ba = 0 ∧ r_Mo_isBridge M ba = 0) ∨ (¬ r_Ne_isBridge N ba = 0 ∧ ¬ r_Mo_isBridge M ba = 0 ∧ ba = nI ba.toNatClampNeg ∧ ba.toNatClampNeg < 5) := by
  unfold r_Ne_isBridge r_Mo_isBridge
  by_cases h : ba < 0
  · rw [if_pos h, if_pos h]; exact Or.inl ⟨rfl, rfl⟩
  · obtain ⟨e1, e2⟩ := rl_cl h
    rw [if_neg h, if_neg h]
    by_cases h5 : 5 ≤ ba
    · have h4 : 4 < ba := by
        rw [Int32.le_iff_toInt_le] at h5
        rw [Int32.lt_iff_toInt_lt]
        have a1 : (5 : Int32).toInt = 5 := rfl
        have a2 : (4 : Int32).toInt = 4 := rfl
        omega
      rw [if_pos h5, if_pos h4]; exact Or.inl ⟨rfl, rfl⟩
    · have h4 : ¬ 4 < ba := by
        rw [Int32.le_iff_toInt_le] at h5
        rw [Int32.lt_iff_toInt_lt]
        have a1 : (5 : Int32).toInt = 5 := rfl
        have a2 : (4 : Int32).toInt = 4 := rfl
        omega
      rw [if_neg h5, if_neg h4]
      refine Or.inr ⟨by decide, by decide, e1, ?_⟩
      rw [Int32.le_iff_toInt_le] at h5
      have a1 : (5 : Int32).toInt = 5 := rfl
      omega
theorem rl_port (N M : bn_S) (ba pa : Int32) : (r_Ne_findPort N ba pa = none ∧ r_Mo_isPort M ba pa = 0) ∨ (r_Ne_findPort N ba pa = some (4 * ba.toNatClampNeg + pa.toNatClampNeg) ∧ ¬ r_Mo_isPort M ba pa = 0 ∧ ba = nI ba.toNatClampNeg ∧ ba.toNatClampNeg < 5 ∧ pa = nI pa.toNatClampNeg ∧ pa.toNatClampNeg < 4) := by
  unfold r_Ne_findPort r_Mo_isPort
  rcases rl_bridge N M ba with ⟨h1, h2⟩ | ⟨h1, h2, h3, h4⟩
  · rw [if_pos h1, if_pos h2]; exact Or.inl ⟨rfl, rfl⟩
  · rw [if_neg h1, if_neg h2]
    by_cases h : pa < 0
    · rw [if_pos h, if_pos h]; exact Or.inl ⟨rfl, rfl⟩
    · obtain ⟨e1, e2⟩ := rl_cl h
      rw [if_neg h, if_neg h]
      by_cases h5 : 4 ≤ pa
      · have h6 : 3 < pa := by
          rw [Int32.le_iff_toInt_le] at h5
          rw [Int32.lt_iff_toInt_lt]
          have a1 : (3 : Int32).toInt = 3 := rfl
          have a2 : (4 : Int32).toInt = 4 := rfl
          omega
        rw [if_pos h5, if_pos h6]; exact Or.inl ⟨rfl, rfl⟩
      · have h6 : ¬ 3 < pa := by
          rw [Int32.le_iff_toInt_le] at h5
          rw [Int32.lt_iff_toInt_lt]
          have a1 : (3 : Int32).toInt = 3 := rfl
          have a2 : (4 : Int32).toInt = 4 := rfl
          omega
        rw [if_neg h5, if_neg h6]
        refine Or.inr ⟨rfl, by decide, h3, h4, e1, ?_⟩
        rw [Int32.le_iff_toInt_le] at h5
        have a2 : (4 : Int32).toInt = 4 := rfl
        omega
theorem rl_stn (N : bn_S) (sa : Int32) : (r_Ne_findStation N sa = none ∧ (sa < 0 ∨ 7 < sa)) ∨ (r_Ne_findStation N sa = some sa.toNatClampNeg ∧ ¬ sa < 0 ∧ ¬ 7 < sa ∧ sa ≤ 7 ∧ sa = nI sa.toNatClampNeg ∧ sa.toNatClampNeg < 8) := by
  unfold r_Ne_findStation
  have a1 : (8 : Int32).toInt = 8 := rfl
  have a2 : (7 : Int32).toInt = 7 := rfl
  by_cases h : sa < 0
  · rw [if_pos h]; exact Or.inl ⟨rfl, Or.inl h⟩
  · obtain ⟨e1, e2⟩ := rl_cl h
    rw [if_neg h]
    by_cases h5 : 8 ≤ sa
    · rw [if_pos h5]
      refine Or.inl ⟨rfl, Or.inr ?_⟩
      rw [Int32.le_iff_toInt_le] at h5
      rw [Int32.lt_iff_toInt_lt]
      omega
    · rw [if_neg h5]
      rw [Int32.le_iff_toInt_le] at h5
      refine Or.inr ⟨rfl, h, ?_, ?_, e1, by omega⟩
      · rw [Int32.lt_iff_toInt_lt]; omega
      · rw [Int32.le_iff_toInt_le]; omega
theorem rr_rank {nf x0 : Nat} {N0 M0 N M : bn_S} (h : RR nf x0 N0 M0 N M) {b p : Nat} (hb : b < 5) (hp : p ≤ 15) : RR nf x0 N0 M0 (o_Br_rank N b (nI p)) (sI M 1 b (nI p)) := by
  unfold o_Br_rank
  rw [rl_mul8, rl_nI_add]
  refine ⟨h.role, h.stat, h.wait, h.cost, h.vlan, h.prop, h.prb, h.agr, h.cst, h.st3, h.PP, h.GG, h.G2, h.WW, h.info, h.peer, h.stn, h.jb, h.diff, h.stp, h.cnt, h.cnb, h.fst, h.msg, ?_, h.best, h.rp, h.plc, h.plb, h.liv, h.got, h.gotb, h.inb, h.kpl, h.ksv, h.ktl, h.kfs, h.kfd, h.kfv, h.kfw, h.kat, h.kin, h.kth, h.ktk, h.h14, h.h15, h.h16, h.h17, h.h18, h.h19, h.h20, h.h21, h.khN⟩
  intro z hz
  by_cases e : z = b
  · subst e
    exact ⟨p, hp, bn_up_s _ _ _ _, bn_up_s _ _ _ _⟩
  · have hs := h.bid z hz
    simpa [sI, sU, sJ, sO, bn_up, e] using hs
theorem rl_unused {nf x0 : Nat} {N0 M0 N M : bn_S} (h : RR nf x0 N0 M0 N M) {b : Nat} (hb : b < 5) : r_Br_isUnused N b = 0 ↔ ¬ (M.2.1 4 (4 * b) = 0 ∧ M.2.1 4 (4 * b + 1) = 0 ∧ M.2.1 4 (4 * b + 1 + 1) = 0 ∧ M.2.1 4 (4 * b + 1 + 1 + 1) = 0) := by
  unfold r_Br_isUnused
  have f0 := rl_free h (x := 4 * b + 0) (by omega)
  have f1 := rl_free h (x := 4 * b + 1) (by omega)
  have f2 := rl_free h (x := 4 * b + 2) (by omega)
  have f3 := rl_free h (x := 4 * b + 3) (by omega)
  by_cases e0 : M.2.1 4 (4 * b + 0) = 0
  · rw [if_neg (fun a => f0.mp a e0)]
    by_cases e1 : M.2.1 4 (4 * b + 1) = 0
    · rw [if_neg (fun a => f1.mp a e1)]
      by_cases e2 : M.2.1 4 (4 * b + 2) = 0
      · rw [if_neg (fun a => f2.mp a e2)]
        by_cases e3 : M.2.1 4 (4 * b + 3) = 0
        · rw [if_neg (fun a => f3.mp a e3)]
          constructor
          · intro a; exact absurd a (by decide)
          · intro a; exact absurd ⟨e0, e1, e2, e3⟩ a
        · rw [if_pos (f3.mpr e3)]
          exact ⟨fun _ a => e3 a.2.2.2, fun _ => rfl⟩
      · rw [if_pos (f2.mpr e2)]
        exact ⟨fun _ a => e2 a.2.2.1, fun _ => rfl⟩
    · rw [if_pos (f1.mpr e1)]
      exact ⟨fun _ a => e1 a.2.1, fun _ => rfl⟩
  · rw [if_pos (f0.mpr e0)]
    exact ⟨fun _ a => e0 a.1, fun _ => rfl⟩
theorem rm_priority {nf : Nat} {N M : bn_S} (h : RM nf N M) (ba pr : Int32) : (o_Ne_priority N ba pr).1 = (o_Mo_priority M ba pr).1 ∧ RM nf (o_Ne_priority N ba pr).2 (o_Mo_priority M ba pr).2 := by
  have h' := rm_th h 0
  unfold o_Ne_priority o_Mo_priority
  rcases rl_bridge N (sI M 41 0 0) ba with ⟨b1, b2⟩ | ⟨b1, b2, b3, b4⟩
  · rw [if_pos b1, if_pos b2]; exact ⟨rfl, h'⟩
  · rw [if_neg b1, if_neg b2]
    by_cases p0 : pr < 0
    · rw [if_pos p0, if_pos p0]; exact ⟨rfl, h'⟩
    · obtain ⟨e1, e2⟩ := rl_cl p0
      rw [if_neg p0, if_neg p0]
      have a1 : (15 : Int32).toInt = 15 := rfl
      by_cases p5 : 15 < pr
      · rw [if_pos p5, if_neg (show ¬ pr ≤ 15 from by rw [Int32.le_iff_toInt_le]; rw [Int32.lt_iff_toInt_lt] at p5; omega)]; exact ⟨rfl, h'⟩
      · rw [if_neg p5, if_pos (show pr ≤ 15 from by rw [Int32.le_iff_toInt_le]; rw [Int32.lt_iff_toInt_lt] at p5; omega)]
        have hp : pr.toNatClampNeg ≤ 15 := by rw [Int32.lt_iff_toInt_lt] at p5; omega
        have hu := rl_unused h.1 b4
        by_cases eu : r_Br_isUnused N ba.toNatClampNeg = 0
        · rw [if_pos eu]
          have := hu.mp eu
          by_cases e0 : M.2.1 4 (4 * ba.toNatClampNeg) = 0
          · rw [if_pos e0]
            by_cases e1 : M.2.1 4 (4 * ba.toNatClampNeg + 1) = 0
            · rw [if_pos e1]
              by_cases e2 : M.2.1 4 (4 * ba.toNatClampNeg + 1 + 1) = 0
              · rw [if_pos e2]
                by_cases e3 : M.2.1 4 (4 * ba.toNatClampNeg + 1 + 1 + 1) = 0
                · exact absurd ⟨e0, e1, e2, e3⟩ this
                · rw [if_neg e3]; exact ⟨rfl, h'⟩
              · rw [if_neg e2]; exact ⟨rfl, h'⟩
            · rw [if_neg e1]; exact ⟨rfl, h'⟩
          · rw [if_neg e0]; exact ⟨rfl, h'⟩
        · have hw : M.2.1 4 (4 * ba.toNatClampNeg) = 0 ∧ M.2.1 4 (4 * ba.toNatClampNeg + 1) = 0 ∧ M.2.1 4 (4 * ba.toNatClampNeg + 1 + 1) = 0 ∧ M.2.1 4 (4 * ba.toNatClampNeg + 1 + 1 + 1) = 0 := Classical.byContradiction (fun a => eu (hu.mpr a))
          rw [if_neg eu, if_pos hw.1, if_pos hw.2.1, if_pos hw.2.2.1, if_pos hw.2.2.2]
          have e3 := rr_rank h'.1 b4 hp
          have e4 := rr_compute e3 b4 (Or.inr (Nat.le_refl 20))
          dsimp only
          exact ⟨by first | rfl | trivial, rm_of h' e4⟩
theorem rr_set {nf x0 : Nat} {N0 M0 N M : bn_S} (h : RR nf x0 N0 M0 N M) {x : Nat} (hx : x < 20) {c : Nat} (hc : c ≤ 50) (v : Int32) : RR nf x0 N0 M0 (sI (sI N 5 x (nI c)) 6 x v) (sI (sI M 2 x (nI c)) 3 x v) := by
  refine ⟨h.role, h.stat, h.wait, ?_, ?_, h.prop, h.prb, h.agr, ?_, h.st3, h.PP, h.GG, h.G2, h.WW, h.info, h.peer, h.stn, h.jb, h.diff, h.stp, h.cnt, h.cnb, h.fst, h.msg, h.bid, h.best, h.rp, h.plc, h.plb, h.liv, h.got, h.gotb, h.inb, h.kpl, h.ksv, h.ktl, h.kfs, h.kfd, h.kfv, h.kfw, h.kat, h.kin, h.kth, h.ktk, h.h14, h.h15, h.h16, h.h17, h.h18, h.h19, h.h20, h.h21, h.khN⟩
  · intro z hz
    by_cases e : z = x
    · subst e; simp [sI, bn_up]
    · have hs := h.cost z hz
      simpa [sI, sU, sJ, sO, bn_up, e] using hs
  · intro z hz
    by_cases e : z = x
    · subst e; simp [sI, bn_up]
    · have hs := h.vlan z hz
      simpa [sI, sU, sJ, sO, bn_up, e] using hs
  · intro z hz
    by_cases e : z = x
    · subst e; simp [sI, bn_up]; exact ⟨c, hc, rfl⟩
    · have hs := h.cst z hz
      simpa [sI, sU, sJ, sO, bn_up, e] using hs
theorem rm_set {nf : Nat} {N M : bn_S} (h : RM nf N M) (ba pa co vl : Int32) : (o_Ne_set N ba pa co vl).1 = (o_Mo_set M ba pa co vl).1 ∧ RM nf (o_Ne_set N ba pa co vl).2 (o_Mo_set M ba pa co vl).2 := by
  have h' := rm_th h 0
  unfold o_Ne_set o_Mo_set
  rcases rl_port N (sI M 41 0 0) ba pa with ⟨b1, b2⟩ | ⟨b1, b2, b3, b4, b5, b6⟩
  · rw [b1, if_pos b2]; exact ⟨rfl, h'⟩
  · rw [b1, if_neg b2]
    simp only [bn_oc]
    have a1 : (1 : Int32).toInt = 1 := rfl
    have a2 : (50 : Int32).toInt = 50 := rfl
    have a0 : (0 : Int32).toInt = 0 := rfl
    by_cases c1 : co < 1
    · rw [if_pos c1, if_pos c1]; exact ⟨rfl, h'⟩
    · rw [if_neg c1, if_neg c1]
      by_cases c2 : 50 < co
      · rw [if_pos c2, if_pos c2]; exact ⟨rfl, h'⟩
      · rw [if_neg c2, if_neg c2]
        by_cases v1 : vl < 1
        · rw [if_pos v1, if_pos v1]; exact ⟨rfl, h'⟩
        · rw [if_neg v1, if_neg v1]
          by_cases v3 : vl ≤ 3
          · rw [if_pos v3, if_pos v3]
            obtain ⟨e1, e2⟩ := rl_cl (a := co) (by rw [Int32.lt_iff_toInt_lt] at c1 ⊢; omega)
            obtain ⟨g1, g2⟩ := rl_cl (a := vl) (by rw [Int32.lt_iff_toInt_lt] at v1 ⊢; omega)
            rw [← g1, show (4 * ba.toNatClampNeg + pa.toNatClampNeg) / 4 = ba.toNatClampNeg from by omega]
            have hc : co.toNatClampNeg ≤ 50 := by rw [Int32.lt_iff_toInt_lt] at c2; omega
            have hx : 4 * ba.toNatClampNeg + pa.toNatClampNeg < 20 := by omega
            have e3 := rr_set h'.1 hx hc vl
            have e4 := rr_compute e3 b4 (Or.inr (Nat.le_refl 20))
            dsimp only
            exact ⟨by first | rfl | trivial, rm_of h' e4⟩
          · rw [if_neg v3, if_neg v3]; exact ⟨rfl, h'⟩
theorem rl_p_s {y : Nat} (h : y < 20) : rl_p (y + 1) = some y := by
  rw [rl_p_lt (by omega) (by omega)]
  rfl
theorem rm_link {nf : Nat} {N M : bn_S} (h : RM nf N M) (ba pa ca qa : Int32) : (o_Ne_link N ba pa ca qa).1 = (o_Mo_link M ba pa ca qa).1 ∧ RM nf (o_Ne_link N ba pa ca qa).2 (o_Mo_link M ba pa ca qa).2 := by
  have h' := rm_th h 0
  unfold o_Ne_link o_Mo_link
  rcases rl_port N (sI M 41 0 0) ba pa with ⟨b1, b2⟩ | ⟨b1, b2, b3, b4, b5, b6⟩
  · rw [b1, if_pos b2]
    cases r_Ne_findPort N ca qa <;> exact ⟨rfl, h'⟩
  · rw [b1, if_neg b2]
    simp only [bn_oc]
    rcases rl_port N (sI M 41 0 0) ca qa with ⟨c1, c2⟩ | ⟨c1, c2, c3, c4, c5, c6⟩
    · rw [c1, if_pos c2]; exact ⟨rfl, h'⟩
    · rw [c1, if_neg c2]
      simp only []
      by_cases e : ba = ca
      · rw [if_pos e, if_pos (by rw [e])]; exact ⟨rfl, h'⟩
      · have e' : ¬ ba.toNatClampNeg = ca.toNatClampNeg := fun a => e (by rw [b3, c3, a])
        rw [if_neg e, if_neg e']
        have f1 := rl_free h.1 (x := 4 * ba.toNatClampNeg + pa.toNatClampNeg) (by omega)
        have f2 := rl_free h.1 (x := 4 * ca.toNatClampNeg + qa.toNatClampNeg) (by omega)
        by_cases j1 : M.2.1 4 (4 * ba.toNatClampNeg + pa.toNatClampNeg) = 0
        · rw [if_neg (fun a => f1.mp a j1), if_pos j1]
          by_cases j2 : M.2.1 4 (4 * ca.toNatClampNeg + qa.toNatClampNeg) = 0
          · rw [if_neg (fun a => f2.mp a j2), if_pos j2]
            refine ⟨rfl, ?_⟩
            have p1 : rl_p (4 * ca.toNatClampNeg + qa.toNatClampNeg + 1) = some (4 * ca.toNatClampNeg + qa.toNatClampNeg) := rl_p_s (by omega)
            have p2 : rl_p (4 * ba.toNatClampNeg + pa.toNatClampNeg + 1) = some (4 * ba.toNatClampNeg + pa.toNatClampNeg) := rl_p_s (by omega)
            have p3 : rl_s (4 * ca.toNatClampNeg + qa.toNatClampNeg + 1) = none := rl_s_none (by omega)
            have p4 : rl_s (4 * ba.toNatClampNeg + pa.toNatClampNeg + 1) = none := rl_s_none (by omega)
            have e1 := rr_join h'.1 (x := 4 * ba.toNatClampNeg + pa.toNatClampNeg) (by omega) (j := 4 * ca.toNatClampNeg + qa.toNatClampNeg + 1) (by omega) (by omega) (fun h9 => absurd h9 (by omega))
            have e2 := rr_join e1 (x := 4 * ca.toNatClampNeg + qa.toNatClampNeg) (by omega) (j := 4 * ba.toNatClampNeg + pa.toNatClampNeg + 1) (by omega) (by omega) (fun h9 => absurd h9 (by omega))
            rw [p1, p2, p3, p4] at e2
            rw [rl_clear_U _ (4 * ba.toNatClampNeg + pa.toNatClampNeg)]
            have e3 := rr_compute e2 (b := ba.toNatClampNeg) b4 (Or.inr (by omega))
            have e4 := rr_compute e3 (b := ca.toNatClampNeg) c4 (Or.inr (by omega))
            rw [show (4 * ba.toNatClampNeg + pa.toNatClampNeg) / 4 = ba.toNatClampNeg from by omega, show (4 * ca.toNatClampNeg + qa.toNatClampNeg) / 4 = ca.toNatClampNeg from by omega]
            dsimp only
            exact rm_of h' e4
          · rw [if_pos (f2.mpr j2), if_neg j2]; exact ⟨rfl, h'⟩
        · rw [if_pos (f1.mpr j1), if_neg j1]; exact ⟨rfl, h'⟩
theorem rm_cut {nf : Nat} {N M : bn_S} (h : RM nf N M) (ba pa : Int32) : (o_Ne_cut N ba pa).1 = (o_Mo_cut M ba pa).1 ∧ RM nf (o_Ne_cut N ba pa).2 (o_Mo_cut M ba pa).2 := by
  have h' := rm_th h 0
  unfold o_Ne_cut o_Mo_cut
  rcases rl_port N (sI M 41 0 0) ba pa with ⟨b1, b2⟩ | ⟨b1, b2, b3, b4, b5, b6⟩
  · rw [b1, if_pos b2]; exact ⟨rfl, h'⟩
  · rw [b1, if_neg b2]
    simp only [bn_oc]
    have hx : 4 * ba.toNatClampNeg + pa.toNatClampNeg < 20 := by omega
    rw [h.1.peer _ hx]
    by_cases hl : 1 ≤ M.2.1 4 (4 * ba.toNatClampNeg + pa.toNatClampNeg) ∧ M.2.1 4 (4 * ba.toNatClampNeg + pa.toNatClampNeg) < 100
    · rw [rl_p_lt hl.1 hl.2, if_neg (rl_lk1 (M := sI M 41 0 0) hl.1 hl.2)]
      simp only []
      refine ⟨by first | rfl | trivial, ?_⟩
      have hy : M.2.1 4 (4 * ba.toNatClampNeg + pa.toNatClampNeg) - 1 < 20 := by have := h.1.jb _ hx; omega
      generalize hz : M.2.1 4 (4 * ba.toNatClampNeg + pa.toNatClampNeg) - 1 = y at hy ⊢
      have e1 := rr_join h'.1 hx (j := 0) (by omega) (by omega) (fun h9 => absurd h9 (by omega))
      have e2 := rr_join e1 hy (j := 0) (by omega) (by omega) (fun h9 => absurd h9 (by omega))
      rw [rl_clear_U _ (4 * ba.toNatClampNeg + pa.toNatClampNeg)]
      have e3 := rr_compute e2 (b := (4 * ba.toNatClampNeg + pa.toNatClampNeg) / 4) (by omega) (Or.inr (by omega))
      have e4 := rr_compute e3 (b := y / 4) (by omega) (Or.inr (by omega))
      rw [show (4 * ba.toNatClampNeg + pa.toNatClampNeg) / 4 = ba.toNatClampNeg from by omega] at e4 ⊢
      exact rm_of h' e4
    · rw [rl_p_none (by omega), if_pos (rl_lk0 (M := sI M 41 0 0) hl)]; exact ⟨rfl, h'⟩
