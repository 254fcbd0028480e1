/-! relation of the two states (528.rel-calls): written by wip/whole/rel -/
theorem rm_shift {nf : Nat} {N M : bn_S} (h : RM nf N M) {x : Nat} (hx : x < 20) (hc : ¬ M.2.1 13 x = 0) : RM nf (sU (sU N 6 x ((N.2.1 6 x + 1) % 12)) 7 x (M.2.1 13 x - 1)) (o_Mo_shift M x) := by
  refine ⟨rr_shift h.1 hx hc 20, ?_, ?_, ?_⟩
  · rw [rl_shift_of]; exact h.2.1
  · rw [rl_shift_of]; exact h.2.2.1
  · rw [rl_shift_of]; exact h.2.2.2
theorem rl_take0 {N : bn_S} {x : Nat} (h : N.2.1 7 x = 0) : o_Li_takeFirst N x = (none, N) := by unfold o_Li_takeFirst; rw [if_pos h]
theorem rl_take1 {N : bn_S} {x : Nat} (h : ¬ N.2.1 7 x = 0) : o_Li_takeFirst N x = (some (12 * x + N.2.1 6 x), sU (sU N 6 x ((N.2.1 6 x + 1) % 12)) 7 x (N.2.1 7 x - 1)) := by unfold o_Li_takeFirst; rw [if_neg h]
theorem rm_lose {nf : Nat} {N M : bn_S} (h : RM nf N M) (ba pa : Int32) : (o_Ne_lose N ba pa).1 = (o_Mo_lose M ba pa).1 ∧ RM nf (o_Ne_lose N ba pa).2 (o_Mo_lose M ba pa).2 := by
  have h' := rm_th h 0
  unfold o_Ne_lose o_Mo_lose
  rcases rl_port N (sI M 41 0 0) ba pa with ⟨b1, b2⟩ | ⟨b1, b2, b3, b4, b5, b6⟩
  · rw [b1, if_pos b2]; exact ⟨rfl, h'⟩
  · rw [b1, if_neg b2]
    simp only [bn_oc]
    have hx : 4 * ba.toNatClampNeg + pa.toNatClampNeg < 20 := by omega
    have hcn := h.1.cnt _ hx
    by_cases e : M.2.1 13 (4 * ba.toNatClampNeg + pa.toNatClampNeg) = 0
    · rw [if_pos e, rl_take0 (by rw [hcn]; exact e)]; exact ⟨rfl, h'⟩
    · rw [if_neg e, rl_take1 (by rw [hcn]; exact e), hcn]
      dsimp only
      exact ⟨by first | rfl | trivial, rm_shift h' hx e⟩
theorem rr_tick_loop {nf : Nat} {N M : bn_S} (h : RR nf 20 N M N M) (hT : (N.2.1 1 0 = 0 ∧ ¬ M.1 42 0 = 0) ∨ (¬ N.2.1 1 0 = 0 ∧ M.1 42 0 = 0)) (k : Nat) (hk : k ≤ 5) : RR nf 20 N M (it_Ne_tick N k) (it_Mo_tick M k) := by
  induction k with
  | zero => exact h
  | succ k ih =>
    have hR := ih (by omega)
    show RR nf 20 N M (bd_Ne_tick k (it_Ne_tick N k)) (bd_Mo_tick k (it_Mo_tick M k))
    generalize it_Ne_tick N k = q at hR ⊢
    generalize it_Mo_tick M k = m at hR ⊢
    have hA := rr_age hR (b := k) (by omega) (Nat.le_refl 20)
    unfold bd_Ne_tick bd_Mo_tick
    rw [hA.ktl, hA.ktk]
    rcases hT with ⟨t1, t2⟩ | ⟨t1, t2⟩
    · rw [if_pos t1, if_neg t2]; exact hA
    · rw [if_neg t1, if_pos t2]
      exact rr_tellAll hA (by omega) (Or.inr (Nat.le_refl 20)) 4 (by omega)
theorem rr_base42 {nf : Nat} {N M : bn_S} (h : RR nf 20 N M N M) (v : Int32) : RR nf 20 N (sI (sI M 41 0 0) 42 0 v) N (sI (sI M 41 0 0) 42 0 v) := by
  refine ⟨h.role, h.stat, h.wait, h.cost, h.vlan, h.prop, h.prb, h.agr, h.cst, h.st3, h.PP, h.GG, h.G2, h.WW, h.info, h.peer, h.stn, h.jb, h.diff, h.stp, h.cnt, h.cnb, h.fst, h.msg, h.bid, h.best, h.rp, h.plc, h.plb, h.liv, h.got, h.gotb, h.inb, rfl, rfl, rfl, rfl, rfl, rfl, rfl, rfl, rfl, rfl, rfl, rfl, rfl, rfl, rfl, rfl, rfl, rfl, rfl, fun _ _ => ⟨rfl, rfl⟩⟩
theorem rr_tells {nf : Nat} {N0 M0 N M : bn_S} (h : RR nf 20 N0 M0 N M) (v : Nat) : RR nf 20 (sU N 1 0 v) M (sU N 1 0 v) M := by
  refine ⟨h.role, h.stat, h.wait, h.cost, h.vlan, h.prop, h.prb, h.agr, h.cst, h.st3, h.PP, h.GG, h.G2, h.WW, h.info, h.peer, h.stn, h.jb, h.diff, h.stp, h.cnt, h.cnb, h.fst, h.msg, h.bid, h.best, h.rp, h.plc, h.plb, h.liv, h.got, h.gotb, h.inb, rfl, rfl, rfl, rfl, rfl, rfl, rfl, rfl, rfl, rfl, rfl, rfl, rfl, rfl, rfl, rfl, rfl, rfl, rfl, fun _ _ => ⟨rfl, rfl⟩⟩
theorem rm_tick {nf : Nat} {N M : bn_S} (h : RM nf N M) : RM nf (o_Ne_tick N) (o_Mo_tick M) := by
  obtain ⟨hR, hT, h3, h4⟩ := h
  unfold o_Ne_tick o_Mo_tick
  rcases hT with ⟨t1, t2⟩ | ⟨t1, t2⟩
  · rw [t2, show ((0 : Int32) + 1) - (0 + 1) / 2 * 2 = 1 from by decide]
    have hL := rr_tick_loop (rr_base42 hR 1) (Or.inl ⟨t1, show ¬ (1 : Int32) = 0 from by decide⟩) 5 (by omega)
    generalize it_Ne_tick N 5 = q at hL ⊢
    generalize it_Mo_tick (sI (sI M 41 0 0) 42 0 1) 5 = m at hL ⊢
    rw [if_pos (show q.2.1 1 0 = 0 from by rw [hL.ktl]; exact t1)]
    refine ⟨rr_tells hL 1, Or.inr ⟨rfl, ?_⟩, ?_, ?_⟩
    · rw [hL.ktk]; rfl
    · intro t ht
      have := h3 t ht
      rw [hL.kat]
      show rl_at (q.2.2.2 4 t) _
      rw [hL.kpl]; exact this
    · intro t ht
      have := h4 t ht
      rw [hL.kin, hL.kat]
      show _ → q.2.1 8 t = _ ∧ _
      rw [hL.ksv]; exact this
  · rw [t2, show ((1 : Int32) + 1) - (1 + 1) / 2 * 2 = 0 from by decide]
    have hL := rr_tick_loop (rr_base42 hR 0) (Or.inr ⟨by omega, show (0 : Int32) = 0 from rfl⟩) 5 (by omega)
    generalize it_Ne_tick N 5 = q at hL ⊢
    generalize it_Mo_tick (sI (sI M 41 0 0) 42 0 0) 5 = m at hL ⊢
    rw [if_neg (show ¬ q.2.1 1 0 = 0 from by rw [hL.ktl]; omega)]
    refine ⟨rr_tells hL 0, Or.inl ⟨rfl, ?_⟩, ?_, ?_⟩
    · rw [hL.ktk]; rfl
    · intro t ht
      have := h3 t ht
      rw [hL.kat]
      show rl_at (q.2.2.2 4 t) _
      rw [hL.kpl]; exact this
    · intro t ht
      have := h4 t ht
      rw [hL.kin, hL.kat]
      show _ → q.2.1 8 t = _ ∧ _
      rw [hL.ksv]; exact this
def rl_dc : Nat → Int32
  | 0 => 0
  | _ => 1
theorem rm_deliver {nf : Nat} {N M : bn_S} (h : RM nf N M) (ba pa : Int32) : rl_dc (o_Ne_deliver N ba pa).1 = (o_Mo_deliver M ba pa).2.1 41 0 ∧ (o_Ne_deliver N ba pa).2.1 = (o_Mo_deliver M ba pa).1 ∧ RM nf (o_Ne_deliver N ba pa).2.2 (o_Mo_deliver M ba pa).2 := by
  have h' := rm_th h 0
  unfold o_Ne_deliver o_Mo_deliver
  rcases rl_port N M ba pa with ⟨b1, b2⟩ | ⟨b1, b2, b3, b4, b5, b6⟩
  · rw [b1, if_pos b2]
    exact ⟨rfl, rfl, rm_th h 1⟩
  · rw [b1, if_neg b2]
    simp only [bn_oc]
    have hx : 4 * ba.toNatClampNeg + pa.toNatClampNeg < 20 := by omega
    generalize 4 * ba.toNatClampNeg + pa.toNatClampNeg = x at hx
    have hcn := h.1.cnt _ hx
    by_cases e : M.2.1 13 x = 0
    · rw [if_pos e, rl_take0 (by rw [hcn]; exact e)]; exact ⟨rfl, rfl, h'⟩
    · rw [if_neg e, rl_take1 (by rw [hcn]; exact e), hcn]
      have hS := rm_shift h' hx e
      have hm := rl_shift_hand h'.1 hx e
      have hB := rr_rebase hS.1 x
      have hth : (o_Mo_shift (sI M 41 0 0) x).1 41 0 = 0 := by rw [rl_shift_of]; rfl
      have hfs := h.1.fst x hx
      have hi : (12 * x + N.2.1 6 x) / 12 = x := by omega
      dsimp only
      have hs2 : sU (sU N 6 x ((N.2.1 6 x + 1) % 12)) 7 x (M.2.1 13 x - 1) = sU (sU N 6 x ((N.2.1 6 x + 1) % 12)) 7 x ((sI M 41 0 0).2.1 13 x - 1) := rfl
      rw [hs2]
      clear hs2
      generalize sU (sU N 6 x ((N.2.1 6 x + 1) % 12)) 7 x ((sI M 41 0 0).2.1 13 x - 1) = N1 at hS hm hB ⊢
      generalize o_Mo_shift (sI M 41 0 0) x = M1 at hS hm hB hth ⊢
      generalize 12 * x + N.2.1 6 x = i at hm hi ⊢
      have hm' := hm
      rcases hm with ⟨k1, k2, _⟩ | ⟨k1, k2, _⟩ | ⟨k1, k2, f, hf, fo, g1, g2, g3, g4, g5, g6, g7, g8⟩
      · rw [if_pos k1, if_pos k2]
        have hT := rr_hearTell hB hx hi hm' k1
        dsimp only
        refine ⟨?_, ?_, rm_of hS (rr_rebase hT 20 |> fun _ => hT)⟩
        · rw [hT.kth, hth]; rfl
        · rw [(hT.khN i hi).1, k1, k2]
      · rw [if_neg (by rw [k1]; decide), if_pos k1, if_neg (by rw [k2]; decide), if_pos k2]
        have hT := rr_hearAgree hB hx hm' k1
        dsimp only
        refine ⟨?_, ?_, rm_of hS hT⟩
        · rw [hT.kth, hth]; rfl
        · rw [(hT.khN i hi).1, k1, k2]
      · rw [if_neg (by rw [k1]; decide), if_neg (by rw [k1]; decide), if_neg (by rw [k2]; decide), if_neg (by rw [k2]; decide), fo]
        have hH : rl_hand nf N1 f M1 := ⟨hf, g1, g2, g3, g4, k2, g5, g6, g7, g8⟩
        obtain ⟨hT, _⟩ := rr_hearFrame hB hx (Or.inl rfl) hH (fun t ht h9 => (hS.2.2.2 t ht h9).1)
        dsimp only
        refine ⟨?_, ?_, rm_of hS hT⟩
        · rw [hT.kth, hth]; rfl
        · rw [(hT.khN i hi).1, k1, k2]

theorem rr_place {nf : Nat} {N0 M0 N M : bn_S} (h : RR nf 20 N0 M0 N M) (t x v : Nat) (j : Int32) (hj : ¬ j < 0) : RR nf 20 (sU (sO N 4 t (some x)) 8 t v) (sU (sI M 27 t j) 28 t v) (sU (sO N 4 t (some x)) 8 t v) (sU (sI M 27 t j) 28 t v) := by
  refine ⟨h.role, h.stat, h.wait, h.cost, h.vlan, h.prop, h.prb, h.agr, h.cst, h.st3, h.PP, h.GG, h.G2, h.WW, h.info, h.peer, h.stn, h.jb, h.diff, ?_, h.cnt, h.cnb, h.fst, h.msg, h.bid, h.best, h.rp, h.plc, h.plb, h.liv, h.got, h.gotb, h.inb, rfl, rfl, rfl, rfl, rfl, rfl, rfl, rfl, rfl, rfl, rfl, rfl, rfl, rfl, rfl, rfl, rfl, rfl, rfl, fun _ _ => ⟨rfl, rfl⟩⟩
  intro z hz h9
  have hs := h.stp z hz h9
  show ¬ bn_up M.1 27 t j 27 (M.2.1 4 z - 100) < 0
  unfold bn_up
  split
  · exact hj
  · exact hs
theorem rr_away {nf : Nat} {N0 M0 N M : bn_S} (h : RR nf 20 N0 M0 N M) (t : Nat) : RR nf 20 (sO N 4 t none) M (sO N 4 t none) M := by
  refine ⟨h.role, h.stat, h.wait, h.cost, h.vlan, h.prop, h.prb, h.agr, h.cst, h.st3, h.PP, h.GG, h.G2, h.WW, h.info, h.peer, h.stn, h.jb, h.diff, h.stp, h.cnt, h.cnb, h.fst, h.msg, h.bid, h.best, h.rp, h.plc, h.plb, h.liv, h.got, h.gotb, h.inb, rfl, rfl, rfl, rfl, rfl, rfl, rfl, rfl, rfl, rfl, rfl, rfl, rfl, rfl, rfl, rfl, rfl, rfl, rfl, fun _ _ => ⟨rfl, rfl⟩⟩
theorem rm_settle {nf : Nat} {N M : bn_S} {t x v : Nat} (hR : RR nf 20 N M N M) (hT : rl_T N M) (h3 : ∀ z : Nat, z < 8 → ¬ z = t → rl_at (N.2.2.2 4 z) (M.1 27 z)) (h4 : ∀ z : Nat, z < 8 → ¬ M.1 27 z < 0 → N.2.1 8 z = M.2.1 28 z ∧ 1 ≤ M.2.1 28 z ∧ M.2.1 28 z < 3) (ht : t < 8) (hx : x < 20) (hv : 1 ≤ v) (hv2 : v < 3) : RM nf (o_St_settle N t x v) (o_Mo_compute (o_Mo_clear (sU (sU (sI M 27 t (nI x)) 28 t v) 4 x (100 + t)) x) (x / 4)) ∧ (o_Mo_compute (o_Mo_clear (sU (sU (sI M 27 t (nI x)) 28 t v) 4 x (100 + t)) x) (x / 4)).1 41 0 = M.1 41 0 := by
  have hP := rr_place hR t x v (nI x) (rl_nneg (by omega))
  have hM : RM nf (sU (sO N 4 t (some x)) 8 t v) (sU (sI M 27 t (nI x)) 28 t v) := by
    refine ⟨hP, hT, ?_, ?_⟩
    · intro z hz
      show rl_at (bn_up N.2.2.2 4 t (some x) 4 z) (bn_up M.1 27 t (nI x) 27 z)
      by_cases e : z = t
      · subst e
        rw [bn_up_s, bn_up_s]
        exact Or.inr ⟨x, hx, rfl, rfl⟩
      · have := h3 z hz e
        simpa [bn_up, e] using this
    · intro z hz h9
      show bn_up N.2.1 8 t v 8 z = bn_up M.2.1 28 t v 28 z ∧ 1 ≤ bn_up M.2.1 28 t v 28 z ∧ bn_up M.2.1 28 t v 28 z < 3
      by_cases e : z = t
      · subst e
        rw [bn_up_s, bn_up_s]
        exact ⟨rfl, hv, hv2⟩
      · have h9 : ¬ bn_up M.1 27 t (nI x) 27 z < 0 := h9
        have h10 : ¬ M.1 27 z < 0 := by simpa [bn_up, e] using h9
        have := h4 z hz h10
        simpa [bn_up, e] using this
  have hJ := rr_join hP hx (j := 100 + t) (by omega) (by omega) (fun _ => by
    rw [show 100 + t - 100 = t from by omega]
    show ¬ bn_up M.1 27 t (nI x) 27 t < 0
    rw [bn_up_s]
    exact rl_nneg (by omega))
  rw [rl_p_none (by omega), rl_s_ge (by omega), show 100 + t - 100 = t from by omega] at hJ
  have hC := rr_compute hJ (b := x / 4) (by omega) (Or.inr (Nat.le_refl 20))
  refine ⟨rm_of hM hC, ?_⟩
  rw [hC.kth]
  rfl
theorem rm_attach {nf : Nat} {N M : bn_S} (h : RM nf N M) (sa ba pa va : Int32) : nI (o_Ne_attach N sa ba pa va).1 = (o_Mo_attach M sa ba pa va).1 41 0 ∧ RM nf (o_Ne_attach N sa ba pa va).2 (o_Mo_attach M sa ba pa va) := by
  unfold o_Ne_attach o_Mo_attach
  have x1 : nI 1 = (sI M 41 0 1).1 41 0 ∧ RM nf N (sI M 41 0 1) := ⟨rfl, rm_th h 1⟩
  have x2 : nI 2 = (sI M 41 0 2).1 41 0 ∧ RM nf N (sI M 41 0 2) := ⟨rfl, rm_th h 2⟩
  have x3 : nI 3 = (sI M 41 0 3).1 41 0 ∧ RM nf N (sI M 41 0 3) := ⟨rfl, rm_th h 3⟩
  rcases rl_stn N sa with ⟨s1, s2⟩ | ⟨s1, s2, s3, s4, s5, s6⟩
  · rw [s1]
    have hr : (if sa < 0 then (sI M 41 0 1) else (if 7 < sa then (sI M 41 0 1) else (if r_Mo_isPort M ba pa = 0 then (sI M 41 0 1) else (if va < 1 then (sI M 41 0 2) else (if va ≤ 2 then (if (M.2.1 4 (4 * (ba.toNatClampNeg) + (pa.toNatClampNeg))) = 0 then (if M.1 27 (sa.toNatClampNeg) < 0 then (o_Mo_compute (o_Mo_clear (sU (sU (sI (sI M 41 0 0) 27 (sa.toNatClampNeg) (nI (4 * (ba.toNatClampNeg) + (pa.toNatClampNeg)))) 28 (sa.toNatClampNeg) (va.toNatClampNeg)) 4 (4 * (ba.toNatClampNeg) + (pa.toNatClampNeg)) (100 + (sa.toNatClampNeg))) (4 * (ba.toNatClampNeg) + (pa.toNatClampNeg))) (ba.toNatClampNeg)) else (o_Mo_compute (o_Mo_clear (sU (sU (sI (o_Mo_compute (o_Mo_clear (sU (sI M 41 0 0) 4 ((M.1 27 (sa.toNatClampNeg)).toNatClampNeg) 0) ((M.1 27 (sa.toNatClampNeg)).toNatClampNeg)) (((M.1 27 (sa.toNatClampNeg)).toNatClampNeg) / 4)) 27 (sa.toNatClampNeg) (nI (4 * (ba.toNatClampNeg) + (pa.toNatClampNeg)))) 28 (sa.toNatClampNeg) (va.toNatClampNeg)) 4 (4 * (ba.toNatClampNeg) + (pa.toNatClampNeg)) (100 + (sa.toNatClampNeg))) (4 * (ba.toNatClampNeg) + (pa.toNatClampNeg))) (ba.toNatClampNeg))) else (sI M 41 0 3)) else (sI M 41 0 2)))))) = sI M 41 0 1 := by
      by_cases e : sa < 0
      · rw [if_pos e]
      · rw [if_neg e, if_pos (s2.resolve_left e)]
    rw [hr]
    cases r_Ne_findPort N ba pa <;> exact x1
  · rw [s1, if_neg s2, if_neg s3]
    simp only [bn_oc]
    rcases rl_port N M ba pa with ⟨b1, b2⟩ | ⟨b1, b2, b3, b4, b5, b6⟩
    · rw [b1, if_pos b2]; exact x1
    · rw [b1, if_neg b2]
      dsimp only
      unfold r_Ne_isVlan
      have a1 : (1 : Int32).toInt = 1 := rfl
      have a2 : (2 : Int32).toInt = 2 := rfl
      have a0 : (0 : Int32).toInt = 0 := rfl
      by_cases v1 : va < 1
      · rw [if_pos v1, if_pos v1, if_pos rfl]; exact x2
      · rw [if_neg v1, if_neg v1]
        by_cases v2 : va ≤ 2
        · rw [if_neg (show ¬ 2 < va from by rw [Int32.lt_iff_toInt_lt]; rw [Int32.le_iff_toInt_le] at v2; omega), if_pos v2, if_neg (show ¬ (1 : Int32) = 0 from by decide)]
          have hx : 4 * ba.toNatClampNeg + pa.toNatClampNeg < 20 := by omega
          have f1 := rl_free h.1 hx
          obtain ⟨g1, g2⟩ := rl_cl (a := va) (by rw [Int32.lt_iff_toInt_lt] at v1 ⊢; omega)
          have hv : 1 ≤ va.toNatClampNeg ∧ va.toNatClampNeg < 3 := by
            rw [Int32.lt_iff_toInt_lt] at v1
            rw [Int32.le_iff_toInt_le] at v2
            omega
          by_cases j1 : M.2.1 4 (4 * ba.toNatClampNeg + pa.toNatClampNeg) = 0
          · rw [if_neg (fun a => f1.mp a j1), if_pos j1]
            obtain ⟨hR, hT, h3, h4⟩ := rm_th h 0
            rw [show ba.toNatClampNeg = (4 * ba.toNatClampNeg + pa.toNatClampNeg) / 4 from by omega, show 4 * ((4 * ba.toNatClampNeg + pa.toNatClampNeg) / 4) + pa.toNatClampNeg = 4 * ba.toNatClampNeg + pa.toNatClampNeg from by omega]
            generalize 4 * ba.toNatClampNeg + pa.toNatClampNeg = x at hx ⊢
            generalize sa.toNatClampNeg = t at s6 ⊢
            generalize va.toNatClampNeg = v at hv ⊢
            unfold o_St_leave
            rcases h3 t s6 with ⟨o1, o2⟩ | ⟨y, hy, o1, o2⟩
            · have o2 : M.1 27 t < 0 := o2
              rw [o1, if_pos o2]
              dsimp only [bn_oc]
              obtain ⟨r1, r2⟩ := rm_settle hR hT (fun z hz _ => h3 z hz) h4 s6 hx hv.1 hv.2
              refine ⟨?_, r1⟩
              rw [r2]
              rfl
            · have o2 : M.1 27 t = nI y := o2
              rw [o1, o2, if_neg (rl_nneg (by omega)), nI_clamp (by omega)]
              dsimp only [bn_oc]
              have hJ : RR nf 20 N (sI M 41 0 0) (o_Po_join N y none none) (o_Mo_clear (sU (sI M 41 0 0) 4 y 0) y) := rr_join hR hy (j := 0) (by omega) (by omega) (fun h9 => absurd h9 (by omega))
              have hC := rr_compute hJ (b := y / 4) (by omega) (Or.inr (Nat.le_refl 20))
              have hMc := rm_of ⟨hR, hT, h3, h4⟩ hC
              have hth := hC.kth
              generalize o_Br_compute (o_Po_join N y none none) (y / 4) = Nc at hMc ⊢
              generalize o_Mo_compute (o_Mo_clear (sU (sI M 41 0 0) 4 y 0) y) (y / 4) = Mc at hMc hth ⊢
              obtain ⟨c1, c2, c3, c4⟩ := hMc
              obtain ⟨r1, r2⟩ := rm_settle (N := sO Nc 4 t none) (M := Mc) (t := t) (x := x) (v := v) (rr_away c1 t) c2 (fun z hz e => by
                have := c3 z hz
                show rl_at (bn_up Nc.2.2.2 4 t none 4 z) _
                simpa [bn_up, e] using this) c4 s6 hx hv.1 hv.2
              refine ⟨?_, r1⟩
              rw [r2, hth]
              rfl
          · rw [if_pos (f1.mpr j1), if_neg j1]; exact x3
        · rw [if_pos (show 2 < va from by rw [Int32.lt_iff_toInt_lt]; rw [Int32.le_iff_toInt_le] at v2; omega), if_neg v2, if_pos rfl]; exact x2
