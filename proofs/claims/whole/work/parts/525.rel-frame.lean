/-! relation of the two states (525.rel-frame): written by wip/whole/rel -/
theorem rr_learn {nf x0 : Nat} {N0 M0 N M : bn_S} (h : RR nf x0 N0 M0 N M) {x : Nat} (hx : x < 20) {s v : Nat} (hs : s < 8) (hv : 1 ≤ v) (hv2 : v < 3) : RR nf x0 N0 M0 (o_Br_learn N (x / 4) s v (x % 4)) (sU (sI M 25 ((((16 * (x / 4)) + (2 * s)) + v) - 1) 12) 26 ((((16 * (x / 4)) + (2 * s)) + v) - 1) (x % 4)) := by
  unfold o_Br_learn
  refine ⟨h.role, h.stat, h.wait, h.cost, h.vlan, h.prop, h.prb, h.agr, h.cst, h.st3, h.PP, h.GG, h.G2, h.WW, h.info, h.peer, h.stn, h.jb, h.diff, h.stp, h.cnt, h.cnb, h.fst, h.msg, h.bid, h.best, h.rp, ?_, ?_, ?_, h.got, h.gotb, h.inb, h.kpl, h.ksv, h.ktl, h.kfs, h.kfd, h.kfv, h.kfw, h.kat, h.kin, h.kth, h.ktk, h.h14, h.h15, h.h16, h.h17, h.h18, h.h19, h.h20, h.h21, h.khN⟩
  · intro b hb i hi
    have hp := h.plc b hb i hi
    by_cases e : b = x / 4 ∧ i = s * 2 + v - 1
    · have e' : 16 * b + i = 16 * (x / 4) + 2 * s + v - 1 := by omega
      show bn_up N.2.1 (x / 4 + 20) (s * 2 + v - 1) (x % 4) (b + 20) i = bn_up M.2.1 26 _ (x % 4) 26 (16 * b + i)
      rw [e', bn_up_s, e.1, e.2, bn_up_s]
    · have e1 : ¬ (b + 20 = x / 4 + 20 ∧ i = s * 2 + v - 1) := by omega
      have e2 : ¬ 16 * b + i = 16 * (x / 4) + 2 * s + v - 1 := by omega
      show bn_up N.2.1 (x / 4 + 20) (s * 2 + v - 1) (x % 4) (b + 20) i = bn_up M.2.1 26 _ (x % 4) 26 (16 * b + i)
      unfold bn_up
      rw [if_neg e1, if_neg (by simp [e2])]
      exact hp
  · intro b hb i hi
    have hp := h.plb b hb i hi
    show bn_up M.2.1 26 _ (x % 4) 26 (16 * b + i) < 4
    unfold bn_up
    split
    · omega
    · exact hp
  · intro b hb i hi
    obtain ⟨l, hl, l1, l2⟩ := h.liv b hb i hi
    by_cases e : b = x / 4 ∧ i = s * 2 + v - 1
    · have e' : 16 * b + i = 16 * (x / 4) + 2 * s + v - 1 := by omega
      refine ⟨12, by omega, ?_, ?_⟩
      · show bn_up N.1 (x / 4 + 20) (s * 2 + v - 1) 12 (b + 20) i = nI 12
        rw [e.1, e.2, bn_up_s]; rfl
      · show bn_up M.1 25 _ 12 25 (16 * b + i) = nI 12
        rw [e', bn_up_s]; rfl
    · have e1 : ¬ (b + 20 = x / 4 + 20 ∧ i = s * 2 + v - 1) := by omega
      have e2 : ¬ 16 * b + i = 16 * (x / 4) + 2 * s + v - 1 := by omega
      refine ⟨l, hl, ?_, ?_⟩
      · show bn_up N.1 (x / 4 + 20) (s * 2 + v - 1) 12 (b + 20) i = nI l
        unfold bn_up
        rw [if_neg e1]; exact l1
      · show bn_up M.1 25 _ 12 25 (16 * b + i) = nI l
        unfold bn_up
        rw [if_neg (by simp [e2])]; exact l2

def rl_hand (nf : Nat) (N : bn_S) (f : Nat) (M : bn_S) : Prop := f < nf ∧ N.2.1 10 f = M.2.1 18 240 ∧ N.2.1 11 f = M.2.1 19 240 ∧ N.2.1 12 f = M.2.1 20 240 ∧ N.1 15 f = M.1 21 240 ∧ M.1 14 240 = 3 ∧ M.2.1 18 240 < 8 ∧ M.2.1 19 240 < 10 ∧ 1 ≤ M.2.1 20 240 ∧ M.2.1 20 240 < 3
theorem rl_hand_to {nf x0 : Nat} {N0 M0 N M : bn_S} (h : RR nf x0 N0 M0 N M) {f : Nat} (hf : rl_hand nf N0 f M0) : rl_hand nf N f M := by
  unfold rl_hand at *
  rw [h.kfs, h.kfd, h.kfv, h.kfw, h.h18, h.h19, h.h20, h.h21, h.h14]
  exact hf
theorem rr_keep {nf x0 : Nat} {N0 M0 N M : bn_S} (h : RR nf x0 N0 M0 N M) {t : Nat} (ht : t < 8) {f : Nat} (hf : rl_hand nf N f M) : RR nf x0 N0 M0 (o_St_keep N t f) (if 40 ≤ M.2.1 29 t then M else (sU (sJ M 30 ((40 * t) + (M.2.1 29 t)) ((((Int32.toInt64 (M.1 21 240)) &&& 4294967295) + ((Int32.toInt64 (nI (M.2.1 18 240))) <<< (Int32.toInt64 32 &&& 63))) + ((Int32.toInt64 (nI (M.2.1 19 240))) <<< (Int32.toInt64 36 &&& 63)))) 29 t ((M.2.1 29 t) + 1))) := by
  obtain ⟨f1, f2, f3, f4, f5, f6, f7, f8, f9, f10⟩ := hf
  unfold o_St_keep r_Fr_inboxEntry
  rw [h.got t ht, f2, f3, f5]
  by_cases e : 40 ≤ M.2.1 29 t
  · rw [if_pos e, if_pos e]; exact h
  · rw [if_neg e, if_neg e]
    generalize ((((Int32.toInt64 (M.1 21 240)) &&& 4294967295) + ((Int32.toInt64 (nI (M.2.1 18 240))) <<< (Int32.toInt64 32 &&& 63))) + ((Int32.toInt64 (nI (M.2.1 19 240))) <<< (Int32.toInt64 36 &&& 63))) = v
    refine ⟨h.role, h.stat, h.wait, h.cost, h.vlan, h.prop, h.prb, h.agr, h.cst, h.st3, h.PP, h.GG, h.G2, h.WW, h.info, h.peer, h.stn, h.jb, h.diff, h.stp, h.cnt, h.cnb, h.fst, h.msg, h.bid, h.best, h.rp, h.plc, h.plb, h.liv, ?_, ?_, ?_, h.kpl, h.ksv, h.ktl, h.kfs, h.kfd, h.kfv, h.kfw, h.kat, h.kin, h.kth, h.ktk, h.h14, h.h15, h.h16, h.h17, h.h18, h.h19, h.h20, h.h21, h.khN⟩
    · intro z hz
      by_cases e : z = t
      · subst e; simp [sI, sU, sJ, sO, bn_up]
      · have hs := h.got z hz
        simpa [sI, sU, sJ, sO, bn_up, e] using hs
    · intro z hz
      by_cases e : z = t
      · subst e; simp [sI, sU, sJ, sO, bn_up]; omega
      · have hs := h.gotb z hz
        simpa [sI, sU, sJ, sO, bn_up, e] using hs
    · intro z hz k hk
      have hs := h.inb z hz k hk
      show bn_up N.2.2.1 (t + 20) (M.2.1 29 t) v (z + 20) k = bn_up M.2.2.1 30 (40 * t + M.2.1 29 t) v 30 (40 * z + k)
      unfold bn_up
      by_cases e : z = t ∧ k = M.2.1 29 t
      · rw [if_pos (by omega), if_pos (by omega)]
      · rw [if_neg (by omega), if_neg (by omega)]
        exact hs
theorem rl_has {nf x0 : Nat} {N0 M0 N M : bn_S} (h : RR nf x0 N0 M0 N M) {x : Nat} (hx : x < 20) (v : Int32) : r_Po_carries N x v = r_Mo_has M x v := by
  unfold r_Po_carries r_Mo_has
  rw [h.vlan x hx]
theorem rr_out {nf x0 : Nat} {N0 M0 N M : bn_S} (h : RR nf x0 N0 M0 N M) {x : Nat} (hx : x < 20) (h0 : x0 / 4 = x / 4 ∨ 20 ≤ x0) {f : Nat} (hf : rl_hand nf N f M) (hsv : ∀ t : Nat, t < 8 → ¬ M.1 27 t < 0 → N.2.1 8 t = M.2.1 28 t) : RR nf x0 N0 M0 (o_Po_letOut N x f).2 (o_Mo_out M x).2 ∧ (o_Po_letOut N x f).1 = (o_Mo_out M x).1 ∧ ((o_Mo_out M x).1 = 0 ∨ (o_Mo_out M x).1 = 1) := by
  have hf' := hf
  obtain ⟨f1, f2, f3, f4, f5, f6, f7, f8, f9, f10⟩ := hf'
  unfold o_Po_letOut o_Mo_out
  rw [h.stat x hx, f4, rl_has h hx]
  by_cases es : M.1 6 x = 2
  · rw [if_pos es, if_pos es]
    by_cases ec : r_Mo_has M x (nI (M.2.1 20 240)) = 0
    · rw [if_pos ec, if_pos ec]
      exact ⟨h, rfl, Or.inl rfl⟩
    · rw [if_neg ec, if_neg ec]
      have hj := h.PP x hx es
      rw [h.peer x hx, h.stn x hx]
      by_cases hl : M.2.1 4 x < 100
      · obtain ⟨hy, hy0⟩ := rl_y h hx (by omega) hl h0
        rw [rl_p_lt (by omega) hl, if_neg (rl_lk1 (by omega) hl)]
        simp only [bn_oc]
        unfold o_Li_putFrame o_Li_put
        rw [h.cnt _ hy]
        have hcb := h.cnb _ hy
        by_cases hc : M.2.1 13 (M.2.1 4 x - 1) = 12
        · rw [rl_post_full 3 hc, if_pos (show (-1 : Int32) < 0 from by decide)]
          simp only [bn_oc]
          rw [if_pos hc]
          exact ⟨h, by first | rfl | trivial, by first | exact Or.inr rfl | exact Or.inr trivial⟩
        · rw [rl_post_ok 3 hc, if_neg (rl_nneg (by omega)), nI_clamp (by omega)]
          simp only [bn_oc]
          rw [if_neg hc]
          exact ⟨rr_putF h hy hy0 hc f1 f6 f2 f3 f4 f5 f7 f8 f9 f10, by first | rfl | trivial, by first | exact Or.inr rfl | exact Or.inr trivial⟩
      · have hj := h.jb x hx
        rw [rl_p_none (by omega), rl_s_ge (by omega), if_pos (rl_lk0 (by omega))]
        simp only [bn_oc]
        rw [hsv _ (by omega) (h.stp x hx (by omega))]
        by_cases ev : M.2.1 28 (M.2.1 4 x - 100) = M.2.1 20 240
        · rw [if_pos ev, if_pos ev]
          have hk := rr_keep h (t := M.2.1 4 x - 100) (by omega) hf
          by_cases e40 : 40 ≤ M.2.1 29 (M.2.1 4 x - 100)
          · rw [if_pos e40] at hk ⊢
            exact ⟨hk, rfl, Or.inr rfl⟩
          · rw [if_neg e40] at hk ⊢
            exact ⟨hk, rfl, Or.inr rfl⟩
        · rw [if_neg ev, if_neg ev]
          exact ⟨h, rfl, Or.inr rfl⟩
  · rw [if_neg es, if_neg es]
    exact ⟨h, rfl, Or.inl rfl⟩
theorem rr_flood {nf x0 : Nat} {N0 M0 N M : bn_S} (h : RR nf x0 N0 M0 N M) {x : Nat} (hx : x < 20) (h0 : x0 / 4 = x / 4 ∨ 20 ≤ x0) {f : Nat} (hf : rl_hand nf N0 f M0) (hsv : ∀ t : Nat, t < 8 → ¬ M0.1 27 t < 0 → N0.2.1 8 t = M0.2.1 28 t) (k : Nat) (hk : k ≤ 4) : RR nf x0 N0 M0 (it_Br_flood (x / 4) x f (0, N) k).2 (it_Mo_frameU x (0, M) k).2 ∧ (it_Br_flood (x / 4) x f (0, N) k).1 = (it_Mo_frameU x (0, M) k).1 := by
  induction k with
  | zero => exact ⟨h, rfl⟩
  | succ k ih =>
    obtain ⟨hR, he⟩ := ih (by omega)
    show RR nf x0 N0 M0 (bd_Br_flood (x / 4) x f k (it_Br_flood (x / 4) x f (0, N) k)).2 (bd_Mo_frameU x k (it_Mo_frameU x (0, M) k)).2 ∧ (bd_Br_flood (x / 4) x f k (it_Br_flood (x / 4) x f (0, N) k)).1 = (bd_Mo_frameU x k (it_Mo_frameU x (0, M) k)).1
    generalize it_Br_flood (x / 4) x f (0, N) k = q at hR he ⊢
    generalize it_Mo_frameU x (0, M) k = m at hR he ⊢
    unfold bd_Br_flood bd_Mo_frameU
    by_cases e : 4 * (x / 4) + k = x
    · rw [if_pos e, if_pos e]
      exact ⟨hR, by rw [he]; exact (Int32.add_zero _).symm⟩
    · rw [if_neg e, if_neg e]
      obtain ⟨r1, r2, r3⟩ := rr_out hR (x := 4 * (x / 4) + k) (by omega) (by omega) (rl_hand_to hR hf) (by intro t ht; rw [hR.ksv, hR.kin, hR.kat]; exact hsv t ht)
      rw [r2]
      rcases r3 with a | a
      · rw [if_pos a]
        refine ⟨r1, ?_⟩
        show q.1 = m.1 + _
        rw [a, he, Int32.add_zero]
      · rw [if_neg (by rw [a]; decide)]
        refine ⟨r1, ?_⟩
        show q.1 + 1 = m.1 + _
        rw [a, he]
theorem rl_out_26 (M : bn_S) (x : Nat) : (o_Mo_out M x).2.2.1 26 = M.2.1 26 := by
  unfold o_Mo_out o_Mo_post
  split
  · split
    · rfl
    · split
      · split
        · split <;> rfl
        · rfl
      · split
        · split <;> rfl
        · split <;> rfl
  · rfl
theorem rl_frameL (M : bn_S) (x gj : Nat) (k : Nat) (hk : k ≤ 4) : it_Mo_frameL x gj (0, M) k = if k ≤ M.2.1 26 gj ∨ M.2.1 26 gj = x % 4 then (0, M) else ((o_Mo_out M (4 * (x / 4) + M.2.1 26 gj)).1, (o_Mo_out M (4 * (x / 4) + M.2.1 26 gj)).2) := by
  induction k with
  | zero => rw [if_pos (by omega)]; rfl
  | succ k ih =>
    show bd_Mo_frameL x gj k (it_Mo_frameL x gj (0, M) k) = _
    rw [ih (by omega)]
    unfold bd_Mo_frameL
    by_cases e : k ≤ M.2.1 26 gj ∨ M.2.1 26 gj = x % 4
    · rw [if_pos e]
      by_cases e1 : 4 * (x / 4) + k = x
      · rw [if_pos e1, if_pos (by omega)]
        rfl
      · rw [if_neg e1]
        show (if M.2.1 26 gj = (4 * (x / 4) + k) % 4 then _ else _) = _
        by_cases e2 : M.2.1 26 gj = (4 * (x / 4) + k) % 4
        · rw [if_pos e2, if_neg (by omega), show k = M.2.1 26 gj from by omega]
          show (0 + _, _) = _
          rw [Int32.zero_add]
        · rw [if_neg e2, if_pos (by omega)]
          rfl
    · rw [if_neg e, if_neg (show ¬ (k + 1 ≤ M.2.1 26 gj ∨ M.2.1 26 gj = x % 4) from by omega)]
      have h26 := rl_out_26 M (4 * (x / 4) + M.2.1 26 gj)
      by_cases e1 : 4 * (x / 4) + k = x
      · rw [if_pos e1, Int32.add_zero]
      · rw [if_neg e1]
        simp only []
        rw [h26, if_neg (by omega), Int32.add_zero]
theorem rr_hearFrame {nf x0 : Nat} {N0 M0 N M : bn_S} (h : RR nf x0 N0 M0 N M) {x : Nat} (hx : x < 20) (h0 : x0 / 4 = x / 4 ∨ 20 ≤ x0) {f : Nat} (hf : rl_hand nf N0 f M0) (hsv : ∀ t : Nat, t < 8 → ¬ M0.1 27 t < 0 → N0.2.1 8 t = M0.2.1 28 t) : RR nf x0 N0 M0 (o_Br_hearFrame N (x / 4) x (some f)).2 (o_Mo_frame M x).2 ∧ (o_Br_hearFrame N (x / 4) x (some f)).1 = (o_Mo_frame M x).1 := by
  obtain ⟨f1, f2, f3, f4, f5, f6, f7, f8, f9, f10⟩ := rl_hand_to h hf
  unfold o_Br_hearFrame o_Mo_frame
  simp only [bn_oc]
  rw [f2, f4, h.stat x hx, rl_has h hx]
  by_cases es : M.1 6 x = 0
  · rw [if_pos es, if_pos es]; exact ⟨h, rfl⟩
  · rw [if_neg es, if_neg es]
    by_cases ec : r_Mo_has M x (nI (M.2.1 20 240)) = 0
    · rw [if_pos ec, if_pos ec]; exact ⟨h, rfl⟩
    · rw [if_neg ec, if_neg ec]
      have hL := rr_learn h hx f7 f9 f10
      have d1 : (o_Br_learn N (x / 4) (M.2.1 18 240) (M.2.1 20 240) (x % 4)).1 10 x = M.1 6 x := h.stat x hx
      have d2 : (o_Br_learn N (x / 4) (M.2.1 18 240) (M.2.1 20 240) (x % 4)).2.1 11 f = M.2.1 19 240 := f3
      have d3 : (o_Br_learn N (x / 4) (M.2.1 18 240) (M.2.1 20 240) (x % 4)).2.1 12 f = M.2.1 20 240 := f4
      rw [d1, d2, d3]
      have d4 : (sI M 25 ((((16 * (x / 4)) + (2 * (M.2.1 18 240))) + (M.2.1 20 240)) - 1) 12).1 25 = (sU (sI M 25 ((((16 * (x / 4)) + (2 * (M.2.1 18 240))) + (M.2.1 20 240)) - 1) 12) 26 ((((16 * (x / 4)) + (2 * (M.2.1 18 240))) + (M.2.1 20 240)) - 1) (x % 4)).1 25 := rfl
      rw [d4]
      clear d1 d2 d3 d4
      generalize o_Br_learn N (x / 4) (M.2.1 18 240) (M.2.1 20 240) (x % 4) = NL at hL ⊢
      generalize (sU (sI M 25 ((((16 * (x / 4)) + (2 * (M.2.1 18 240))) + (M.2.1 20 240)) - 1) 12) 26 ((((16 * (x / 4)) + (2 * (M.2.1 18 240))) + (M.2.1 20 240)) - 1) (x % 4)) = ML at hL ⊢
      by_cases e2 : M.1 6 x = 2
      · rw [if_pos e2, if_pos e2]
        by_cases e9 : M.2.1 19 240 = 9
        · rw [if_pos e9, if_pos e9]; exact ⟨hL, rfl⟩
        · rw [if_neg e9, if_neg e9]
          have hU := rr_flood hL hx h0 hf hsv 4 (by omega)
          by_cases e8 : 8 ≤ M.2.1 19 240
          · rw [if_pos e8, if_pos e8]; exact hU
          · rw [if_neg e8, if_neg e8]
            have ei : M.2.1 19 240 * 2 + M.2.1 20 240 - 1 < 16 := by omega
            obtain ⟨l, hl, l1, l2⟩ := hL.liv (x / 4) (by omega) _ ei
            have hp := hL.plc (x / 4) (by omega) _ ei
            have hpb := hL.plb (x / 4) (by omega) _ ei
            have eg : 16 * (x / 4) + (M.2.1 19 240 * 2 + M.2.1 20 240 - 1) = (((16 * (x / 4)) + (2 * (M.2.1 19 240))) + (M.2.1 20 240)) - 1 := by omega
            rw [eg] at l2 hp hpb
            unfold r_Br_placeOf
            rw [l1, l2, hp]
            by_cases el : l = 0
            · rw [el, if_pos (show nI 0 ≤ 0 from by decide), if_pos (show nI 0 ≤ 0 from by decide), if_neg (by decide)]
              exact hU
            · rw [if_neg (rl_pos (by omega) (by omega)), if_neg (rl_pos (by omega) (by omega)), if_pos (show 0 ≤ nI _ from by rw [Int32.le_iff_toInt_le, nI_toInt (by omega)]; simp), nI_clamp (by omega), rl_frameL _ _ _ 4 (by omega)]
              unfold o_Br_passTo
              generalize ML.2.1 26 ((((16 * (x / 4)) + (2 * (M.2.1 19 240))) + (M.2.1 20 240)) - 1) = pl at hpb ⊢
              by_cases ex : pl = x % 4
              · rw [if_pos ex, if_pos (Or.inr ex)]; exact ⟨hL, rfl⟩
              · rw [if_neg ex, if_neg (show ¬ (4 ≤ pl ∨ pl = x % 4) from by omega)]
                obtain ⟨r1, r2, r3⟩ := rr_out hL (x := 4 * (x / 4) + pl) (by omega) (by omega) (rl_hand_to hL hf) (by intro t ht; rw [hL.ksv, hL.kin, hL.kat]; exact hsv t ht)
                rw [r2]
                rcases r3 with a | a
                · rw [if_pos a, a]; exact ⟨r1, rfl⟩
                · rw [if_neg (by rw [a]; decide), a]; exact ⟨r1, rfl⟩
      · rw [if_neg e2, if_neg e2]; exact ⟨hL, rfl⟩
