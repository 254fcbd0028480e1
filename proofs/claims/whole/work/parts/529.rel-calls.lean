/-! relation of the two states (529.rel-calls): written by wip/whole/rel -/
theorem rr_frame {nf : Nat} {N M : bn_S} (h : RR nf 20 N M N M) (a b c : Nat) (d : Int32) : RR (nf + 1) 20 (fr_N N nf a b c d) (sI (sU (sU (sU (sI (sI M 41 0 0) 14 240 3) 18 240 a) 19 240 b) 20 240 c) 21 240 d) (fr_N N nf a b c d) (sI (sU (sU (sU (sI (sI M 41 0 0) 14 240 3) 18 240 a) 19 240 b) 20 240 c) 21 240 d) := by
  refine ⟨h.role, h.stat, h.wait, h.cost, h.vlan, h.prop, h.prb, h.agr, h.cst, h.st3, h.PP, h.GG, h.G2, h.WW, h.info, h.peer, h.stn, h.jb, h.diff, h.stp, h.cnt, h.cnb, h.fst, ?_, h.bid, h.best, h.rp, h.plc, h.plb, h.liv, h.got, h.gotb, h.inb, rfl, rfl, rfl, rfl, rfl, rfl, rfl, rfl, rfl, rfl, rfl, rfl, rfl, rfl, rfl, rfl, rfl, rfl, rfl, fun _ _ => ⟨rfl, rfl⟩⟩
  intro z hz k hk
  have hm := h.msg z hz k hk
  have hkb := h.cnb z hz
  have hj : ¬ 12 * z + k = 240 := by
    have hk : k < M.2.1 13 z := hk
    omega
  show rl_m (nf + 1) (fr_N N nf a b c d) (12 * z + (N.2.1 6 z + k) % 12) _ (12 * z + k)
  generalize 12 * z + (N.2.1 6 z + k) % 12 = i at hm ⊢
  generalize 12 * z + k = j at hm hj ⊢
  have e1 : (sI (sU (sU (sU (sI (sI M 41 0 0) 14 240 3) 18 240 a) 19 240 b) 20 240 c) 21 240 d).1 14 j = M.1 14 j := by simp [sI, sU, bn_up, hj]
  have e2 : (sI (sU (sU (sU (sI (sI M 41 0 0) 14 240 3) 18 240 a) 19 240 b) 20 240 c) 21 240 d).2.1 18 j = M.2.1 18 j := by simp [sI, sU, bn_up, hj]
  have e3 : (sI (sU (sU (sU (sI (sI M 41 0 0) 14 240 3) 18 240 a) 19 240 b) 20 240 c) 21 240 d).2.1 19 j = M.2.1 19 j := by simp [sI, sU, bn_up, hj]
  have e4 : (sI (sU (sU (sU (sI (sI M 41 0 0) 14 240 3) 18 240 a) 19 240 b) 20 240 c) 21 240 d).2.1 20 j = M.2.1 20 j := by simp [sI, sU, bn_up, hj]
  have e5 : (sI (sU (sU (sU (sI (sI M 41 0 0) 14 240 3) 18 240 a) 19 240 b) 20 240 c) 21 240 d).1 21 j = M.1 21 j := by simp [sI, sU, bn_up, hj]
  refine rl_mm_eq (k2 := M.1 14 j) (w := M.2.2.1 15 j) (h2 := M.1 16 j) (p2 := M.2.1 17 j) (s2 := M.2.1 18 j) (d2 := M.2.1 19 j) (v2 := M.2.1 20 j) (wh := M.1 21 j) ?_ e1 rfl rfl rfl e2 e3 e4 e5
  rcases hm with hm | hm | ⟨k1, k2, f, hf, fo, g1, g2, g3, g4, g5, g6, g7, g8⟩
  · exact Or.inl hm
  · exact Or.inr (Or.inl hm)
  · have hf' : ¬ f = nf := by omega
    refine Or.inr (Or.inr ⟨k1, k2, f, by omega, fo, ?_, ?_, ?_, ?_, g5, g6, g7, g8⟩)
    · rw [← g1]; simp [fr_N, sI, sU, bn_up, hf']
    · rw [← g2]; simp [fr_N, sI, sU, bn_up, hf']
    · rw [← g3]; simp [fr_N, sI, sU, bn_up, hf']
    · rw [← g4]; simp [fr_N, sI, sU, bn_up, hf']
def rl_sc : Nat → Int32
  | 0 => 0
  | 1 => 1
  | 2 => 3
  | _ => 2
def rl_sP (nf : Nat) (a : Nat × Int32 × bn_S) (m : Int32 × bn_S) : Prop := rl_sc a.1 = m.2.1 41 0 ∧ a.2.1 = m.1 ∧ ((a.1 = 0 ∧ RM (nf + 1) a.2.2 m.2) ∨ (¬ a.1 = 0 ∧ RM nf a.2.2 m.2))
theorem rm_send0 {nf : Nat} {N M : bn_S} (h : RM nf N M) (sa da wh : Int32) : rl_sP nf (o_Ne_send N nf sa da wh) (o_Mo_send M sa da wh) := by
  unfold o_Ne_send o_Mo_send
  rcases rl_stn N sa with ⟨s1, s2⟩ | ⟨s1, s2, s3, s4, s5, s6⟩
  · rw [s1]
    by_cases e : sa < 0
    · rw [if_pos e]; exact ⟨rfl, rfl, Or.inr ⟨show ¬ (1 : Nat) = 0 from by decide, rm_th h 1⟩⟩
    · rw [if_neg e, if_neg (show ¬ sa ≤ 7 from by
        have := s2.resolve_left e
        rw [Int32.lt_iff_toInt_lt] at this
        rw [Int32.le_iff_toInt_le]
        omega)]
      exact ⟨rfl, rfl, Or.inr ⟨show ¬ (1 : Nat) = 0 from by decide, rm_th h 1⟩⟩
  · rw [s1, if_neg s2, if_pos s4]
    dsimp only [bn_oc]
    generalize sa.toNatClampNeg = t at s6 ⊢
    rcases h.2.2.1 t s6 with ⟨o1, o2⟩ | ⟨y, hy, o1, o2⟩
    · rw [o1, if_neg (show ¬ 0 ≤ M.1 27 t from by rw [Int32.lt_iff_toInt_lt] at o2; rw [Int32.le_iff_toInt_le]; omega)]
      exact ⟨rfl, rfl, Or.inr ⟨show ¬ (3 : Nat) = 0 from by decide, rm_th h 2⟩⟩
    · rw [o1, o2, if_pos (show 0 ≤ nI y from by rw [Int32.le_iff_toInt_le, nI_toInt (by omega)]; simp)]
      dsimp only
      by_cases d0 : da < 0
      · rw [if_pos d0, if_pos d0]; exact ⟨rfl, rfl, Or.inr ⟨show ¬ (2 : Nat) = 0 from by decide, rm_th h 3⟩⟩
      · rw [if_neg d0, if_neg d0]
        by_cases d9 : da ≤ 9
        · rw [if_pos d9, if_pos d9, nI_clamp (by omega)]
          obtain ⟨g1, g2⟩ := rl_cl d0
          have hd : da.toNatClampNeg < 10 := by
            rw [Int32.le_iff_toInt_le] at d9
            have : (9 : Int32).toInt = 9 := rfl
            omega
          generalize da.toNatClampNeg = d at hd ⊢
          obtain ⟨hR, hT, h3, h4⟩ := h
          have hv := h4 t s6 (by rw [o2]; exact rl_nneg (by omega))
          rw [hv.1]
          have hF := rr_frame hR t d (M.2.1 28 t) wh
          have hM : RM (nf + 1) (fr_N N nf t d (M.2.1 28 t) wh) (sI (sU (sU (sU (sI (sI M 41 0 0) 14 240 3) 18 240 t) 19 240 d) 20 240 (M.2.1 28 t)) 21 240 wh) := ⟨hF, hT, h3, h4⟩
          have hH : rl_hand (nf + 1) (fr_N N nf t d (M.2.1 28 t) wh) nf (sI (sU (sU (sU (sI (sI M 41 0 0) 14 240 3) 18 240 t) 19 240 d) 20 240 (M.2.1 28 t)) 21 240 wh) := by
            refine ⟨by omega, ?_, ?_, ?_, ?_, rfl, s6, hd, hv.2.1, hv.2.2⟩
            · simp [fr_N, sI, sU, bn_up]
            · simp [fr_N, sI, sU, bn_up]
            · simp [fr_N, sI, sU, bn_up]
            · simp [fr_N, sI, sU, bn_up]
          have hth : (sI (sU (sU (sU (sI (sI M 41 0 0) 14 240 3) 18 240 t) 19 240 d) 20 240 (M.2.1 28 t)) 21 240 wh).1 41 0 = 0 := rfl
          have hsv := hM.2.2.2
          generalize fr_N N nf t d (M.2.1 28 t) wh = N1 at hF hM hH hsv ⊢
          generalize (sI (sU (sU (sU (sI (sI M 41 0 0) 14 240 3) 18 240 t) 19 240 d) 20 240 (M.2.1 28 t)) 21 240 wh) = M1 at hF hM hH hth hsv ⊢
          obtain ⟨r1, r2⟩ := rr_hearFrame hF hy (Or.inr (Nat.le_refl 20)) hH (fun z hz h9 => (hsv z hz h9).1)
          refine ⟨?_, r2, ?_⟩
          · show rl_sc 0 = (o_Mo_frame M1 y).2.1 41 0
            rw [r1.kth, hth]; rfl
          · exact Or.inl ⟨rfl, rm_of hM r1⟩
        · rw [if_neg d9, if_neg d9]; exact ⟨rfl, rfl, Or.inr ⟨show ¬ (2 : Nat) = 0 from by decide, rm_th h 3⟩⟩
theorem rm_send {nf : Nat} {N M : bn_S} (h : RM nf N M) (sa da wh : Int32) : rl_sc (o_Ne_send N nf sa da wh).1 = (o_Mo_send M sa da wh).2.1 41 0 ∧ (o_Ne_send N nf sa da wh).2.1 = (o_Mo_send M sa da wh).1 ∧ RM (if (o_Ne_send N nf sa da wh).1 = 0 then nf + 1 else nf) (o_Ne_send N nf sa da wh).2.2 (o_Mo_send M sa da wh).2 := by
  obtain ⟨h1, h2, h3⟩ := rm_send0 h sa da wh
  refine ⟨h1, h2, ?_⟩
  rcases h3 with ⟨a, b⟩ | ⟨a, b⟩
  · rw [if_pos a]; exact b
  · rw [if_neg a]; exact b
theorem rm_port {nf : Nat} {N M : bn_S} (h : RM nf N M) (ba pa : Int32) : r_Ne_port N ba pa = (o_Mo_port M ba pa).1 ∧ RM nf N (o_Mo_port M ba pa).2 := by
  have h' := rm_th h 0
  unfold r_Ne_port o_Mo_port
  rcases rl_port N (sI M 41 0 0) ba pa with ⟨b1, b2⟩ | ⟨b1, b2, b3, b4, b5, b6⟩
  · rw [b1, if_pos b2]; exact ⟨rfl, h'⟩
  · rw [b1, if_neg b2]
    dsimp only [bn_oc]
    have hx : 4 * ba.toNatClampNeg + pa.toNatClampNeg < 20 := by omega
    unfold r_Po_summary
    rw [h.1.role _ hx, h.1.stat _ hx, h.1.wait _ hx, h.1.prop _ hx, h.1.agr _ hx]
    split
    · split <;> exact ⟨rfl, h'⟩
    · split <;> exact ⟨rfl, h'⟩
theorem rl_shl8 {c : Nat} (h : c < 65536) : (Int64.ofNat c) <<< (Int32.toInt64 8 &&& 63) = 256 * Int64.ofNat c := by
  rw [rl_shl 8 (by omega) (by omega) _ (by decide), Nat.mul_comm, Int64.ofNat_mul]
  rfl
theorem rl_shl24 {c : Nat} (h : c < 65536) : (Int64.ofNat c) <<< (Int32.toInt64 24 &&& 63) = 16777216 * Int64.ofNat c := by
  rw [rl_shl 24 (by omega) (by omega) _ (by decide), Nat.mul_comm, Int64.ofNat_mul]
  rfl
theorem rm_root {nf : Nat} {N M : bn_S} (h : RM nf N M) (ba : Int32) : r_Ne_root N ba = (o_Mo_root M ba).1 ∧ RM nf N (o_Mo_root M ba).2 := by
  have h' := rm_th h 0
  unfold r_Ne_root o_Mo_root
  rcases rl_bridge N (sI M 41 0 0) ba with ⟨b1, b2⟩ | ⟨b1, b2, b3, b4⟩
  · rw [if_pos b1, if_pos b2]; exact ⟨rfl, h'⟩
  · rw [if_neg b1, if_neg b2]
    refine ⟨?_, h'⟩
    obtain ⟨r, c, g, p, n, hr, hg, hp, hc, hn, e1, e2, e3, e4, e5⟩ := h.1.best _ b4
    unfold r_Br_summary
    dsimp only
    rw [e1, e2, e3, e4, e5, rl_w_root _ hr (by omega) (by omega) (by omega), rl_w_cost _ hr (by omega) (by omega) (by omega), rl_64 (by omega), rl_64 (by omega), rl_64 (by omega), rl_shl8 (by omega), rl_shl24 (by omega)]
theorem rm_info {nf : Nat} {N M : bn_S} (h : RM nf N M) (ba pa : Int32) : r_Ne_info N ba pa = (o_Mo_info M ba pa).1 ∧ RM nf N (o_Mo_info M ba pa).2 := by
  have h' := rm_th h 0
  unfold r_Ne_info o_Mo_info
  rcases rl_port N (sI M 41 0 0) ba pa with ⟨b1, b2⟩ | ⟨b1, b2, b3, b4, b5, b6⟩
  · rw [b1, if_pos b2]; exact ⟨rfl, h'⟩
  · rw [b1, if_neg b2]
    dsimp only [bn_oc]
    have hx : 4 * ba.toNatClampNeg + pa.toNatClampNeg < 20 := by omega
    generalize 4 * ba.toNatClampNeg + pa.toNatClampNeg = x at hx ⊢
    rcases h.1.info x hx with ⟨a1, a2⟩ | ⟨a1, r, c, g, p, n, m, hr, hg, hp, hc, hn, hm1, hm6, ev, ew, eh, eh', el, el'⟩
    · rw [if_pos a1, if_pos a2]; exact ⟨rfl, h'⟩
    · rw [if_neg (by omega), if_neg (by rw [el']; exact rl_ne0 hm1 (by omega))]
      refine ⟨?_, h'⟩
      unfold r_Po_infoSummary
      dsimp only
      rw [ev, ew, eh, eh', el, el', rl_v_root _ hr (by omega) (by omega) (by omega), rl_v_cost _ hr (by omega) (by omega) (by omega), rl_v_bridge _ hr (by omega) (by omega) (by omega), rl_v_port _ hr (by omega) (by omega) (by omega), rl_w_root _ hr (by omega) (by omega) (by omega), rl_w_cost _ hr (by omega) (by omega) (by omega), rl_w_bridge _ hr (by omega) (by omega) (by omega), rl_w_port hr (by omega) (by omega) (by omega), rl_64 (a := c) (by omega), rl_64 (a := p) (by omega), rl_shl8 (by omega)]
theorem rm_learned {nf : Nat} {N M : bn_S} (h : RM nf N M) (ba sa va : Int32) : r_Ne_learned N ba sa va = (o_Mo_learned M ba sa va).1 ∧ RM nf N (o_Mo_learned M ba sa va).2 := by
  have h' := rm_th h 0
  unfold r_Ne_learned o_Mo_learned
  rcases rl_bridge N (sI M 41 0 0) ba with ⟨b1, b2⟩ | ⟨b1, b2, b3, b4⟩
  · rw [if_pos b1, if_pos b2]; exact ⟨rfl, h'⟩
  · rw [if_neg b1, if_neg b2]
    rcases rl_stn N sa with ⟨s1, s2⟩ | ⟨s1, s2, s3, s4, s5, s6⟩
    · rw [s1]
      by_cases e : sa < 0
      · rw [if_pos e]; exact ⟨rfl, h'⟩
      · rw [if_neg e, if_pos (s2.resolve_left e)]; exact ⟨rfl, h'⟩
    · rw [s1, if_neg s2, if_neg s3]
      dsimp only [bn_oc]
      unfold r_Ne_isVlan
      have a1 : (1 : Int32).toInt = 1 := rfl
      have a2 : (2 : Int32).toInt = 2 := rfl
      have a0 : (0 : Int32).toInt = 0 := rfl
      by_cases v1 : va < 1
      · rw [if_pos v1, if_pos v1, if_pos rfl]; exact ⟨rfl, h'⟩
      · rw [if_neg v1, if_neg v1]
        by_cases v2 : va ≤ 2
        · rw [if_neg (show ¬ 2 < va from by rw [Int32.lt_iff_toInt_lt]; rw [Int32.le_iff_toInt_le] at v2; omega), if_pos v2, if_neg (show ¬ (1 : Int32) = 0 from by decide)]
          obtain ⟨g1, g2⟩ := rl_cl (a := va) (by rw [Int32.lt_iff_toInt_lt] at v1 ⊢; omega)
          have hv : 1 ≤ va.toNatClampNeg ∧ va.toNatClampNeg < 3 := by
            rw [Int32.lt_iff_toInt_lt] at v1
            rw [Int32.le_iff_toInt_le] at v2
            omega
          unfold r_Br_placeOf
          have ei : sa.toNatClampNeg * 2 + va.toNatClampNeg - 1 < 16 := by omega
          obtain ⟨l, hl, l1, l2⟩ := h.1.liv _ b4 _ ei
          have hp := h.1.plc _ b4 _ ei
          have eg : 16 * ba.toNatClampNeg + (sa.toNatClampNeg * 2 + va.toNatClampNeg - 1) = 16 * ba.toNatClampNeg + 2 * sa.toNatClampNeg + va.toNatClampNeg - 1 := by omega
          rw [eg] at l2 hp
          rw [l1, l2, hp]
          by_cases el : nI l ≤ 0
          · rw [if_pos el, if_pos el]; exact ⟨rfl, h'⟩
          · rw [if_neg el, if_neg el]; exact ⟨rfl, h'⟩
        · rw [if_pos (show 2 < va from by rw [Int32.lt_iff_toInt_lt]; rw [Int32.le_iff_toInt_le] at v2; omega), if_neg v2, if_pos rfl]; exact ⟨rfl, h'⟩
theorem rm_line {nf : Nat} {N M : bn_S} (h : RM nf N M) (ba pa : Int32) : r_Ne_line N ba pa = (o_Mo_line M ba pa).1 ∧ RM nf N (o_Mo_line M ba pa).2 := by
  have h' := rm_th h 0
  unfold r_Ne_line o_Mo_line
  rcases rl_port N (sI M 41 0 0) ba pa with ⟨b1, b2⟩ | ⟨b1, b2, b3, b4, b5, b6⟩
  · rw [b1, if_pos b2]; exact ⟨rfl, h'⟩
  · rw [b1, if_neg b2]
    dsimp only [bn_oc]
    have hx : 4 * ba.toNatClampNeg + pa.toNatClampNeg < 20 := by omega
    rw [h.1.cnt _ hx]
    exact ⟨rfl, h'⟩
theorem rl_lt_nI {a : Int32} {n : Nat} (hn : n < 2 ^ 31) : a < nI n ↔ ¬ nI n ≤ a := by
  rw [Int32.lt_iff_toInt_lt, Int32.le_iff_toInt_le]
  omega
theorem rl_in {a : Int32} {n : Nat} (h : ¬ a < 0) (hn : n < 2 ^ 31) (h2 : ¬ nI n ≤ a) : a = nI a.toNatClampNeg ∧ a.toNatClampNeg < n := by
  obtain ⟨g1, g2⟩ := rl_cl h
  refine ⟨g1, ?_⟩
  rw [Int32.le_iff_toInt_le, nI_toInt hn] at h2
  omega
theorem rm_inbox {nf : Nat} {N M : bn_S} (h : RM nf N M) (sa ka : Int32) : r_Ne_inbox N sa ka = (o_Mo_inbox M sa ka).1 ∧ RM nf N (o_Mo_inbox M sa ka).2 := by
  have h' := rm_th h 0
  unfold r_Ne_inbox o_Mo_inbox
  have a1 : (-1 : Int32).toInt = -1 := rfl
  have a0 : (0 : Int32).toInt = 0 := rfl
  rcases rl_stn N sa with ⟨s1, s2⟩ | ⟨s1, s2, s3, s4, s5, s6⟩
  · rw [s1]
    by_cases e : sa < 0
    · rw [if_pos e]; exact ⟨rfl, h'⟩
    · rw [if_neg e, if_pos (s2.resolve_left e)]; exact ⟨rfl, h'⟩
  · rw [s1, if_neg s2, if_neg s3]
    dsimp only [bn_oc]
    generalize sa.toNatClampNeg = t at s6 ⊢
    have hgb := h.1.gotb t s6
    have hg := h.1.got t s6
    rw [hg]
    by_cases k1 : ka = -1
    · rw [if_pos k1, if_neg (show ¬ ka < -1 from by rw [k1]; decide), if_pos (show ka < nI (M.2.1 29 t) from by rw [k1, Int32.lt_iff_toInt_lt, nI_toInt (by omega)]; omega), if_pos k1]
      exact ⟨rfl, h'⟩
    · rw [if_neg k1]
      unfold r_St_kept
      rw [hg]
      have hne : ¬ ka.toInt = -1 := fun e => k1 (Int32.toInt_inj.mp (e.trans a1.symm))
      by_cases k0 : ka < 0
      · rw [if_pos k0, if_pos (show ka < -1 from by rw [Int32.lt_iff_toInt_lt] at k0 ⊢; omega)]
        exact ⟨rfl, h'⟩
      · rw [if_neg k0, if_neg (show ¬ ka < -1 from by rw [Int32.lt_iff_toInt_lt] at k0 ⊢; omega)]
        by_cases kc : nI (M.2.1 29 t) ≤ ka
        · rw [if_pos kc, if_neg (fun a => (rl_lt_nI (by omega)).mp a kc)]; exact ⟨rfl, h'⟩
        · rw [if_neg kc, if_pos ((rl_lt_nI (by omega)).mpr kc), if_neg k1]
          obtain ⟨g1, g2⟩ := rl_in k0 (by omega) kc
          exact ⟨h.1.inb t s6 _ (by omega), h'⟩
theorem rm_message {nf : Nat} {N M : bn_S} (h : RM nf N M) (ba pa ka : Int32) : r_Ne_message N ba pa ka = (o_Mo_message M ba pa ka).1 ∧ RM nf N (o_Mo_message M ba pa ka).2 := by
  have h' := rm_th h 0
  unfold r_Ne_message o_Mo_message
  rcases rl_port N (sI M 41 0 0) ba pa with ⟨b1, b2⟩ | ⟨b1, b2, b3, b4, b5, b6⟩
  · rw [b1, if_pos b2]; exact ⟨rfl, h'⟩
  · rw [b1, if_neg b2]
    dsimp only [bn_oc]
    have hx : 4 * ba.toNatClampNeg + pa.toNatClampNeg < 20 := by omega
    generalize 4 * ba.toNatClampNeg + pa.toNatClampNeg = x at hx ⊢
    unfold r_Li_at
    have hcb := h.1.cnb x hx
    rw [h.1.cnt x hx]
    by_cases k0 : ka < 0
    · rw [if_pos k0, if_pos k0]; exact ⟨rfl, h'⟩
    · rw [if_neg k0, if_neg k0]
      by_cases kc : nI (M.2.1 13 x) ≤ ka
      · rw [if_pos kc, if_neg (fun a => (rl_lt_nI (by omega)).mp a kc)]; exact ⟨rfl, h'⟩
      · rw [if_neg kc, if_pos ((rl_lt_nI (by omega)).mpr kc)]
        obtain ⟨g1, g2⟩ := rl_in k0 (by omega) kc
        have hm := h.1.msg x hx _ g2
        dsimp only
        generalize 12 * x + (N.2.1 6 x + ka.toNatClampNeg) % 12 = i at hm ⊢
        generalize 12 * x + ka.toNatClampNeg = j at hm ⊢
        unfold r_Ms_summary
        rcases hm with ⟨k1, k2, fo, _, r, c, b, p, n, hr, hb, hp, hc, hn, ev, ew, er, eh, eh'⟩ | ⟨k1, k2, fo, r, hr, er, ew⟩ | ⟨k1, k2, f, hf, fo, e1, e2, e3, e4, e5, e6, e7, e8⟩
        · rw [fo, k1, k2, er, ew, if_neg (by decide), if_pos rfl, rl_w_root _ hr (by omega) (by omega) (by omega)]
          exact ⟨rfl, h'⟩
        · rw [fo, k1, k2, er, ew, if_neg (by decide), if_neg (by decide), rl_64 (by omega)]
          exact ⟨rfl, h'⟩
        · rw [fo, k1, k2, if_pos rfl]
          dsimp only [bn_oc]
          rw [e2, e3]
          exact ⟨rfl, h'⟩
theorem rm_in {nf : Nat} {N M : bn_S} (h : RM nf N M) (sa : Int32) : ¬ (sa < 0) → sa ≤ 7 → 0 ≤ M.1 27 (sa.toNatClampNeg) → 1 ≤ M.2.1 28 (sa.toNatClampNeg) := by
  intro h1 h2 h3
  obtain ⟨g1, g2⟩ := rl_cl h1
  have a7 : (7 : Int32).toInt = 7 := rfl
  have a0 : (0 : Int32).toInt = 0 := rfl
  rw [Int32.le_iff_toInt_le] at h2 h3
  exact (h.2.2.2 _ (by omega) (by rw [Int32.lt_iff_toInt_lt]; omega)).2.1
theorem rm_P {nf : Nat} {N M : bn_S} (h : RM nf N M) : mo_P M := fun y hy => h.1.PP y hy
theorem rm_P2 {nf : Nat} {N M : bn_S} (h : RM nf N M) (x : Nat) : mo_P (o_Mo_shift (sI M 41 0 0) x) := by
  rw [rl_shift_of]
  exact fun y hy => h.1.PP y hy
theorem rm_V {nf : Nat} {N M : bn_S} (h : RM nf N M) (ba pa : Int32) : ¬ (r_Mo_isPort M ba pa = 0) → ¬ ((M.2.1 13 ((4 * (ba.toNatClampNeg)) + (pa.toNatClampNeg))) = 0) → ¬ (o_Mo_shift (sI M 41 0 0) (4 * ba.toNatClampNeg + pa.toNatClampNeg)).1 14 240 = 1 → ¬ (o_Mo_shift (sI M 41 0 0) (4 * ba.toNatClampNeg + pa.toNatClampNeg)).1 14 240 = 2 → 1 ≤ (o_Mo_shift (sI M 41 0 0) (4 * ba.toNatClampNeg + pa.toNatClampNeg)).2.1 20 240 := by
  intro hp hc h1 h2
  rcases rl_port N M ba pa with ⟨b1, b2⟩ | ⟨b1, b2, b3, b4, b5, b6⟩
  · exact absurd b2 hp
  · have hx : 4 * ba.toNatClampNeg + pa.toNatClampNeg < 20 := by omega
    have hm := rl_shift_hand (rm_th h 0).1 hx hc
    rcases hm with ⟨k1, k2, _⟩ | ⟨k1, k2, _⟩ | ⟨k1, k2, f, hf, fo, e1, e2, e3, e4, e5, e6, e7, e8⟩
    · exact absurd k2 h1
    · exact absurd k2 h2
    · exact e7
