/-! contracts of the reference, written by wip/whole/gen_model.py -/
theorem mo_4bp {b a : Int32} {b' a' : Nat} (hb : b = nI b') (ha : a = nI a') : 4 * b + a = nI (4 * b' + a') := by
  rw [hb, ha, show (4 : Int32) = nI 4 from rfl, pk_mul, nI_add]
theorem mo_m1 {t : Int32} (h1 : ¬ t < (-1)) (h2 : ¬ t = (-1)) : ¬ t < 0 := by
  intro h
  rw [Int32.lt_iff_toInt_lt] at h h1
  have e0 : (0 : Int32).toInt = 0 := by decide
  have e1 : (-1 : Int32).toInt = -1 := by decide
  exact h2 (Int32.toInt_inj.mp (by omega))
theorem kr_take (N : bn_S) (x : Nat) (r : Int32) (y : Nat) : (o_Mo_take N x r).1 5 y = if y = x then r else N.1 5 y := by
  unfold o_Mo_take
  repeat' split
  all_goals simp_all [sI, sU, bn_up]
theorem kj_take (N : bn_S) (x : Nat) (r : Int32) : (o_Mo_take N x r).2.1 4 = N.2.1 4 := by
  funext i
  unfold o_Mo_take
  repeat' split
  all_goals simp [sI, sU, bn_up]
theorem kr_post (N : bn_S) (x : Nat) (w : Int32) : (o_Mo_post N x w).2.1 5 = N.1 5 := by
  unfold o_Mo_post
  split
  · rfl
  · funext i
    simp [sU, sI, bn_up]
theorem kr_tell (N : bn_S) (x : Nat) : (o_Mo_tell N x).1 5 = N.1 5 := by
  unfold o_Mo_tell
  split
  · exact kr_post N x 1
  · funext i
    have h9 := congrFun (kr_post N x 1) i
    simpa [sU, sI, sJ, bn_up] using h9
theorem krj_tellAll (b : Nat) (q : bn_S) : ∀ k, (it_Mo_tellAll b q k).1 5 = q.1 5 ∧ (it_Mo_tellAll b q k).2.1 4 = q.2.1 4
  | 0 => ⟨rfl, rfl⟩
  | k + 1 => by
    have ih := krj_tellAll b q k
    rw [← it_Mo_tellAll_s]
    unfold bd_Mo_tellAll
    repeat' split
    all_goals first | exact ih | exact ⟨(kr_tell _ _).trans ih.1, (kj_tell _ _).trans ih.2⟩
def mo_G (N : bn_S) (x : Nat) : Prop := (N.1 5 x = 1 ∨ N.1 5 x = 3) → 1 ≤ N.2.1 4 x ∧ N.2.1 4 x < 100
theorem mo_G_role {N : bn_S} {x : Nat} (h : r_Mo_roleOf N x = 1 ∨ r_Mo_roleOf N x = 3) : 1 ≤ N.2.1 4 x ∧ N.2.1 4 x < 100 := by
  unfold r_Mo_roleOf at h
  split at h
  · exact absurd h (by decide)
  · split at h
    · omega
    · exact absurd h (by decide)
theorem mo_G_it (b : Nat) (q : Nat × bn_S) : ∀ n j, j < n → mo_G (it_Mo_compute b q n).2 (4 * b + j)
  | 0, j, h => absurd h (Nat.not_lt_zero _)
  | n + 1, j, h => by
    have ih := mo_G_it b q n
    rw [← it_Mo_compute_s]
    unfold bd_Mo_compute
    split
    · rename_i h1
      by_cases hj : j = n
      · subst hj
        intro h2
        rw [← h1] at h2
        exact mo_G_role h2
      · exact ih j (by omega)
    · show mo_G (o_Mo_take _ _ _) _
      intro h2
      rw [kr_take] at h2
      rw [kj_take]
      by_cases hj : j = n
      · subst hj
        rw [if_pos rfl] at h2
        exact mo_G_role h2
      · rw [if_neg (by omega)] at h2
        exact ih j (by omega) h2
theorem mo_G_all {b : Nat} {N : bn_S} {x : Nat} (h : mo_G N x) : mo_G (o_Mo_tellAll N b) x := by
  have h1 := krj_tellAll b N 4
  unfold mo_G o_Mo_tellAll
  rw [h1.1, h1.2]
  exact h
theorem mo_G_cmp (N : bn_S) {x : Nat} : mo_G (o_Mo_compute N (x / 4)) x := by
  have e : x = 4 * (x / 4) + x % 4 := by omega
  have key : ∀ q, mo_G (it_Mo_compute (x / 4) q 4).2 x := fun q => by
    have h1 := mo_G_it (x / 4) q 4 (x % 4) (by omega)
    rw [← e] at h1
    exact h1
  have fin : ∀ q, mo_G (if (it_Mo_compute (x / 4) q 4).1 = 0 then (it_Mo_compute (x / 4) q 4).2 else o_Mo_tellAll (it_Mo_compute (x / 4) q 4).2 (x / 4)) x := fun q => by
    split
    · exact key q
    · exact mo_G_all (key q)
  unfold o_Mo_compute
  split
  · split
    · split
      · exact fin _
      · exact fin _
    · exact fin _
  · exact fin _
def o_Mo_toldOn (N : bn_S) (x : Nat) : bn_S := (if N.1 16 240 < 6 then (if ((o_Mo_compute (sI (sI (sJ N 10 x (N.2.2.1 15 240)) 11 x (N.1 16 240)) 12 x 6) (x / 4)).2.1 17 240) = 0 then (o_Mo_compute (sI (sI (sJ N 10 x (N.2.2.1 15 240)) 11 x (N.1 16 240)) 12 x 6) (x / 4)) else (if (o_Mo_compute (sI (sI (sJ N 10 x (N.2.2.1 15 240)) 11 x (N.1 16 240)) 12 x 6) (x / 4)).1 5 x = 1 then (o_Mo_agree (o_Mo_compute (sI (sI (sJ N 10 x (N.2.2.1 15 240)) 11 x (N.1 16 240)) 12 x 6) (x / 4)) x) else (if (o_Mo_compute (sI (sI (sJ N 10 x (N.2.2.1 15 240)) 11 x (N.1 16 240)) 12 x 6) (x / 4)).1 5 x = 3 then (o_Mo_agree (o_Mo_compute (sI (sI (sJ N 10 x (N.2.2.1 15 240)) 11 x (N.1 16 240)) 12 x 6) (x / 4)) x) else (o_Mo_compute (sI (sI (sJ N 10 x (N.2.2.1 15 240)) 11 x (N.1 16 240)) 12 x 6) (x / 4))))) else N)
set_option maxHeartbeats 4000000 in
set_option maxRecDepth 100000 in
theorem c_Mo_toldOn (l : Launch) (D : va_G) (ar : Nat → ClassId) (ad : Nat → Nat → Nat) (N : bn_S)  (x : Nat) (hx : x < 20) : bn_V l y_Mo_toldOn w_Mo_toldOn { frames := 5, cells := 0, slots := 0, locals := 120 } (mo_y D ar ad) N [.ref (ad 0 0), .int (nI x)] (o_Mo_toldOn N x) := by
  intro sz
  refine bn_start (cc := b_Mo_toldOn) (maxL := 2) (ret := (Option.none : Option Jvm.ClassFile.FieldType)) (by decide) rfl (Nat.le_of_ble_eq_true rfl) ?_
  intro p e s m args below meth c ls hsz F hml hr hk hl h
  subst hsz
  have E1 := F.1
  have E2 := F.2.1
  have hl : lv_has ls 2 [(0, .ref (ad 0 0)), (1, .int (nI x))] := hl
  refine lv_aload_n E1 E2 d_Mo_toldOn_0 rfl (lv_at hl 0 rfl) ?_
  refine g_Mo_hop F h k_718 d_Mo_toldOn_1 ?_
  refine lv_sipush (v := 240) E1 E2 d_Mo_toldOn_4 (by decide) ?_
  refine ml_hop F h (i := 240) (by omega) (v := N.1 16 240) rfl d_Mo_toldOn_7 ?_
  refine lv_bipush (v := 6) E1 E2 d_Mo_toldOn_8 (by decide) ?_
  refine lv_icmp_lt E1 E2 d_Mo_toldOn_10 rfl (fun h1 => ?_) (fun h1 => ?_)
  · have h1 : N.1 16 240 < 6 := h1
    refine lv_aload_n E1 E2 d_Mo_toldOn_14 rfl (lv_at hl 0 rfl) ?_
    refine g_Mo_info F h k_712 d_Mo_toldOn_15 ?_
    refine lv_iload_n E1 E2 d_Mo_toldOn_18 rfl (lv_at hl 1 rfl) ?_
    refine lv_aload_n E1 E2 d_Mo_toldOn_19 rfl (lv_at hl 0 rfl) ?_
    refine g_Mo_told F h k_717 d_Mo_toldOn_20 ?_
    refine lv_sipush (v := 240) E1 E2 d_Mo_toldOn_23 (by decide) ?_
    refine ml_told F h (i := 240) (by omega) (v := N.2.2.1 15 240) rfl d_Mo_toldOn_26 ?_
    refine ms_info F h (i := x) (by omega) (v := N.2.2.1 15 240) d_Mo_toldOn_27 (fun H locs h => ?_)
    have h : bn_H (mo_y D ar ad) s.heap H locs (sJ N 10 x (N.2.2.1 15 240)) := h
    refine lv_aload_n E1 E2 d_Mo_toldOn_28 rfl (lv_at hl 0 rfl) ?_
    refine g_Mo_infoHops F h k_713 d_Mo_toldOn_29 ?_
    refine lv_iload_n E1 E2 d_Mo_toldOn_32 rfl (lv_at hl 1 rfl) ?_
    refine lv_aload_n E1 E2 d_Mo_toldOn_33 rfl (lv_at hl 0 rfl) ?_
    refine g_Mo_hop F h k_718 d_Mo_toldOn_34 ?_
    refine lv_sipush (v := 240) E1 E2 d_Mo_toldOn_37 (by decide) ?_
    refine ml_hop F h (i := 240) (by omega) (v := N.1 16 240) rfl d_Mo_toldOn_40 ?_
    refine ms_infoHops F h (i := x) (by omega) (v := N.1 16 240) d_Mo_toldOn_41 (fun H locs h => ?_)
    have h : bn_H (mo_y D ar ad) s.heap H locs (sI (sJ N 10 x (N.2.2.1 15 240)) 11 x (N.1 16 240)) := h
    refine lv_aload_n E1 E2 d_Mo_toldOn_42 rfl (lv_at hl 0 rfl) ?_
    refine g_Mo_life F h k_714 d_Mo_toldOn_43 ?_
    refine lv_iload_n E1 E2 d_Mo_toldOn_46 rfl (lv_at hl 1 rfl) ?_
    refine lv_bipush (v := 6) E1 E2 d_Mo_toldOn_47 (by decide) ?_
    refine ms_life F h (i := x) (by omega) (v := 6) d_Mo_toldOn_49 (fun H locs h => ?_)
    have h : bn_H (mo_y D ar ad) s.heap H locs (sI (sI (sJ N 10 x (N.2.2.1 15 240)) 11 x (N.1 16 240)) 12 x 6) := h
    refine lv_aload_n E1 E2 d_Mo_toldOn_50 rfl (lv_at hl 0 rfl) ?_
    refine lv_iload_n E1 E2 d_Mo_toldOn_51 rfl (lv_at hl 1 rfl) ?_
    refine lv_iconst (v := 4) E1 E2 d_Mo_toldOn_52 (by decide) ?_
    refine lv_idiv E1 E2 d_Mo_toldOn_53 (by decide) ?_
    refine bn_ti (y := nI (x / 4)) (pk_div (a := x) (d := 4) (by omega) (by omega) (by omega)) ?_
    refine bn_callv F h (bn_runV (n := 1) (As := [.int (nI (x / 4))]) (rest := []) F hml hl.1 h mi_0 rfl rfl (c_Mo_compute l D ar ad (sI (sI (sJ N 10 x (N.2.2.1 15 240)) 11 x (N.1 16 240)) 12 x 6) (x / 4) (by omega) _) (bn_goodV k_829 k_831 ks_Mo_compute k_7 k_832) rfl rfl (by decide) ⟨by decide, by decide⟩ rfl rfl (Nat.le_of_ble_eq_true rfl) d_Mo_toldOn_54 ⟨Nat.zero_le _, Nat.zero_le _⟩) (fun H locs h => ?_)
    have h : bn_H (mo_y D ar ad) s.heap H locs (o_Mo_compute (sI (sI (sJ N 10 x (N.2.2.1 15 240)) 11 x (N.1 16 240)) 12 x 6) (x / 4)) := h
    refine lv_aload_n E1 E2 d_Mo_toldOn_57 rfl (lv_at hl 0 rfl) ?_
    refine g_Mo_asks F h k_719 d_Mo_toldOn_58 ?_
    refine lv_sipush (v := 240) E1 E2 d_Mo_toldOn_61 (by decide) ?_
    refine ml_asks F h (i := 240) (by omega) (v := (o_Mo_compute (sI (sI (sJ N 10 x (N.2.2.1 15 240)) 11 x (N.1 16 240)) 12 x 6) (x / 4)).2.1 17 240) rfl d_Mo_toldOn_64 ?_
    have hwasks : (o_Mo_compute (sI (sI (sJ N 10 x (N.2.2.1 15 240)) 11 x (N.1 16 240)) 12 x 6) (x / 4)).2.1 17 240 < 2 := mw_asks h.2.2.2 240
    refine lv_if_eq E1 E2 d_Mo_toldOn_65 rfl (fun h2 => ?_) (fun h2 => ?_)
    · have h2 : ((o_Mo_compute (sI (sI (sJ N 10 x (N.2.2.1 15 240)) 11 x (N.1 16 240)) 12 x 6) (x / 4)).2.1 17 240) = 0 := ((nI_eq (a := (o_Mo_compute (sI (sI (sJ N 10 x (N.2.2.1 15 240)) 11 x (N.1 16 240)) 12 x 6) (x / 4)).2.1 17 240) (b := 0) (by omega) (by omega)).mp h2)
      have hq : o_Mo_toldOn N x = (o_Mo_compute (sI (sI (sJ N 10 x (N.2.2.1 15 240)) 11 x (N.1 16 240)) 12 x 6) (x / 4)) := Eq.trans (if_pos h1) (if_pos h2)
      exact bn_retv F hr hk h hq.symm d_Mo_toldOn_93
    · have h2 : ¬ (((o_Mo_compute (sI (sI (sJ N 10 x (N.2.2.1 15 240)) 11 x (N.1 16 240)) 12 x 6) (x / 4)).2.1 17 240) = 0) := (fun hw => h2 ((nI_eq (a := (o_Mo_compute (sI (sI (sJ N 10 x (N.2.2.1 15 240)) 11 x (N.1 16 240)) 12 x 6) (x / 4)).2.1 17 240) (b := 0) (by omega) (by omega)).mpr hw))
      refine lv_aload_n E1 E2 d_Mo_toldOn_68 rfl (lv_at hl 0 rfl) ?_
      refine g_Mo_role F h k_707 d_Mo_toldOn_69 ?_
      refine lv_iload_n E1 E2 d_Mo_toldOn_72 rfl (lv_at hl 1 rfl) ?_
      refine ml_role F h (i := x) (by omega) (v := (o_Mo_compute (sI (sI (sJ N 10 x (N.2.2.1 15 240)) 11 x (N.1 16 240)) 12 x 6) (x / 4)).1 5 x) rfl d_Mo_toldOn_73 ?_
      refine lv_iconst (v := 1) E1 E2 d_Mo_toldOn_74 (by decide) ?_
      refine lv_icmp_eq E1 E2 d_Mo_toldOn_75 rfl (fun h3 => ?_) (fun h3 => ?_)
      · have h3 : (o_Mo_compute (sI (sI (sJ N 10 x (N.2.2.1 15 240)) 11 x (N.1 16 240)) 12 x 6) (x / 4)).1 5 x = 1 := h3
        refine lv_aload_n E1 E2 d_Mo_toldOn_88 rfl (lv_at hl 0 rfl) ?_
        refine lv_iload_n E1 E2 d_Mo_toldOn_89 rfl (lv_at hl 1 rfl) ?_
        have hgg := (mo_G_cmp _ (Or.inl h3))
        have hgj := h.2.2.2.2.1 x
        refine bn_callv F h (bn_runV (n := 1) (As := [.int (nI x)]) (rest := []) F hml hl.1 h mi_0 rfl rfl (c_Mo_agree l D ar ad (o_Mo_compute (sI (sI (sJ N 10 x (N.2.2.1 15 240)) 11 x (N.1 16 240)) 12 x 6) (x / 4)) x (by omega) hgg.1 (by omega) _) (bn_goodV k_880 k_882 ks_Mo_agree k_7 k_883) rfl rfl (by decide) ⟨by decide, by decide⟩ rfl rfl (Nat.le_of_ble_eq_true rfl) d_Mo_toldOn_90 ⟨Nat.zero_le _, Nat.zero_le _⟩) (fun H locs h => ?_)
        have h : bn_H (mo_y D ar ad) s.heap H locs (o_Mo_agree (o_Mo_compute (sI (sI (sJ N 10 x (N.2.2.1 15 240)) 11 x (N.1 16 240)) 12 x 6) (x / 4)) x) := h
        have hq : o_Mo_toldOn N x = (o_Mo_agree (o_Mo_compute (sI (sI (sJ N 10 x (N.2.2.1 15 240)) 11 x (N.1 16 240)) 12 x 6) (x / 4)) x) := Eq.trans (if_pos h1) (Eq.trans (if_neg h2) (if_pos h3))
        exact bn_retv F hr hk h hq.symm d_Mo_toldOn_93
      · have h3 : ¬ ((o_Mo_compute (sI (sI (sJ N 10 x (N.2.2.1 15 240)) 11 x (N.1 16 240)) 12 x 6) (x / 4)).1 5 x = 1) := h3
        refine lv_aload_n E1 E2 d_Mo_toldOn_78 rfl (lv_at hl 0 rfl) ?_
        refine g_Mo_role F h k_707 d_Mo_toldOn_79 ?_
        refine lv_iload_n E1 E2 d_Mo_toldOn_82 rfl (lv_at hl 1 rfl) ?_
        refine ml_role F h (i := x) (by omega) (v := (o_Mo_compute (sI (sI (sJ N 10 x (N.2.2.1 15 240)) 11 x (N.1 16 240)) 12 x 6) (x / 4)).1 5 x) rfl d_Mo_toldOn_83 ?_
        refine lv_iconst (v := 3) E1 E2 d_Mo_toldOn_84 (by decide) ?_
        refine lv_icmp_ne E1 E2 d_Mo_toldOn_85 rfl (fun h4 => ?_) (fun h4 => ?_)
        · have h4 : ¬ ((o_Mo_compute (sI (sI (sJ N 10 x (N.2.2.1 15 240)) 11 x (N.1 16 240)) 12 x 6) (x / 4)).1 5 x = 3) := h4
          have hq : o_Mo_toldOn N x = (o_Mo_compute (sI (sI (sJ N 10 x (N.2.2.1 15 240)) 11 x (N.1 16 240)) 12 x 6) (x / 4)) := Eq.trans (if_pos h1) (Eq.trans (if_neg h2) (Eq.trans (if_neg h3) (if_neg h4)))
          exact bn_retv F hr hk h hq.symm d_Mo_toldOn_93
        · have h4 : (o_Mo_compute (sI (sI (sJ N 10 x (N.2.2.1 15 240)) 11 x (N.1 16 240)) 12 x 6) (x / 4)).1 5 x = 3 := h4
          refine lv_aload_n E1 E2 d_Mo_toldOn_88 rfl (lv_at hl 0 rfl) ?_
          refine lv_iload_n E1 E2 d_Mo_toldOn_89 rfl (lv_at hl 1 rfl) ?_
          have hgg := (mo_G_cmp _ (Or.inr h4))
          have hgj := h.2.2.2.2.1 x
          refine bn_callv F h (bn_runV (n := 1) (As := [.int (nI x)]) (rest := []) F hml hl.1 h mi_0 rfl rfl (c_Mo_agree l D ar ad (o_Mo_compute (sI (sI (sJ N 10 x (N.2.2.1 15 240)) 11 x (N.1 16 240)) 12 x 6) (x / 4)) x (by omega) hgg.1 (by omega) _) (bn_goodV k_880 k_882 ks_Mo_agree k_7 k_883) rfl rfl (by decide) ⟨by decide, by decide⟩ rfl rfl (Nat.le_of_ble_eq_true rfl) d_Mo_toldOn_90 ⟨Nat.zero_le _, Nat.zero_le _⟩) (fun H locs h => ?_)
          have h : bn_H (mo_y D ar ad) s.heap H locs (o_Mo_agree (o_Mo_compute (sI (sI (sJ N 10 x (N.2.2.1 15 240)) 11 x (N.1 16 240)) 12 x 6) (x / 4)) x) := h
          have hq : o_Mo_toldOn N x = (o_Mo_agree (o_Mo_compute (sI (sI (sJ N 10 x (N.2.2.1 15 240)) 11 x (N.1 16 240)) 12 x 6) (x / 4)) x) := Eq.trans (if_pos h1) (Eq.trans (if_neg h2) (Eq.trans (if_neg h3) (if_pos h4)))
          exact bn_retv F hr hk h hq.symm d_Mo_toldOn_93
  · have h1 : ¬ (N.1 16 240 < 6) := h1
    have hq : o_Mo_toldOn N x = N := if_neg h1
    exact bn_retv F hr hk h hq.symm d_Mo_toldOn_13
def bd_Mo_ageOf1 (b : Nat) (k : Nat) (q : bn_S) : bn_S := (if q.1 12 (4 * b + k) ≤ 0 then (sI q 12 (4 * b + k) 0) else (sI q 12 (4 * b + k) ((q.1 12 (4 * b + k)) - 1)))
def it_Mo_ageOf1 (b : Nat) (q0 : bn_S) : Nat → bn_S
  | 0 => q0
  | k + 1 => bd_Mo_ageOf1 b k (it_Mo_ageOf1 b q0 k)
theorem it_Mo_ageOf1_0 (b : Nat) (q0 : bn_S) : bd_Mo_ageOf1 b 0 q0 = it_Mo_ageOf1 b q0 1 := rfl
theorem it_Mo_ageOf1_s (b : Nat) (q0 : bn_S) (k : Nat) : bd_Mo_ageOf1 b k (it_Mo_ageOf1 b q0 k) = it_Mo_ageOf1 b q0 (k + 1) := rfl
def bd_Mo_ageOf2 (b : Nat) (k : Nat) (q : bn_S) : bn_S := (if q.1 25 (16 * b + k) ≤ 0 then (sI q 25 (16 * b + k) 0) else (sI q 25 (16 * b + k) ((q.1 25 (16 * b + k)) - 1)))
def it_Mo_ageOf2 (b : Nat) (q0 : bn_S) : Nat → bn_S
  | 0 => q0
  | k + 1 => bd_Mo_ageOf2 b k (it_Mo_ageOf2 b q0 k)
theorem it_Mo_ageOf2_0 (b : Nat) (q0 : bn_S) : bd_Mo_ageOf2 b 0 q0 = it_Mo_ageOf2 b q0 1 := rfl
theorem it_Mo_ageOf2_s (b : Nat) (q0 : bn_S) (k : Nat) : bd_Mo_ageOf2 b k (it_Mo_ageOf2 b q0 k) = it_Mo_ageOf2 b q0 (k + 1) := rfl
def bd_Mo_ageOf3 (b : Nat) (k : Nat) (q : bn_S) : bn_S := (if r_Mo_isLinked q (4 * b + k) = 0 then q else (if q.1 5 (4 * b + k) = 2 then (if 2 ≤ q.1 6 (4 * b + k) then q else (if (q.1 9 (4 * b + k)) - 1 = 0 then (if (q.1 6 (4 * b + k)) + 1 = 1 then (if (q.2.1 7 (4 * b + k)) = 0 then (sU (sI (sI (sI q 9 (4 * b + k) ((q.1 9 (4 * b + k)) - 1)) 6 (4 * b + k) ((q.1 6 (4 * b + k)) + 1)) 9 (4 * b + k) 4) 7 (4 * b + k) 0) else (sU (sI (sI (sI q 9 (4 * b + k) ((q.1 9 (4 * b + k)) - 1)) 6 (4 * b + k) ((q.1 6 (4 * b + k)) + 1)) 9 (4 * b + k) 4) 7 (4 * b + k) 1)) else (if (q.2.1 7 (4 * b + k)) = 0 then (sU (sI (sI (sI q 9 (4 * b + k) ((q.1 9 (4 * b + k)) - 1)) 6 (4 * b + k) ((q.1 6 (4 * b + k)) + 1)) 9 (4 * b + k) 0) 7 (4 * b + k) 0) else (sU (sI (sI (sI q 9 (4 * b + k) ((q.1 9 (4 * b + k)) - 1)) 6 (4 * b + k) ((q.1 6 (4 * b + k)) + 1)) 9 (4 * b + k) 0) 7 (4 * b + k) 0))) else (sI q 9 (4 * b + k) ((q.1 9 (4 * b + k)) - 1)))) else q))
def it_Mo_ageOf3 (b : Nat) (q0 : bn_S) : Nat → bn_S
  | 0 => q0
  | k + 1 => bd_Mo_ageOf3 b k (it_Mo_ageOf3 b q0 k)
theorem it_Mo_ageOf3_0 (b : Nat) (q0 : bn_S) : bd_Mo_ageOf3 b 0 q0 = it_Mo_ageOf3 b q0 1 := rfl
theorem it_Mo_ageOf3_s (b : Nat) (q0 : bn_S) (k : Nat) : bd_Mo_ageOf3 b k (it_Mo_ageOf3 b q0 k) = it_Mo_ageOf3 b q0 (k + 1) := rfl
def o_Mo_ageOf (N : bn_S) (b : Nat) : bn_S := (it_Mo_ageOf3 b (it_Mo_ageOf2 b (it_Mo_ageOf1 b N 4) 16) 4)
set_option maxHeartbeats 4000000 in
set_option maxRecDepth 100000 in
theorem c_Mo_ageOf (l : Launch) (D : va_G) (ar : Nat → ClassId) (ad : Nat → Nat → Nat) (N : bn_S)  (b : Nat) (hb : b < 5) : bn_V l y_Mo_ageOf w_Mo_ageOf { frames := 1, cells := 0, slots := 0, locals := 21 } (mo_y D ar ad) N [.ref (ad 0 0), .int (nI b)] (o_Mo_ageOf N b) := by
  intro sz
  refine bn_start (cc := b_Mo_ageOf) (maxL := 3) (ret := (Option.none : Option Jvm.ClassFile.FieldType)) (by decide) rfl (Nat.le_of_ble_eq_true rfl) ?_
  intro p e s m args below meth c ls hsz F hml hr hk hl h
  subst hsz
  have E1 := F.1
  have E2 := F.2.1
  have hl : lv_has ls 3 [(0, .ref (ad 0 0)), (1, .int (nI b))] := hl
  refine lv_iconst (v := 4) E1 E2 d_Mo_ageOf_0 (by decide) ?_
  refine lv_iload_n E1 E2 d_Mo_ageOf_1 rfl (lv_at hl 1 rfl) ?_
  refine lv_imul E1 E2 d_Mo_ageOf_2 ?_
  refine bn_ti (y := nI (4 * b)) (pk_mul 4 b) ?_
  refine lv_istore_n E1 E2 d_Mo_ageOf_3 rfl hl (by decide) rfl (fun ls hl => ?_)
  have hl : lv_has ls 3 [(2, .int (nI (4 * b))), (0, .ref (ad 0 0)), (1, .int (nI b))] := hl
  have hs4 : ∀ (Q0 : State → Prop) (k : Nat), k < 4 → ∀ (q : bn_S) (H : Heap) (locs : List Loc) (ls : Array Slot), lv_has ls 3 [(0, .ref (ad 0 0)), (1, .int (nI b)), (2, .int (nI (4 * b + k)))] → bn_H (mo_y D ar ad) s.heap H locs q → (∀ (H : Heap) (locs : List Loc) (ls : Array Slot), lv_has ls 3 [(0, .ref (ad 0 0)), (1, .int (nI b)), (2, .int (nI (4 * b + k + 1)))] → bn_H (mo_y D ar ad) s.heap H locs (bd_Mo_ageOf1 b k q) → W p l e { frames := 1, cells := 0, slots := 0, locals := 21 } s m args below meth c H locs 0 0 Q0 (F0 m 4 ls [])) → W p l e { frames := 1, cells := 0, slots := 0, locals := 21 } s m args below meth c H locs 0 0 Q0 (F0 m 4 ls []) := by
    intro Q0 k hkk q H locs ls hl h kk
    refine lv_iload_n E1 E2 d_Mo_ageOf_4 rfl (lv_at hl 2 rfl) ?_
    refine lv_iconst (v := 4) E1 E2 d_Mo_ageOf_5 (by decide) ?_
    refine lv_iload_n E1 E2 d_Mo_ageOf_6 rfl (lv_at hl 1 rfl) ?_
    refine lv_imul E1 E2 d_Mo_ageOf_7 ?_
    refine bn_ti (y := nI (4 * b)) (pk_mul 4 b) ?_
    refine lv_iconst (v := 4) E1 E2 d_Mo_ageOf_8 (by decide) ?_
    refine lv_iadd E1 E2 d_Mo_ageOf_9 ?_
    refine bn_ti (y := nI ((4 * b) + 4)) (nI_add (4 * b) 4) ?_
    refine lv_icmp_ge E1 E2 d_Mo_ageOf_10 rfl (fun hz => absurd ((nI_leI (a := (4 * b) + 4) (b := 4 * b + k) (by omega) (by omega)).mp hz) (by omega)) (fun _ => ?_)
    refine lv_aload_n E1 E2 d_Mo_ageOf_13 rfl (lv_at hl 0 rfl) ?_
    refine g_Mo_life F h k_714 d_Mo_ageOf_14 ?_
    refine lv_iload_n E1 E2 d_Mo_ageOf_17 rfl (lv_at hl 2 rfl) ?_
    refine lv_aload_n E1 E2 d_Mo_ageOf_18 rfl (lv_at hl 0 rfl) ?_
    refine g_Mo_life F h k_714 d_Mo_ageOf_19 ?_
    refine lv_iload_n E1 E2 d_Mo_ageOf_22 rfl (lv_at hl 2 rfl) ?_
    refine ml_life F h (i := 4 * b + k) (by omega) (v := q.1 12 (4 * b + k)) rfl d_Mo_ageOf_23 ?_
    refine lv_if_le E1 E2 d_Mo_ageOf_24 rfl (fun h1 => ?_) (fun h1 => ?_)
    · have h1 : q.1 12 (4 * b + k) ≤ 0 := h1
      refine lv_iconst (v := 0) E1 E2 d_Mo_ageOf_38 (by decide) ?_
      refine ms_life F h (i := 4 * b + k) (by omega) (v := 0) d_Mo_ageOf_39 (fun H locs h => ?_)
      have h : bn_H (mo_y D ar ad) s.heap H locs (sI q 12 (4 * b + k) 0) := h
      refine lv_iinc (v := (nI (4 * b + k + 1))) E1 E2 d_Mo_ageOf_40 hl (k := 2) rfl (nI_1 _) (by decide) rfl (fun ls hl => ?_)
      have hl : lv_has ls 3 [(2, .int (nI (4 * b + k + 1))), (0, .ref (ad 0 0)), (1, .int (nI b))] := hl
      refine lv_goto E1 E2 d_Mo_ageOf_43 rfl ?_
      have hq : (bd_Mo_ageOf1 b k q) = (sI q 12 (4 * b + k) 0) := if_pos h1
      rw [hq] at kk
      exact kk _ _ ls (lv_sub hl [1, 2, 0] rfl) h
    · have h1 : ¬ (q.1 12 (4 * b + k) ≤ 0) := h1
      refine lv_aload_n E1 E2 d_Mo_ageOf_27 rfl (lv_at hl 0 rfl) ?_
      refine g_Mo_life F h k_714 d_Mo_ageOf_28 ?_
      refine lv_iload_n E1 E2 d_Mo_ageOf_31 rfl (lv_at hl 2 rfl) ?_
      refine ml_life F h (i := 4 * b + k) (by omega) (v := q.1 12 (4 * b + k)) rfl d_Mo_ageOf_32 ?_
      refine lv_iconst (v := 1) E1 E2 d_Mo_ageOf_33 (by decide) ?_
      refine lv_isub E1 E2 d_Mo_ageOf_34 ?_
      refine lv_goto E1 E2 d_Mo_ageOf_35 rfl ?_
      refine ms_life F h (i := 4 * b + k) (by omega) (v := (q.1 12 (4 * b + k)) - 1) d_Mo_ageOf_39 (fun H locs h => ?_)
      have h : bn_H (mo_y D ar ad) s.heap H locs (sI q 12 (4 * b + k) ((q.1 12 (4 * b + k)) - 1)) := h
      refine lv_iinc (v := (nI (4 * b + k + 1))) E1 E2 d_Mo_ageOf_40 hl (k := 2) rfl (nI_1 _) (by decide) rfl (fun ls hl => ?_)
      have hl : lv_has ls 3 [(2, .int (nI (4 * b + k + 1))), (0, .ref (ad 0 0)), (1, .int (nI b))] := hl
      refine lv_goto E1 E2 d_Mo_ageOf_43 rfl ?_
      have hq : (bd_Mo_ageOf1 b k q) = (sI q 12 (4 * b + k) ((q.1 12 (4 * b + k)) - 1)) := if_neg h1
      rw [hq] at kk
      exact kk _ _ ls (lv_sub hl [1, 2, 0] rfl) h
  refine hs4 _ 0 (by decide) N _ _ ls (lv_sub hl [1, 2, 0] rfl) h (fun H locs ls hl h => ?_)
  rw [it_Mo_ageOf1_0] at h
  refine hs4 _ 1 (by decide) (it_Mo_ageOf1 b N 1) _ _ ls hl h (fun H locs ls hl h => ?_)
  rw [it_Mo_ageOf1_s] at h
  refine hs4 _ 2 (by decide) (it_Mo_ageOf1 b N 2) _ _ ls hl h (fun H locs ls hl h => ?_)
  rw [it_Mo_ageOf1_s] at h
  refine hs4 _ 3 (by decide) (it_Mo_ageOf1 b N 3) _ _ ls hl h (fun H locs ls hl h => ?_)
  rw [it_Mo_ageOf1_s] at h
  have hl : lv_has ls 3 [(0, .ref (ad 0 0)), (1, .int (nI b)), (2, .int (nI (4 * b + 4)))] := hl
  have h : bn_H (mo_y D ar ad) s.heap H locs (it_Mo_ageOf1 b N 4) := h
  refine lv_iload_n E1 E2 d_Mo_ageOf_4 rfl (lv_at hl 2 rfl) ?_
  refine lv_iconst (v := 4) E1 E2 d_Mo_ageOf_5 (by decide) ?_
  refine lv_iload_n E1 E2 d_Mo_ageOf_6 rfl (lv_at hl 1 rfl) ?_
  refine lv_imul E1 E2 d_Mo_ageOf_7 ?_
  refine bn_ti (y := nI (4 * b)) (pk_mul 4 b) ?_
  refine lv_iconst (v := 4) E1 E2 d_Mo_ageOf_8 (by decide) ?_
  refine lv_iadd E1 E2 d_Mo_ageOf_9 ?_
  refine bn_ti (y := nI ((4 * b) + 4)) (nI_add (4 * b) 4) ?_
  refine lv_icmp_ge E1 E2 d_Mo_ageOf_10 rfl (fun _ => ?_) (fun hz => absurd ((nI_leI (a := (4 * b) + 4) (b := 4 * b + 4) (by omega) (by omega)).mpr (by omega)) hz)
  refine lv_bipush (v := 16) E1 E2 d_Mo_ageOf_46 (by decide) ?_
  refine lv_iload_n E1 E2 d_Mo_ageOf_48 rfl (lv_at hl 1 rfl) ?_
  refine lv_imul E1 E2 d_Mo_ageOf_49 ?_
  refine bn_ti (y := nI (16 * b)) (pk_mul 16 b) ?_
  refine lv_istore_n E1 E2 d_Mo_ageOf_50 rfl hl (by decide) rfl (fun ls hl => ?_)
  have hl : lv_has ls 3 [(2, .int (nI (16 * b))), (0, .ref (ad 0 0)), (1, .int (nI b))] := hl
  have hs51 : ∀ (Q0 : State → Prop) (k : Nat), k < 16 → ∀ (q : bn_S) (H : Heap) (locs : List Loc) (ls : Array Slot), lv_has ls 3 [(0, .ref (ad 0 0)), (1, .int (nI b)), (2, .int (nI (16 * b + k)))] → bn_H (mo_y D ar ad) s.heap H locs q → (∀ (H : Heap) (locs : List Loc) (ls : Array Slot), lv_has ls 3 [(0, .ref (ad 0 0)), (1, .int (nI b)), (2, .int (nI (16 * b + k + 1)))] → bn_H (mo_y D ar ad) s.heap H locs (bd_Mo_ageOf2 b k q) → W p l e { frames := 1, cells := 0, slots := 0, locals := 21 } s m args below meth c H locs 0 0 Q0 (F0 m 51 ls [])) → W p l e { frames := 1, cells := 0, slots := 0, locals := 21 } s m args below meth c H locs 0 0 Q0 (F0 m 51 ls []) := by
    intro Q0 k hkk q H locs ls hl h kk
    refine lv_iload_n E1 E2 d_Mo_ageOf_51 rfl (lv_at hl 2 rfl) ?_
    refine lv_bipush (v := 16) E1 E2 d_Mo_ageOf_52 (by decide) ?_
    refine lv_iload_n E1 E2 d_Mo_ageOf_54 rfl (lv_at hl 1 rfl) ?_
    refine lv_imul E1 E2 d_Mo_ageOf_55 ?_
    refine bn_ti (y := nI (16 * b)) (pk_mul 16 b) ?_
    refine lv_bipush (v := 16) E1 E2 d_Mo_ageOf_56 (by decide) ?_
    refine lv_iadd E1 E2 d_Mo_ageOf_58 ?_
    refine bn_ti (y := nI ((16 * b) + 16)) (nI_add (16 * b) 16) ?_
    refine lv_icmp_ge E1 E2 d_Mo_ageOf_59 rfl (fun hz => absurd ((nI_leI (a := (16 * b) + 16) (b := 16 * b + k) (by omega) (by omega)).mp hz) (by omega)) (fun _ => ?_)
    refine lv_aload_n E1 E2 d_Mo_ageOf_62 rfl (lv_at hl 0 rfl) ?_
    refine g_Mo_known F h k_727 d_Mo_ageOf_63 ?_
    refine lv_iload_n E1 E2 d_Mo_ageOf_66 rfl (lv_at hl 2 rfl) ?_
    refine lv_aload_n E1 E2 d_Mo_ageOf_67 rfl (lv_at hl 0 rfl) ?_
    refine g_Mo_known F h k_727 d_Mo_ageOf_68 ?_
    refine lv_iload_n E1 E2 d_Mo_ageOf_71 rfl (lv_at hl 2 rfl) ?_
    refine ml_known F h (i := 16 * b + k) (by omega) (v := q.1 25 (16 * b + k)) rfl d_Mo_ageOf_72 ?_
    refine lv_if_le E1 E2 d_Mo_ageOf_73 rfl (fun h2 => ?_) (fun h2 => ?_)
    · have h2 : q.1 25 (16 * b + k) ≤ 0 := h2
      refine lv_iconst (v := 0) E1 E2 d_Mo_ageOf_87 (by decide) ?_
      refine ms_known F h (i := 16 * b + k) (by omega) (v := 0) d_Mo_ageOf_88 (fun H locs h => ?_)
      have h : bn_H (mo_y D ar ad) s.heap H locs (sI q 25 (16 * b + k) 0) := h
      refine lv_iinc (v := (nI (16 * b + k + 1))) E1 E2 d_Mo_ageOf_89 hl (k := 2) rfl (nI_1 _) (by decide) rfl (fun ls hl => ?_)
      have hl : lv_has ls 3 [(2, .int (nI (16 * b + k + 1))), (0, .ref (ad 0 0)), (1, .int (nI b))] := hl
      refine lv_goto E1 E2 d_Mo_ageOf_92 rfl ?_
      have hq : (bd_Mo_ageOf2 b k q) = (sI q 25 (16 * b + k) 0) := if_pos h2
      rw [hq] at kk
      exact kk _ _ ls (lv_sub hl [1, 2, 0] rfl) h
    · have h2 : ¬ (q.1 25 (16 * b + k) ≤ 0) := h2
      refine lv_aload_n E1 E2 d_Mo_ageOf_76 rfl (lv_at hl 0 rfl) ?_
      refine g_Mo_known F h k_727 d_Mo_ageOf_77 ?_
      refine lv_iload_n E1 E2 d_Mo_ageOf_80 rfl (lv_at hl 2 rfl) ?_
      refine ml_known F h (i := 16 * b + k) (by omega) (v := q.1 25 (16 * b + k)) rfl d_Mo_ageOf_81 ?_
      refine lv_iconst (v := 1) E1 E2 d_Mo_ageOf_82 (by decide) ?_
      refine lv_isub E1 E2 d_Mo_ageOf_83 ?_
      refine lv_goto E1 E2 d_Mo_ageOf_84 rfl ?_
      refine ms_known F h (i := 16 * b + k) (by omega) (v := (q.1 25 (16 * b + k)) - 1) d_Mo_ageOf_88 (fun H locs h => ?_)
      have h : bn_H (mo_y D ar ad) s.heap H locs (sI q 25 (16 * b + k) ((q.1 25 (16 * b + k)) - 1)) := h
      refine lv_iinc (v := (nI (16 * b + k + 1))) E1 E2 d_Mo_ageOf_89 hl (k := 2) rfl (nI_1 _) (by decide) rfl (fun ls hl => ?_)
      have hl : lv_has ls 3 [(2, .int (nI (16 * b + k + 1))), (0, .ref (ad 0 0)), (1, .int (nI b))] := hl
      refine lv_goto E1 E2 d_Mo_ageOf_92 rfl ?_
      have hq : (bd_Mo_ageOf2 b k q) = (sI q 25 (16 * b + k) ((q.1 25 (16 * b + k)) - 1)) := if_neg h2
      rw [hq] at kk
      exact kk _ _ ls (lv_sub hl [1, 2, 0] rfl) h
  refine hs51 _ 0 (by decide) (it_Mo_ageOf1 b N 4) _ _ ls (lv_sub hl [1, 2, 0] rfl) h (fun H locs ls hl h => ?_)
  rw [it_Mo_ageOf2_0] at h
  refine hs51 _ 1 (by decide) (it_Mo_ageOf2 b (it_Mo_ageOf1 b N 4) 1) _ _ ls hl h (fun H locs ls hl h => ?_)
  rw [it_Mo_ageOf2_s] at h
  refine hs51 _ 2 (by decide) (it_Mo_ageOf2 b (it_Mo_ageOf1 b N 4) 2) _ _ ls hl h (fun H locs ls hl h => ?_)
  rw [it_Mo_ageOf2_s] at h
  refine hs51 _ 3 (by decide) (it_Mo_ageOf2 b (it_Mo_ageOf1 b N 4) 3) _ _ ls hl h (fun H locs ls hl h => ?_)
  rw [it_Mo_ageOf2_s] at h
  refine hs51 _ 4 (by decide) (it_Mo_ageOf2 b (it_Mo_ageOf1 b N 4) 4) _ _ ls hl h (fun H locs ls hl h => ?_)
  rw [it_Mo_ageOf2_s] at h
  refine hs51 _ 5 (by decide) (it_Mo_ageOf2 b (it_Mo_ageOf1 b N 4) 5) _ _ ls hl h (fun H locs ls hl h => ?_)
  rw [it_Mo_ageOf2_s] at h
  refine hs51 _ 6 (by decide) (it_Mo_ageOf2 b (it_Mo_ageOf1 b N 4) 6) _ _ ls hl h (fun H locs ls hl h => ?_)
  rw [it_Mo_ageOf2_s] at h
  refine hs51 _ 7 (by decide) (it_Mo_ageOf2 b (it_Mo_ageOf1 b N 4) 7) _ _ ls hl h (fun H locs ls hl h => ?_)
  rw [it_Mo_ageOf2_s] at h
  refine hs51 _ 8 (by decide) (it_Mo_ageOf2 b (it_Mo_ageOf1 b N 4) 8) _ _ ls hl h (fun H locs ls hl h => ?_)
  rw [it_Mo_ageOf2_s] at h
  refine hs51 _ 9 (by decide) (it_Mo_ageOf2 b (it_Mo_ageOf1 b N 4) 9) _ _ ls hl h (fun H locs ls hl h => ?_)
  rw [it_Mo_ageOf2_s] at h
  refine hs51 _ 10 (by decide) (it_Mo_ageOf2 b (it_Mo_ageOf1 b N 4) 10) _ _ ls hl h (fun H locs ls hl h => ?_)
  rw [it_Mo_ageOf2_s] at h
  refine hs51 _ 11 (by decide) (it_Mo_ageOf2 b (it_Mo_ageOf1 b N 4) 11) _ _ ls hl h (fun H locs ls hl h => ?_)
  rw [it_Mo_ageOf2_s] at h
  refine hs51 _ 12 (by decide) (it_Mo_ageOf2 b (it_Mo_ageOf1 b N 4) 12) _ _ ls hl h (fun H locs ls hl h => ?_)
  rw [it_Mo_ageOf2_s] at h
  refine hs51 _ 13 (by decide) (it_Mo_ageOf2 b (it_Mo_ageOf1 b N 4) 13) _ _ ls hl h (fun H locs ls hl h => ?_)
  rw [it_Mo_ageOf2_s] at h
  refine hs51 _ 14 (by decide) (it_Mo_ageOf2 b (it_Mo_ageOf1 b N 4) 14) _ _ ls hl h (fun H locs ls hl h => ?_)
  rw [it_Mo_ageOf2_s] at h
  refine hs51 _ 15 (by decide) (it_Mo_ageOf2 b (it_Mo_ageOf1 b N 4) 15) _ _ ls hl h (fun H locs ls hl h => ?_)
  rw [it_Mo_ageOf2_s] at h
  have hl : lv_has ls 3 [(0, .ref (ad 0 0)), (1, .int (nI b)), (2, .int (nI (16 * b + 16)))] := hl
  have h : bn_H (mo_y D ar ad) s.heap H locs (it_Mo_ageOf2 b (it_Mo_ageOf1 b N 4) 16) := h
  refine lv_iload_n E1 E2 d_Mo_ageOf_51 rfl (lv_at hl 2 rfl) ?_
  refine lv_bipush (v := 16) E1 E2 d_Mo_ageOf_52 (by decide) ?_
  refine lv_iload_n E1 E2 d_Mo_ageOf_54 rfl (lv_at hl 1 rfl) ?_
  refine lv_imul E1 E2 d_Mo_ageOf_55 ?_
  refine bn_ti (y := nI (16 * b)) (pk_mul 16 b) ?_
  refine lv_bipush (v := 16) E1 E2 d_Mo_ageOf_56 (by decide) ?_
  refine lv_iadd E1 E2 d_Mo_ageOf_58 ?_
  refine bn_ti (y := nI ((16 * b) + 16)) (nI_add (16 * b) 16) ?_
  refine lv_icmp_ge E1 E2 d_Mo_ageOf_59 rfl (fun _ => ?_) (fun hz => absurd ((nI_leI (a := (16 * b) + 16) (b := 16 * b + 16) (by omega) (by omega)).mpr (by omega)) hz)
  refine lv_iconst (v := 4) E1 E2 d_Mo_ageOf_95 (by decide) ?_
  refine lv_iload_n E1 E2 d_Mo_ageOf_96 rfl (lv_at hl 1 rfl) ?_
  refine lv_imul E1 E2 d_Mo_ageOf_97 ?_
  refine bn_ti (y := nI (4 * b)) (pk_mul 4 b) ?_
  refine lv_istore_n E1 E2 d_Mo_ageOf_98 rfl hl (by decide) rfl (fun ls hl => ?_)
  have hl : lv_has ls 3 [(2, .int (nI (4 * b))), (0, .ref (ad 0 0)), (1, .int (nI b))] := hl
  have hs99 : ∀ (Q0 : State → Prop) (k : Nat), k < 4 → ∀ (q : bn_S) (H : Heap) (locs : List Loc) (ls : Array Slot), lv_has ls 3 [(0, .ref (ad 0 0)), (1, .int (nI b)), (2, .int (nI (4 * b + k)))] → bn_H (mo_y D ar ad) s.heap H locs q → (∀ (H : Heap) (locs : List Loc) (ls : Array Slot), lv_has ls 3 [(0, .ref (ad 0 0)), (1, .int (nI b)), (2, .int (nI (4 * b + k + 1)))] → bn_H (mo_y D ar ad) s.heap H locs (bd_Mo_ageOf3 b k q) → W p l e { frames := 1, cells := 0, slots := 0, locals := 21 } s m args below meth c H locs 0 0 Q0 (F0 m 99 ls [])) → W p l e { frames := 1, cells := 0, slots := 0, locals := 21 } s m args below meth c H locs 0 0 Q0 (F0 m 99 ls []) := by
    intro Q0 k hkk q H locs ls hl h kk
    refine lv_iload_n E1 E2 d_Mo_ageOf_99 rfl (lv_at hl 2 rfl) ?_
    refine lv_iconst (v := 4) E1 E2 d_Mo_ageOf_100 (by decide) ?_
    refine lv_iload_n E1 E2 d_Mo_ageOf_101 rfl (lv_at hl 1 rfl) ?_
    refine lv_imul E1 E2 d_Mo_ageOf_102 ?_
    refine bn_ti (y := nI (4 * b)) (pk_mul 4 b) ?_
    refine lv_iconst (v := 4) E1 E2 d_Mo_ageOf_103 (by decide) ?_
    refine lv_iadd E1 E2 d_Mo_ageOf_104 ?_
    refine bn_ti (y := nI ((4 * b) + 4)) (nI_add (4 * b) 4) ?_
    refine lv_icmp_ge E1 E2 d_Mo_ageOf_105 rfl (fun hz => absurd ((nI_leI (a := (4 * b) + 4) (b := 4 * b + k) (by omega) (by omega)).mp hz) (by omega)) (fun _ => ?_)
    refine lv_aload_n E1 E2 d_Mo_ageOf_108 rfl (lv_at hl 0 rfl) ?_
    refine lv_iload_n E1 E2 d_Mo_ageOf_109 rfl (lv_at hl 2 rfl) ?_
    refine bn_calli F h (bn_runV (n := 1) (As := [.int (nI (4 * b + k))]) (rest := []) F hml hl.1 h mi_0 rfl rfl (c_Mo_isLinked l D ar ad q (4 * b + k) (by omega) _) (bn_goodV k_864 k_866 ks_Mo_isLinked k_7 k_867) rfl rfl (by decide) ⟨by decide, by decide⟩ rfl rfl (Nat.le_of_ble_eq_true rfl) d_Mo_ageOf_110 ⟨Nat.zero_le _, Nat.zero_le _⟩) (fun H locs h => ?_)
    refine lv_if_eq E1 E2 d_Mo_ageOf_113 rfl (fun h3 => ?_) (fun h3 => ?_)
    · have h3 : r_Mo_isLinked q (4 * b + k) = 0 := h3
      refine lv_iinc (v := (nI (4 * b + k + 1))) E1 E2 d_Mo_ageOf_216 hl (k := 2) rfl (nI_1 _) (by decide) rfl (fun ls hl => ?_)
      have hl : lv_has ls 3 [(2, .int (nI (4 * b + k + 1))), (0, .ref (ad 0 0)), (1, .int (nI b))] := hl
      refine lv_goto E1 E2 d_Mo_ageOf_219 rfl ?_
      have hq : (bd_Mo_ageOf3 b k q) = q := if_pos h3
      rw [hq] at kk
      exact kk _ _ ls (lv_sub hl [1, 2, 0] rfl) h
    · have h3 : ¬ (r_Mo_isLinked q (4 * b + k) = 0) := h3
      refine lv_aload_n E1 E2 d_Mo_ageOf_116 rfl (lv_at hl 0 rfl) ?_
      refine g_Mo_role F h k_707 d_Mo_ageOf_117 ?_
      refine lv_iload_n E1 E2 d_Mo_ageOf_120 rfl (lv_at hl 2 rfl) ?_
      refine ml_role F h (i := 4 * b + k) (by omega) (v := q.1 5 (4 * b + k)) rfl d_Mo_ageOf_121 ?_
      refine lv_iconst (v := 2) E1 E2 d_Mo_ageOf_122 (by decide) ?_
      refine lv_icmp_ne E1 E2 d_Mo_ageOf_123 rfl (fun h4 => ?_) (fun h4 => ?_)
      · have h4 : ¬ (q.1 5 (4 * b + k) = 2) := h4
        refine lv_iinc (v := (nI (4 * b + k + 1))) E1 E2 d_Mo_ageOf_216 hl (k := 2) rfl (nI_1 _) (by decide) rfl (fun ls hl => ?_)
        have hl : lv_has ls 3 [(2, .int (nI (4 * b + k + 1))), (0, .ref (ad 0 0)), (1, .int (nI b))] := hl
        refine lv_goto E1 E2 d_Mo_ageOf_219 rfl ?_
        have hq : (bd_Mo_ageOf3 b k q) = q := Eq.trans (if_neg h3) (if_neg h4)
        rw [hq] at kk
        exact kk _ _ ls (lv_sub hl [1, 2, 0] rfl) h
      · have h4 : q.1 5 (4 * b + k) = 2 := h4
        refine lv_aload_n E1 E2 d_Mo_ageOf_126 rfl (lv_at hl 0 rfl) ?_
        refine g_Mo_state F h k_708 d_Mo_ageOf_127 ?_
        refine lv_iload_n E1 E2 d_Mo_ageOf_130 rfl (lv_at hl 2 rfl) ?_
        refine ml_state F h (i := 4 * b + k) (by omega) (v := q.1 6 (4 * b + k)) rfl d_Mo_ageOf_131 ?_
        refine lv_iconst (v := 2) E1 E2 d_Mo_ageOf_132 (by decide) ?_
        refine lv_icmp_ge E1 E2 d_Mo_ageOf_133 rfl (fun h5 => ?_) (fun h5 => ?_)
        · have h5 : 2 ≤ q.1 6 (4 * b + k) := h5
          refine lv_iinc (v := (nI (4 * b + k + 1))) E1 E2 d_Mo_ageOf_216 hl (k := 2) rfl (nI_1 _) (by decide) rfl (fun ls hl => ?_)
          have hl : lv_has ls 3 [(2, .int (nI (4 * b + k + 1))), (0, .ref (ad 0 0)), (1, .int (nI b))] := hl
          refine lv_goto E1 E2 d_Mo_ageOf_219 rfl ?_
          have hq : (bd_Mo_ageOf3 b k q) = q := Eq.trans (if_neg h3) (Eq.trans (if_pos h4) (if_pos h5))
          rw [hq] at kk
          exact kk _ _ ls (lv_sub hl [1, 2, 0] rfl) h
        · have h5 : ¬ (2 ≤ q.1 6 (4 * b + k)) := h5
          refine lv_aload_n E1 E2 d_Mo_ageOf_136 rfl (lv_at hl 0 rfl) ?_
          refine g_Mo_waits F h k_711 d_Mo_ageOf_137 ?_
          refine lv_iload_n E1 E2 d_Mo_ageOf_140 rfl (lv_at hl 2 rfl) ?_
          refine lv_dup2_11 E1 E2 d_Mo_ageOf_141 rfl rfl ?_
          refine ml_waits F h (i := 4 * b + k) (by omega) (v := q.1 9 (4 * b + k)) rfl d_Mo_ageOf_142 ?_
          refine lv_iconst (v := 1) E1 E2 d_Mo_ageOf_143 (by decide) ?_
          refine lv_isub E1 E2 d_Mo_ageOf_144 ?_
          refine ms_waits F h (i := 4 * b + k) (by omega) (v := (q.1 9 (4 * b + k)) - 1) d_Mo_ageOf_145 (fun H locs h => ?_)
          have h : bn_H (mo_y D ar ad) s.heap H locs (sI q 9 (4 * b + k) ((q.1 9 (4 * b + k)) - 1)) := h
          refine lv_aload_n E1 E2 d_Mo_ageOf_146 rfl (lv_at hl 0 rfl) ?_
          refine g_Mo_waits F h k_711 d_Mo_ageOf_147 ?_
          refine lv_iload_n E1 E2 d_Mo_ageOf_150 rfl (lv_at hl 2 rfl) ?_
          refine ml_waits F h (i := 4 * b + k) (by omega) (v := (q.1 9 (4 * b + k)) - 1) (bn_up_s q.1 9 (4 * b + k) ((q.1 9 (4 * b + k)) - 1)) d_Mo_ageOf_151 ?_
          refine lv_if_ne E1 E2 d_Mo_ageOf_152 rfl (fun h6 => ?_) (fun h6 => ?_)
          · have h6 : ¬ ((q.1 9 (4 * b + k)) - 1 = 0) := h6
            refine lv_iinc (v := (nI (4 * b + k + 1))) E1 E2 d_Mo_ageOf_216 hl (k := 2) rfl (nI_1 _) (by decide) rfl (fun ls hl => ?_)
            have hl : lv_has ls 3 [(2, .int (nI (4 * b + k + 1))), (0, .ref (ad 0 0)), (1, .int (nI b))] := hl
            refine lv_goto E1 E2 d_Mo_ageOf_219 rfl ?_
            have hq : (bd_Mo_ageOf3 b k q) = (sI q 9 (4 * b + k) ((q.1 9 (4 * b + k)) - 1)) := Eq.trans (if_neg h3) (Eq.trans (if_pos h4) (Eq.trans (if_neg h5) (if_neg h6)))
            rw [hq] at kk
            exact kk _ _ ls (lv_sub hl [1, 2, 0] rfl) h
          · have h6 : (q.1 9 (4 * b + k)) - 1 = 0 := h6
            refine lv_aload_n E1 E2 d_Mo_ageOf_155 rfl (lv_at hl 0 rfl) ?_
            refine g_Mo_state F h k_708 d_Mo_ageOf_156 ?_
            refine lv_iload_n E1 E2 d_Mo_ageOf_159 rfl (lv_at hl 2 rfl) ?_
            refine lv_dup2_11 E1 E2 d_Mo_ageOf_160 rfl rfl ?_
            refine ml_state F h (i := 4 * b + k) (by omega) (v := q.1 6 (4 * b + k)) rfl d_Mo_ageOf_161 ?_
            refine lv_iconst (v := 1) E1 E2 d_Mo_ageOf_162 (by decide) ?_
            refine lv_iadd E1 E2 d_Mo_ageOf_163 ?_
            refine ms_state F h (i := 4 * b + k) (by omega) (v := (q.1 6 (4 * b + k)) + 1) d_Mo_ageOf_164 (fun H locs h => ?_)
            have h : bn_H (mo_y D ar ad) s.heap H locs (sI (sI q 9 (4 * b + k) ((q.1 9 (4 * b + k)) - 1)) 6 (4 * b + k) ((q.1 6 (4 * b + k)) + 1)) := h
            refine lv_aload_n E1 E2 d_Mo_ageOf_165 rfl (lv_at hl 0 rfl) ?_
            refine g_Mo_waits F h k_711 d_Mo_ageOf_166 ?_
            refine lv_iload_n E1 E2 d_Mo_ageOf_169 rfl (lv_at hl 2 rfl) ?_
            refine lv_aload_n E1 E2 d_Mo_ageOf_170 rfl (lv_at hl 0 rfl) ?_
            refine g_Mo_state F h k_708 d_Mo_ageOf_171 ?_
            refine lv_iload_n E1 E2 d_Mo_ageOf_174 rfl (lv_at hl 2 rfl) ?_
            refine ml_state F h (i := 4 * b + k) (by omega) (v := (q.1 6 (4 * b + k)) + 1) (bn_up_s (sI q 9 (4 * b + k) ((q.1 9 (4 * b + k)) - 1)).1 6 (4 * b + k) ((q.1 6 (4 * b + k)) + 1)) d_Mo_ageOf_175 ?_
            refine lv_iconst (v := 1) E1 E2 d_Mo_ageOf_176 (by decide) ?_
            refine lv_icmp_ne E1 E2 d_Mo_ageOf_177 rfl (fun h7 => ?_) (fun h7 => ?_)
            · have h7 : ¬ ((q.1 6 (4 * b + k)) + 1 = 1) := h7
              refine lv_iconst (v := 0) E1 E2 d_Mo_ageOf_184 (by decide) ?_
              refine ms_waits F h (i := 4 * b + k) (by omega) (v := 0) d_Mo_ageOf_185 (fun H locs h => ?_)
              have h : bn_H (mo_y D ar ad) s.heap H locs (sI (sI (sI q 9 (4 * b + k) ((q.1 9 (4 * b + k)) - 1)) 6 (4 * b + k) ((q.1 6 (4 * b + k)) + 1)) 9 (4 * b + k) 0) := h
              refine lv_aload_n E1 E2 d_Mo_ageOf_186 rfl (lv_at hl 0 rfl) ?_
              refine g_Mo_proposing F h k_709 d_Mo_ageOf_187 ?_
              refine lv_iload_n E1 E2 d_Mo_ageOf_190 rfl (lv_at hl 2 rfl) ?_
              refine lv_aload_n E1 E2 d_Mo_ageOf_191 rfl (lv_at hl 0 rfl) ?_
              refine g_Mo_proposing F h k_709 d_Mo_ageOf_192 ?_
              refine lv_iload_n E1 E2 d_Mo_ageOf_195 rfl (lv_at hl 2 rfl) ?_
              refine ml_proposing F h (i := 4 * b + k) (by omega) (v := q.2.1 7 (4 * b + k)) rfl d_Mo_ageOf_196 ?_
              have hwproposing : q.2.1 7 (4 * b + k) < 2 := mw_proposing h.2.2.2 (4 * b + k)
              refine lv_if_eq E1 E2 d_Mo_ageOf_197 rfl (fun h8 => ?_) (fun h8 => ?_)
              · have h8 : (q.2.1 7 (4 * b + k)) = 0 := ((nI_eq (a := q.2.1 7 (4 * b + k)) (b := 0) (by omega) (by omega)).mp h8)
                refine lv_iconst (v := 0) E1 E2 d_Mo_ageOf_214 (by decide) ?_
                refine ms_proposing F h (i := 4 * b + k) (by omega) (v := 0) (by omega) d_Mo_ageOf_215 (fun H locs h => ?_)
                have h : bn_H (mo_y D ar ad) s.heap H locs (sU (sI (sI (sI q 9 (4 * b + k) ((q.1 9 (4 * b + k)) - 1)) 6 (4 * b + k) ((q.1 6 (4 * b + k)) + 1)) 9 (4 * b + k) 0) 7 (4 * b + k) 0) := h
                refine lv_iinc (v := (nI (4 * b + k + 1))) E1 E2 d_Mo_ageOf_216 hl (k := 2) rfl (nI_1 _) (by decide) rfl (fun ls hl => ?_)
                have hl : lv_has ls 3 [(2, .int (nI (4 * b + k + 1))), (0, .ref (ad 0 0)), (1, .int (nI b))] := hl
                refine lv_goto E1 E2 d_Mo_ageOf_219 rfl ?_
                have hq : (bd_Mo_ageOf3 b k q) = (sU (sI (sI (sI q 9 (4 * b + k) ((q.1 9 (4 * b + k)) - 1)) 6 (4 * b + k) ((q.1 6 (4 * b + k)) + 1)) 9 (4 * b + k) 0) 7 (4 * b + k) 0) := Eq.trans (if_neg h3) (Eq.trans (if_pos h4) (Eq.trans (if_neg h5) (Eq.trans (if_pos h6) (Eq.trans (if_neg h7) (if_pos h8)))))
                rw [hq] at kk
                exact kk _ _ ls (lv_sub hl [1, 2, 0] rfl) h
              · have h8 : ¬ ((q.2.1 7 (4 * b + k)) = 0) := (fun hw => h8 ((nI_eq (a := q.2.1 7 (4 * b + k)) (b := 0) (by omega) (by omega)).mpr hw))
                refine lv_aload_n E1 E2 d_Mo_ageOf_200 rfl (lv_at hl 0 rfl) ?_
                refine g_Mo_state F h k_708 d_Mo_ageOf_201 ?_
                refine lv_iload_n E1 E2 d_Mo_ageOf_204 rfl (lv_at hl 2 rfl) ?_
                refine ml_state F h (i := 4 * b + k) (by omega) (v := (q.1 6 (4 * b + k)) + 1) (bn_up_s (sI q 9 (4 * b + k) ((q.1 9 (4 * b + k)) - 1)).1 6 (4 * b + k) ((q.1 6 (4 * b + k)) + 1)) d_Mo_ageOf_205 ?_
                refine lv_iconst (v := 1) E1 E2 d_Mo_ageOf_206 (by decide) ?_
                refine lv_icmp_ne E1 E2 d_Mo_ageOf_207 rfl (fun _ => ?_) (fun hz => absurd hz h7)
                refine lv_iconst (v := 0) E1 E2 d_Mo_ageOf_214 (by decide) ?_
                refine ms_proposing F h (i := 4 * b + k) (by omega) (v := 0) (by omega) d_Mo_ageOf_215 (fun H locs h => ?_)
                have h : bn_H (mo_y D ar ad) s.heap H locs (sU (sI (sI (sI q 9 (4 * b + k) ((q.1 9 (4 * b + k)) - 1)) 6 (4 * b + k) ((q.1 6 (4 * b + k)) + 1)) 9 (4 * b + k) 0) 7 (4 * b + k) 0) := h
                refine lv_iinc (v := (nI (4 * b + k + 1))) E1 E2 d_Mo_ageOf_216 hl (k := 2) rfl (nI_1 _) (by decide) rfl (fun ls hl => ?_)
                have hl : lv_has ls 3 [(2, .int (nI (4 * b + k + 1))), (0, .ref (ad 0 0)), (1, .int (nI b))] := hl
                refine lv_goto E1 E2 d_Mo_ageOf_219 rfl ?_
                have hq : (bd_Mo_ageOf3 b k q) = (sU (sI (sI (sI q 9 (4 * b + k) ((q.1 9 (4 * b + k)) - 1)) 6 (4 * b + k) ((q.1 6 (4 * b + k)) + 1)) 9 (4 * b + k) 0) 7 (4 * b + k) 0) := Eq.trans (if_neg h3) (Eq.trans (if_pos h4) (Eq.trans (if_neg h5) (Eq.trans (if_pos h6) (Eq.trans (if_neg h7) (if_neg h8)))))
                rw [hq] at kk
                exact kk _ _ ls (lv_sub hl [1, 2, 0] rfl) h
            · have h7 : (q.1 6 (4 * b + k)) + 1 = 1 := h7
              refine lv_iconst (v := 4) E1 E2 d_Mo_ageOf_180 (by decide) ?_
              refine lv_goto E1 E2 d_Mo_ageOf_181 rfl ?_
              refine ms_waits F h (i := 4 * b + k) (by omega) (v := 4) d_Mo_ageOf_185 (fun H locs h => ?_)
              have h : bn_H (mo_y D ar ad) s.heap H locs (sI (sI (sI q 9 (4 * b + k) ((q.1 9 (4 * b + k)) - 1)) 6 (4 * b + k) ((q.1 6 (4 * b + k)) + 1)) 9 (4 * b + k) 4) := h
              refine lv_aload_n E1 E2 d_Mo_ageOf_186 rfl (lv_at hl 0 rfl) ?_
              refine g_Mo_proposing F h k_709 d_Mo_ageOf_187 ?_
              refine lv_iload_n E1 E2 d_Mo_ageOf_190 rfl (lv_at hl 2 rfl) ?_
              refine lv_aload_n E1 E2 d_Mo_ageOf_191 rfl (lv_at hl 0 rfl) ?_
              refine g_Mo_proposing F h k_709 d_Mo_ageOf_192 ?_
              refine lv_iload_n E1 E2 d_Mo_ageOf_195 rfl (lv_at hl 2 rfl) ?_
              refine ml_proposing F h (i := 4 * b + k) (by omega) (v := q.2.1 7 (4 * b + k)) rfl d_Mo_ageOf_196 ?_
              have hwproposing : q.2.1 7 (4 * b + k) < 2 := mw_proposing h.2.2.2 (4 * b + k)
              refine lv_if_eq E1 E2 d_Mo_ageOf_197 rfl (fun h9 => ?_) (fun h9 => ?_)
              · have h9 : (q.2.1 7 (4 * b + k)) = 0 := ((nI_eq (a := q.2.1 7 (4 * b + k)) (b := 0) (by omega) (by omega)).mp h9)
                refine lv_iconst (v := 0) E1 E2 d_Mo_ageOf_214 (by decide) ?_
                refine ms_proposing F h (i := 4 * b + k) (by omega) (v := 0) (by omega) d_Mo_ageOf_215 (fun H locs h => ?_)
                have h : bn_H (mo_y D ar ad) s.heap H locs (sU (sI (sI (sI q 9 (4 * b + k) ((q.1 9 (4 * b + k)) - 1)) 6 (4 * b + k) ((q.1 6 (4 * b + k)) + 1)) 9 (4 * b + k) 4) 7 (4 * b + k) 0) := h
                refine lv_iinc (v := (nI (4 * b + k + 1))) E1 E2 d_Mo_ageOf_216 hl (k := 2) rfl (nI_1 _) (by decide) rfl (fun ls hl => ?_)
                have hl : lv_has ls 3 [(2, .int (nI (4 * b + k + 1))), (0, .ref (ad 0 0)), (1, .int (nI b))] := hl
                refine lv_goto E1 E2 d_Mo_ageOf_219 rfl ?_
                have hq : (bd_Mo_ageOf3 b k q) = (sU (sI (sI (sI q 9 (4 * b + k) ((q.1 9 (4 * b + k)) - 1)) 6 (4 * b + k) ((q.1 6 (4 * b + k)) + 1)) 9 (4 * b + k) 4) 7 (4 * b + k) 0) := Eq.trans (if_neg h3) (Eq.trans (if_pos h4) (Eq.trans (if_neg h5) (Eq.trans (if_pos h6) (Eq.trans (if_pos h7) (if_pos h9)))))
                rw [hq] at kk
                exact kk _ _ ls (lv_sub hl [1, 2, 0] rfl) h
              · have h9 : ¬ ((q.2.1 7 (4 * b + k)) = 0) := (fun hw => h9 ((nI_eq (a := q.2.1 7 (4 * b + k)) (b := 0) (by omega) (by omega)).mpr hw))
                refine lv_aload_n E1 E2 d_Mo_ageOf_200 rfl (lv_at hl 0 rfl) ?_
                refine g_Mo_state F h k_708 d_Mo_ageOf_201 ?_
                refine lv_iload_n E1 E2 d_Mo_ageOf_204 rfl (lv_at hl 2 rfl) ?_
                refine ml_state F h (i := 4 * b + k) (by omega) (v := (q.1 6 (4 * b + k)) + 1) (bn_up_s (sI q 9 (4 * b + k) ((q.1 9 (4 * b + k)) - 1)).1 6 (4 * b + k) ((q.1 6 (4 * b + k)) + 1)) d_Mo_ageOf_205 ?_
                refine lv_iconst (v := 1) E1 E2 d_Mo_ageOf_206 (by decide) ?_
                refine lv_icmp_ne E1 E2 d_Mo_ageOf_207 rfl (fun hz => absurd h7 hz) (fun _ => ?_)
                refine lv_iconst (v := 1) E1 E2 d_Mo_ageOf_210 (by decide) ?_
                refine lv_goto E1 E2 d_Mo_ageOf_211 rfl ?_
                refine ms_proposing F h (i := 4 * b + k) (by omega) (v := 1) (by omega) d_Mo_ageOf_215 (fun H locs h => ?_)
                have h : bn_H (mo_y D ar ad) s.heap H locs (sU (sI (sI (sI q 9 (4 * b + k) ((q.1 9 (4 * b + k)) - 1)) 6 (4 * b + k) ((q.1 6 (4 * b + k)) + 1)) 9 (4 * b + k) 4) 7 (4 * b + k) 1) := h
                refine lv_iinc (v := (nI (4 * b + k + 1))) E1 E2 d_Mo_ageOf_216 hl (k := 2) rfl (nI_1 _) (by decide) rfl (fun ls hl => ?_)
                have hl : lv_has ls 3 [(2, .int (nI (4 * b + k + 1))), (0, .ref (ad 0 0)), (1, .int (nI b))] := hl
                refine lv_goto E1 E2 d_Mo_ageOf_219 rfl ?_
                have hq : (bd_Mo_ageOf3 b k q) = (sU (sI (sI (sI q 9 (4 * b + k) ((q.1 9 (4 * b + k)) - 1)) 6 (4 * b + k) ((q.1 6 (4 * b + k)) + 1)) 9 (4 * b + k) 4) 7 (4 * b + k) 1) := Eq.trans (if_neg h3) (Eq.trans (if_pos h4) (Eq.trans (if_neg h5) (Eq.trans (if_pos h6) (Eq.trans (if_pos h7) (if_neg h9)))))
                rw [hq] at kk
                exact kk _ _ ls (lv_sub hl [1, 2, 0] rfl) h
  refine hs99 _ 0 (by decide) (it_Mo_ageOf2 b (it_Mo_ageOf1 b N 4) 16) _ _ ls (lv_sub hl [1, 2, 0] rfl) h (fun H locs ls hl h => ?_)
  rw [it_Mo_ageOf3_0] at h
  refine hs99 _ 1 (by decide) (it_Mo_ageOf3 b (it_Mo_ageOf2 b (it_Mo_ageOf1 b N 4) 16) 1) _ _ ls hl h (fun H locs ls hl h => ?_)
  rw [it_Mo_ageOf3_s] at h
  refine hs99 _ 2 (by decide) (it_Mo_ageOf3 b (it_Mo_ageOf2 b (it_Mo_ageOf1 b N 4) 16) 2) _ _ ls hl h (fun H locs ls hl h => ?_)
  rw [it_Mo_ageOf3_s] at h
  refine hs99 _ 3 (by decide) (it_Mo_ageOf3 b (it_Mo_ageOf2 b (it_Mo_ageOf1 b N 4) 16) 3) _ _ ls hl h (fun H locs ls hl h => ?_)
  rw [it_Mo_ageOf3_s] at h
  have hl : lv_has ls 3 [(0, .ref (ad 0 0)), (1, .int (nI b)), (2, .int (nI (4 * b + 4)))] := hl
  have h : bn_H (mo_y D ar ad) s.heap H locs (it_Mo_ageOf3 b (it_Mo_ageOf2 b (it_Mo_ageOf1 b N 4) 16) 4) := h
  refine lv_iload_n E1 E2 d_Mo_ageOf_99 rfl (lv_at hl 2 rfl) ?_
  refine lv_iconst (v := 4) E1 E2 d_Mo_ageOf_100 (by decide) ?_
  refine lv_iload_n E1 E2 d_Mo_ageOf_101 rfl (lv_at hl 1 rfl) ?_
  refine lv_imul E1 E2 d_Mo_ageOf_102 ?_
  refine bn_ti (y := nI (4 * b)) (pk_mul 4 b) ?_
  refine lv_iconst (v := 4) E1 E2 d_Mo_ageOf_103 (by decide) ?_
  refine lv_iadd E1 E2 d_Mo_ageOf_104 ?_
  refine bn_ti (y := nI ((4 * b) + 4)) (nI_add (4 * b) 4) ?_
  refine lv_icmp_ge E1 E2 d_Mo_ageOf_105 rfl (fun _ => ?_) (fun hz => absurd ((nI_leI (a := (4 * b) + 4) (b := 4 * b + 4) (by omega) (by omega)).mpr (by omega)) hz)
  have hq : o_Mo_ageOf N b = (it_Mo_ageOf3 b (it_Mo_ageOf2 b (it_Mo_ageOf1 b N 4) 16) 4) := rfl
  exact bn_retv F hr hk h hq.symm d_Mo_ageOf_222
def bd_Mo_tick  (k : Nat) (q : bn_S) : bn_S := (if (o_Mo_compute (o_Mo_ageOf q k) k).1 42 0 = 0 then (o_Mo_tellAll (o_Mo_compute (o_Mo_ageOf q k) k) k) else (o_Mo_compute (o_Mo_ageOf q k) k))
def it_Mo_tick  (q0 : bn_S) : Nat → bn_S
  | 0 => q0
  | k + 1 => bd_Mo_tick  k (it_Mo_tick  q0 k)
theorem it_Mo_tick_0  (q0 : bn_S) : bd_Mo_tick  0 q0 = it_Mo_tick  q0 1 := rfl
theorem it_Mo_tick_s  (q0 : bn_S) (k : Nat) : bd_Mo_tick  k (it_Mo_tick  q0 k) = it_Mo_tick  q0 (k + 1) := rfl
def o_Mo_tick (N : bn_S)  : bn_S := (it_Mo_tick  (sI (sI N 41 0 0) 42 0 (((N.1 42 0) + 1) - ((N.1 42 0) + 1) / 2 * 2)) 5)
set_option maxHeartbeats 4000000 in
set_option maxRecDepth 100000 in
theorem c_Mo_tick (l : Launch) (D : va_G) (ar : Nat → ClassId) (ad : Nat → Nat → Nat) (N : bn_S)  : bn_V l y_Mo_tick w_Mo_tick { frames := 5, cells := 0, slots := 0, locals := 120 } (mo_y D ar ad) N [.ref (ad 0 0)] (o_Mo_tick N) := by
  intro sz
  refine bn_start (cc := b_Mo_tick) (maxL := 2) (ret := (Option.none : Option Jvm.ClassFile.FieldType)) (by decide) rfl (Nat.le_of_ble_eq_true rfl) ?_
  intro p e s m args below meth c ls hsz F hml hr hk hl h
  subst hsz
  have E1 := F.1
  have E2 := F.2.1
  have hl : lv_has ls 2 [(0, .ref (ad 0 0))] := hl
  refine lv_aload_n E1 E2 d_Mo_tick_0 rfl (lv_at hl 0 rfl) ?_
  refine lv_iconst (v := 0) E1 E2 d_Mo_tick_1 (by decide) ?_
  refine p_Mo_thrown F h k_701 d_Mo_tick_2 (fun H locs h => ?_)
  have h : bn_H (mo_y D ar ad) s.heap H locs (sI N 41 0 0) := h
  refine lv_aload_n E1 E2 d_Mo_tick_5 rfl (lv_at hl 0 rfl) ?_
  refine lv_aload_n E1 E2 d_Mo_tick_6 rfl (lv_at hl 0 rfl) ?_
  refine g_Mo_ticks F h k_702 (v := N.1 42 0) rfl d_Mo_tick_7 ?_
  refine lv_iconst (v := 1) E1 E2 d_Mo_tick_10 (by decide) ?_
  refine lv_iadd E1 E2 d_Mo_tick_11 ?_
  refine lv_iconst (v := 2) E1 E2 d_Mo_tick_12 (by decide) ?_
  refine lv_irem E1 E2 d_Mo_tick_13 (by decide) ?_
  refine p_Mo_ticks F h k_702 d_Mo_tick_14 (fun H locs h => ?_)
  have h : bn_H (mo_y D ar ad) s.heap H locs (sI (sI N 41 0 0) 42 0 (((N.1 42 0) + 1) - ((N.1 42 0) + 1) / 2 * 2)) := h
  refine lv_iconst (v := 0) E1 E2 d_Mo_tick_17 (by decide) ?_
  refine lv_istore_n E1 E2 d_Mo_tick_18 rfl hl (by decide) rfl (fun ls hl => ?_)
  have hl : lv_has ls 2 [(1, .int 0), (0, .ref (ad 0 0))] := hl
  have hs19 : ∀ (Q0 : State → Prop) (k : Nat), k < 5 → ∀ (q : bn_S) (H : Heap) (locs : List Loc) (ls : Array Slot), lv_has ls 2 [(0, .ref (ad 0 0)), (1, .int (nI k))] → bn_H (mo_y D ar ad) s.heap H locs q → (∀ (H : Heap) (locs : List Loc) (ls : Array Slot), lv_has ls 2 [(0, .ref (ad 0 0)), (1, .int (nI (k + 1)))] → bn_H (mo_y D ar ad) s.heap H locs (bd_Mo_tick  k q) → W p l e { frames := 5, cells := 0, slots := 0, locals := 120 } s m args below meth c H locs 0 0 Q0 (F0 m 19 ls [])) → W p l e { frames := 5, cells := 0, slots := 0, locals := 120 } s m args below meth c H locs 0 0 Q0 (F0 m 19 ls []) := by
    intro Q0 k hkk q H locs ls hl h kk
    refine lv_iload_n E1 E2 d_Mo_tick_19 rfl (lv_at hl 1 rfl) ?_
    refine lv_iconst (v := 5) E1 E2 d_Mo_tick_20 (by decide) ?_
    refine lv_icmp_ge E1 E2 d_Mo_tick_21 rfl (fun hz => absurd ((nI_leI (a := 5) (b := k) (by omega) (by omega)).mp hz) (by omega)) (fun _ => ?_)
    refine lv_aload_n E1 E2 d_Mo_tick_24 rfl (lv_at hl 0 rfl) ?_
    refine lv_iload_n E1 E2 d_Mo_tick_25 rfl (lv_at hl 1 rfl) ?_
    refine bn_callv F h (bn_runV (n := 1) (As := [.int (nI k)]) (rest := []) F hml hl.1 h mi_0 rfl rfl (c_Mo_ageOf l D ar ad q k (by omega) _) (bn_goodV k_909 k_911 ks_Mo_ageOf k_7 k_912) rfl rfl (by decide) ⟨by decide, by decide⟩ rfl rfl (Nat.le_of_ble_eq_true rfl) d_Mo_tick_26 ⟨Nat.zero_le _, Nat.zero_le _⟩) (fun H locs h => ?_)
    have h : bn_H (mo_y D ar ad) s.heap H locs (o_Mo_ageOf q k) := h
    refine lv_aload_n E1 E2 d_Mo_tick_29 rfl (lv_at hl 0 rfl) ?_
    refine lv_iload_n E1 E2 d_Mo_tick_30 rfl (lv_at hl 1 rfl) ?_
    refine bn_callv F h (bn_runV (n := 1) (As := [.int (nI k)]) (rest := []) F hml hl.1 h mi_0 rfl rfl (c_Mo_compute l D ar ad (o_Mo_ageOf q k) k (by omega) _) (bn_goodV k_829 k_831 ks_Mo_compute k_7 k_832) rfl rfl (by decide) ⟨by decide, by decide⟩ rfl rfl (Nat.le_of_ble_eq_true rfl) d_Mo_tick_31 ⟨Nat.zero_le _, Nat.zero_le _⟩) (fun H locs h => ?_)
    have h : bn_H (mo_y D ar ad) s.heap H locs (o_Mo_compute (o_Mo_ageOf q k) k) := h
    refine lv_aload_n E1 E2 d_Mo_tick_34 rfl (lv_at hl 0 rfl) ?_
    refine g_Mo_ticks F h k_702 (v := (o_Mo_compute (o_Mo_ageOf q k) k).1 42 0) rfl d_Mo_tick_35 ?_
    refine lv_if_ne E1 E2 d_Mo_tick_38 rfl (fun h1 => ?_) (fun h1 => ?_)
    · have h1 : ¬ ((o_Mo_compute (o_Mo_ageOf q k) k).1 42 0 = 0) := h1
      refine lv_iinc (v := (nI (k + 1))) E1 E2 d_Mo_tick_46 hl (k := 1) rfl (nI_1 _) (by decide) rfl (fun ls hl => ?_)
      have hl : lv_has ls 2 [(1, .int (nI (k + 1))), (0, .ref (ad 0 0))] := hl
      refine lv_goto E1 E2 d_Mo_tick_49 rfl ?_
      have hq : (bd_Mo_tick  k q) = (o_Mo_compute (o_Mo_ageOf q k) k) := if_neg h1
      rw [hq] at kk
      exact kk _ _ ls (lv_sub hl [1, 0] rfl) h
    · have h1 : (o_Mo_compute (o_Mo_ageOf q k) k).1 42 0 = 0 := h1
      refine lv_aload_n E1 E2 d_Mo_tick_41 rfl (lv_at hl 0 rfl) ?_
      refine lv_iload_n E1 E2 d_Mo_tick_42 rfl (lv_at hl 1 rfl) ?_
      refine bn_callv F h (bn_runV (n := 1) (As := [.int (nI k)]) (rest := []) F hml hl.1 h mi_0 rfl rfl (c_Mo_tellAll l D ar ad (o_Mo_compute (o_Mo_ageOf q k) k) k (by omega) _) (bn_goodV k_868 k_870 ks_Mo_tellAll k_7 k_871) rfl rfl (by decide) ⟨by decide, by decide⟩ rfl rfl (Nat.le_of_ble_eq_true rfl) d_Mo_tick_43 ⟨Nat.zero_le _, Nat.zero_le _⟩) (fun H locs h => ?_)
      have h : bn_H (mo_y D ar ad) s.heap H locs (o_Mo_tellAll (o_Mo_compute (o_Mo_ageOf q k) k) k) := h
      refine lv_iinc (v := (nI (k + 1))) E1 E2 d_Mo_tick_46 hl (k := 1) rfl (nI_1 _) (by decide) rfl (fun ls hl => ?_)
      have hl : lv_has ls 2 [(1, .int (nI (k + 1))), (0, .ref (ad 0 0))] := hl
      refine lv_goto E1 E2 d_Mo_tick_49 rfl ?_
      have hq : (bd_Mo_tick  k q) = (o_Mo_tellAll (o_Mo_compute (o_Mo_ageOf q k) k) k) := if_pos h1
      rw [hq] at kk
      exact kk _ _ ls (lv_sub hl [1, 0] rfl) h
  refine hs19 _ 0 (by decide) (sI (sI N 41 0 0) 42 0 (((N.1 42 0) + 1) - ((N.1 42 0) + 1) / 2 * 2)) _ _ ls (lv_sub hl [1, 0] rfl) h (fun H locs ls hl h => ?_)
  rw [it_Mo_tick_0] at h
  refine hs19 _ 1 (by decide) (it_Mo_tick  (sI (sI N 41 0 0) 42 0 (((N.1 42 0) + 1) - ((N.1 42 0) + 1) / 2 * 2)) 1) _ _ ls hl h (fun H locs ls hl h => ?_)
  rw [it_Mo_tick_s] at h
  refine hs19 _ 2 (by decide) (it_Mo_tick  (sI (sI N 41 0 0) 42 0 (((N.1 42 0) + 1) - ((N.1 42 0) + 1) / 2 * 2)) 2) _ _ ls hl h (fun H locs ls hl h => ?_)
  rw [it_Mo_tick_s] at h
  refine hs19 _ 3 (by decide) (it_Mo_tick  (sI (sI N 41 0 0) 42 0 (((N.1 42 0) + 1) - ((N.1 42 0) + 1) / 2 * 2)) 3) _ _ ls hl h (fun H locs ls hl h => ?_)
  rw [it_Mo_tick_s] at h
  refine hs19 _ 4 (by decide) (it_Mo_tick  (sI (sI N 41 0 0) 42 0 (((N.1 42 0) + 1) - ((N.1 42 0) + 1) / 2 * 2)) 4) _ _ ls hl h (fun H locs ls hl h => ?_)
  rw [it_Mo_tick_s] at h
  have hl : lv_has ls 2 [(0, .ref (ad 0 0)), (1, .int (nI 5))] := hl
  have h : bn_H (mo_y D ar ad) s.heap H locs (it_Mo_tick  (sI (sI N 41 0 0) 42 0 (((N.1 42 0) + 1) - ((N.1 42 0) + 1) / 2 * 2)) 5) := h
  refine lv_iload_n E1 E2 d_Mo_tick_19 rfl (lv_at hl 1 rfl) ?_
  refine lv_iconst (v := 5) E1 E2 d_Mo_tick_20 (by decide) ?_
  refine lv_icmp_ge E1 E2 d_Mo_tick_21 rfl (fun _ => ?_) (fun hz => absurd ((nI_leI (a := 5) (b := 5) (by omega) (by omega)).mpr (by omega)) hz)
  have hq : o_Mo_tick N = (it_Mo_tick  (sI (sI N 41 0 0) 42 0 (((N.1 42 0) + 1) - ((N.1 42 0) + 1) / 2 * 2)) 5) := rfl
  exact bn_retv F hr hk h hq.symm d_Mo_tick_52
def o_Mo_deliver (N : bn_S) (ba : Int32) (pa : Int32) : Int32 × bn_S := (if r_Mo_isPort N ba pa = 0 then ((o_Mo_raise N 1).1, (o_Mo_raise N 1).2) else (if (N.2.1 13 ((4 * (ba.toNatClampNeg)) + (pa.toNatClampNeg))) = 0 then (0, (sI N 41 0 0)) else (if (o_Mo_shift (sI N 41 0 0) ((4 * (ba.toNatClampNeg)) + (pa.toNatClampNeg))).1 14 240 = 1 then ((o_Mo_shift (sI N 41 0 0) ((4 * (ba.toNatClampNeg)) + (pa.toNatClampNeg))).1 14 240, (o_Mo_toldOn (o_Mo_shift (sI N 41 0 0) ((4 * (ba.toNatClampNeg)) + (pa.toNatClampNeg))) ((4 * (ba.toNatClampNeg)) + (pa.toNatClampNeg)))) else (if (o_Mo_shift (sI N 41 0 0) ((4 * (ba.toNatClampNeg)) + (pa.toNatClampNeg))).1 14 240 = 2 then ((o_Mo_shift (sI N 41 0 0) ((4 * (ba.toNatClampNeg)) + (pa.toNatClampNeg))).1 14 240, (o_Mo_agreedOn (o_Mo_shift (sI N 41 0 0) ((4 * (ba.toNatClampNeg)) + (pa.toNatClampNeg))) ((4 * (ba.toNatClampNeg)) + (pa.toNatClampNeg)))) else ((o_Mo_shift (sI N 41 0 0) ((4 * (ba.toNatClampNeg)) + (pa.toNatClampNeg))).1 14 240, (o_Mo_frame (o_Mo_shift (sI N 41 0 0) ((4 * (ba.toNatClampNeg)) + (pa.toNatClampNeg))) ((4 * (ba.toNatClampNeg)) + (pa.toNatClampNeg))).2)))))
set_option maxHeartbeats 4000000 in
set_option maxRecDepth 100000 in
theorem c_Mo_deliver (l : Launch) (D : va_G) (ar : Nat → ClassId) (ad : Nat → Nat → Nat) (N : bn_S)  (ba : Int32) (pa : Int32) (hP0 : mo_P (o_Mo_shift (sI N 41 0 0) (4 * ba.toNatClampNeg + pa.toNatClampNeg))) (hV : ¬ (r_Mo_isPort N ba pa = 0) → ¬ ((N.2.1 13 ((4 * (ba.toNatClampNeg)) + (pa.toNatClampNeg))) = 0) → ¬ (o_Mo_shift (sI N 41 0 0) (4 * ba.toNatClampNeg + pa.toNatClampNeg)).1 14 240 = 1 → ¬ (o_Mo_shift (sI N 41 0 0) (4 * ba.toNatClampNeg + pa.toNatClampNeg)).1 14 240 = 2 → 1 ≤ (o_Mo_shift (sI N 41 0 0) (4 * ba.toNatClampNeg + pa.toNatClampNeg)).2.1 20 240) : bn_I l y_Mo_deliver w_Mo_deliver { frames := 6, cells := 0, slots := 0, locals := 141 } (mo_y D ar ad) N [.ref (ad 0 0), .int ba, .int pa] (o_Mo_deliver N ba pa).1 (o_Mo_deliver N ba pa).2 := by
  intro sz
  refine bn_start (cc := b_Mo_deliver) (maxL := 6) (ret := (Option.some Jvm.ClassFile.FieldType.int)) (by decide) rfl (Nat.le_of_ble_eq_true rfl) ?_
  intro p e s m args below meth c ls hsz F hml hr hk hl h
  subst hsz
  have E1 := F.1
  have E2 := F.2.1
  have hl : lv_has ls 6 [(0, .ref (ad 0 0)), (1, .int ba), (2, .int pa)] := hl
  refine lv_iload_n E1 E2 d_Mo_deliver_0 rfl (lv_at hl 1 rfl) ?_
  refine lv_iload_n E1 E2 d_Mo_deliver_1 rfl (lv_at hl 2 rfl) ?_
  refine bn_calli F h (bn_runS (n := 2) (As := [.int ba, .int pa]) (rest := []) F hml hl.1 h (c_Mo_isPort l D ar ad N ba pa _) (bn_goodS k_807 k_808 k_7 k_809) rfl rfl (by decide) ⟨by decide, by decide⟩ rfl rfl (Nat.le_of_ble_eq_true rfl) d_Mo_deliver_2 ⟨Nat.zero_le _, Nat.zero_le _⟩) (fun H locs h => ?_)
  refine lv_if_ne E1 E2 d_Mo_deliver_5 rfl (fun h1 => ?_) (fun h1 => ?_)
  · have h1 : ¬ (r_Mo_isPort N ba pa = 0) := h1
    refine lv_aload_n E1 E2 d_Mo_deliver_14 rfl (lv_at hl 0 rfl) ?_
    refine lv_iconst (v := 0) E1 E2 d_Mo_deliver_15 (by decide) ?_
    refine p_Mo_thrown F h k_701 d_Mo_deliver_16 (fun H locs h => ?_)
    have h : bn_H (mo_y D ar ad) s.heap H locs (sI N 41 0 0) := h
    refine lv_iconst (v := 4) E1 E2 d_Mo_deliver_19 (by decide) ?_
    refine lv_iload_n E1 E2 d_Mo_deliver_20 rfl (lv_at hl 1 rfl) ?_
    have hn_ba := bn_isPb h1
    have hn_ba2 := hn_ba.2
    refine bn_ti hn_ba.1 ?_
    refine lv_imul E1 E2 d_Mo_deliver_21 ?_
    refine bn_ti (y := nI (4 * (ba.toNatClampNeg))) (pk_mul 4 (ba.toNatClampNeg)) ?_
    refine lv_iload_n E1 E2 d_Mo_deliver_22 rfl (lv_at hl 2 rfl) ?_
    have hn_pa := bn_isPp h1
    have hn_pa2 := hn_pa.2
    refine bn_ti hn_pa.1 ?_
    refine lv_iadd E1 E2 d_Mo_deliver_23 ?_
    refine bn_ti (y := nI ((4 * (ba.toNatClampNeg)) + (pa.toNatClampNeg))) (nI_add (4 * (ba.toNatClampNeg)) (pa.toNatClampNeg)) ?_
    refine lv_istore_n E1 E2 d_Mo_deliver_24 rfl hl (by decide) rfl (fun ls hl => ?_)
    have hl : lv_has ls 6 [(3, .int (nI ((4 * (ba.toNatClampNeg)) + (pa.toNatClampNeg)))), (0, .ref (ad 0 0)), (1, .int ba), (2, .int pa)] := hl
    refine lv_aload_n E1 E2 d_Mo_deliver_25 rfl (lv_at hl 1 rfl) ?_
    refine g_Mo_lines F h k_715 d_Mo_deliver_26 ?_
    refine lv_iload_n E1 E2 d_Mo_deliver_29 rfl (lv_at hl 0 rfl) ?_
    refine ml_lines F h (i := (4 * (ba.toNatClampNeg)) + (pa.toNatClampNeg)) (by omega) (v := N.2.1 13 ((4 * (ba.toNatClampNeg)) + (pa.toNatClampNeg))) rfl d_Mo_deliver_30 ?_
    have hwlines : N.2.1 13 ((4 * (ba.toNatClampNeg)) + (pa.toNatClampNeg)) < 13 := mw_lines h.2.2.2 ((4 * (ba.toNatClampNeg)) + (pa.toNatClampNeg))
    refine lv_if_ne E1 E2 d_Mo_deliver_31 rfl (fun h2 => ?_) (fun h2 => ?_)
    · have h2 : ¬ ((N.2.1 13 ((4 * (ba.toNatClampNeg)) + (pa.toNatClampNeg))) = 0) := (fun hw => h2 ((nI_eq (a := N.2.1 13 ((4 * (ba.toNatClampNeg)) + (pa.toNatClampNeg))) (b := 0) (by omega) (by omega)).mpr hw))
      refine lv_aload_n E1 E2 d_Mo_deliver_36 rfl (lv_at hl 1 rfl) ?_
      refine lv_iload_n E1 E2 d_Mo_deliver_37 rfl (lv_at hl 0 rfl) ?_
      refine bn_callv F h (bn_runV (n := 1) (As := [.int (nI ((4 * (ba.toNatClampNeg)) + (pa.toNatClampNeg)))]) (rest := []) F hml hl.1 h mi_0 rfl rfl (c_Mo_shift l D ar ad (sI N 41 0 0) ((4 * (ba.toNatClampNeg)) + (pa.toNatClampNeg)) (by omega) (Nat.pos_of_ne_zero h2) _) (bn_goodV k_817 k_819 ks_Mo_shift k_7 k_820) rfl rfl (by decide) ⟨by decide, by decide⟩ rfl rfl (Nat.le_of_ble_eq_true rfl) d_Mo_deliver_38 ⟨Nat.zero_le _, Nat.zero_le _⟩) (fun H locs h => ?_)
      have h : bn_H (mo_y D ar ad) s.heap H locs (o_Mo_shift (sI N 41 0 0) ((4 * (ba.toNatClampNeg)) + (pa.toNatClampNeg))) := h
      refine lv_aload_n E1 E2 d_Mo_deliver_41 rfl (lv_at hl 1 rfl) ?_
      refine g_Mo_kind F h k_716 d_Mo_deliver_42 ?_
      refine lv_sipush (v := 240) E1 E2 d_Mo_deliver_45 (by decide) ?_
      refine ml_kind F h (i := 240) (by omega) (v := (o_Mo_shift (sI N 41 0 0) ((4 * (ba.toNatClampNeg)) + (pa.toNatClampNeg))).1 14 240) rfl d_Mo_deliver_48 ?_
      refine lv_istore E1 E2 d_Mo_deliver_49 hl (by decide) rfl (fun ls hl => ?_)
      have hl : lv_has ls 6 [(4, .int ((o_Mo_shift (sI N 41 0 0) ((4 * (ba.toNatClampNeg)) + (pa.toNatClampNeg))).1 14 240)), (3, .int (nI ((4 * (ba.toNatClampNeg)) + (pa.toNatClampNeg)))), (0, .ref (ad 0 0)), (1, .int ba), (2, .int pa)] := hl
      refine lv_iload E1 E2 d_Mo_deliver_51 (lv_at hl 0 rfl) ?_
      refine lv_iconst (v := 1) E1 E2 d_Mo_deliver_53 (by decide) ?_
      refine lv_icmp_ne E1 E2 d_Mo_deliver_54 rfl (fun h3 => ?_) (fun h3 => ?_)
      · have h3 : ¬ ((o_Mo_shift (sI N 41 0 0) ((4 * (ba.toNatClampNeg)) + (pa.toNatClampNeg))).1 14 240 = 1) := h3
        refine lv_iload E1 E2 d_Mo_deliver_65 (lv_at hl 0 rfl) ?_
        refine lv_iconst (v := 2) E1 E2 d_Mo_deliver_67 (by decide) ?_
        refine lv_icmp_ne E1 E2 d_Mo_deliver_68 rfl (fun h4 => ?_) (fun h4 => ?_)
        · have h4 : ¬ ((o_Mo_shift (sI N 41 0 0) ((4 * (ba.toNatClampNeg)) + (pa.toNatClampNeg))).1 14 240 = 2) := h4
          refine lv_aload_n E1 E2 d_Mo_deliver_79 rfl (lv_at hl 2 rfl) ?_
          refine lv_iload_n E1 E2 d_Mo_deliver_80 rfl (lv_at hl 1 rfl) ?_
          refine bn_calli F h (bn_runV (n := 1) (As := [.int (nI ((4 * (ba.toNatClampNeg)) + (pa.toNatClampNeg)))]) (rest := []) F hml hl.1 h mi_0 rfl rfl (c_Mo_frame l D ar ad (o_Mo_shift (sI N 41 0 0) ((4 * (ba.toNatClampNeg)) + (pa.toNatClampNeg))) ((4 * (ba.toNatClampNeg)) + (pa.toNatClampNeg)) (by omega) hP0 (hV h1 h2 h3 h4) _) (bn_goodV k_888 k_890 ks_Mo_frame k_7 k_891) rfl rfl (by decide) ⟨by decide, by decide⟩ rfl rfl (Nat.le_of_ble_eq_true rfl) d_Mo_deliver_81 ⟨Nat.zero_le _, Nat.zero_le _⟩) (fun H locs h => ?_)
          have h : bn_H (mo_y D ar ad) s.heap H locs (o_Mo_frame (o_Mo_shift (sI N 41 0 0) ((4 * (ba.toNatClampNeg)) + (pa.toNatClampNeg))) ((4 * (ba.toNatClampNeg)) + (pa.toNatClampNeg))).2 := h
          refine lv_istore E1 E2 d_Mo_deliver_84 hl (by decide) rfl (fun ls hl => ?_)
          have hl : lv_has ls 6 [(5, .int ((o_Mo_frame (o_Mo_shift (sI N 41 0 0) ((4 * (ba.toNatClampNeg)) + (pa.toNatClampNeg))) ((4 * (ba.toNatClampNeg)) + (pa.toNatClampNeg))).1)), (4, .int ((o_Mo_shift (sI N 41 0 0) ((4 * (ba.toNatClampNeg)) + (pa.toNatClampNeg))).1 14 240)), (3, .int (nI ((4 * (ba.toNatClampNeg)) + (pa.toNatClampNeg)))), (0, .ref (ad 0 0)), (1, .int ba), (2, .int pa)] := hl
          refine lv_iload E1 E2 d_Mo_deliver_86 (lv_at hl 1 rfl) ?_
          have hq : o_Mo_deliver N ba pa = ((o_Mo_shift (sI N 41 0 0) ((4 * (ba.toNatClampNeg)) + (pa.toNatClampNeg))).1 14 240, (o_Mo_frame (o_Mo_shift (sI N 41 0 0) ((4 * (ba.toNatClampNeg)) + (pa.toNatClampNeg))) ((4 * (ba.toNatClampNeg)) + (pa.toNatClampNeg))).2) := Eq.trans (if_neg h1) (Eq.trans (if_neg h2) (Eq.trans (if_neg h3) (if_neg h4)))
          exact bn_reti2 F hr hk h hq d_Mo_deliver_88
        · have h4 : (o_Mo_shift (sI N 41 0 0) ((4 * (ba.toNatClampNeg)) + (pa.toNatClampNeg))).1 14 240 = 2 := h4
          refine lv_aload_n E1 E2 d_Mo_deliver_71 rfl (lv_at hl 2 rfl) ?_
          refine lv_iload_n E1 E2 d_Mo_deliver_72 rfl (lv_at hl 1 rfl) ?_
          refine bn_callv F h (bn_runV (n := 1) (As := [.int (nI ((4 * (ba.toNatClampNeg)) + (pa.toNatClampNeg)))]) (rest := []) F hml hl.1 h mi_0 rfl rfl (c_Mo_agreedOn l D ar ad (o_Mo_shift (sI N 41 0 0) ((4 * (ba.toNatClampNeg)) + (pa.toNatClampNeg))) ((4 * (ba.toNatClampNeg)) + (pa.toNatClampNeg)) (by omega) _) (bn_goodV k_884 k_886 ks_Mo_agreedOn k_7 k_887) rfl rfl (by decide) ⟨by decide, by decide⟩ rfl rfl (Nat.le_of_ble_eq_true rfl) d_Mo_deliver_73 ⟨Nat.zero_le _, Nat.zero_le _⟩) (fun H locs h => ?_)
          have h : bn_H (mo_y D ar ad) s.heap H locs (o_Mo_agreedOn (o_Mo_shift (sI N 41 0 0) ((4 * (ba.toNatClampNeg)) + (pa.toNatClampNeg))) ((4 * (ba.toNatClampNeg)) + (pa.toNatClampNeg))) := h
          refine lv_goto E1 E2 d_Mo_deliver_76 rfl ?_
          refine lv_iload E1 E2 d_Mo_deliver_86 (lv_at hl 0 rfl) ?_
          have hq : o_Mo_deliver N ba pa = ((o_Mo_shift (sI N 41 0 0) ((4 * (ba.toNatClampNeg)) + (pa.toNatClampNeg))).1 14 240, (o_Mo_agreedOn (o_Mo_shift (sI N 41 0 0) ((4 * (ba.toNatClampNeg)) + (pa.toNatClampNeg))) ((4 * (ba.toNatClampNeg)) + (pa.toNatClampNeg)))) := Eq.trans (if_neg h1) (Eq.trans (if_neg h2) (Eq.trans (if_neg h3) (if_pos h4)))
          exact bn_reti2 F hr hk h hq d_Mo_deliver_88
      · have h3 : (o_Mo_shift (sI N 41 0 0) ((4 * (ba.toNatClampNeg)) + (pa.toNatClampNeg))).1 14 240 = 1 := h3
        refine lv_aload_n E1 E2 d_Mo_deliver_57 rfl (lv_at hl 2 rfl) ?_
        refine lv_iload_n E1 E2 d_Mo_deliver_58 rfl (lv_at hl 1 rfl) ?_
        refine bn_callv F h (bn_runV (n := 1) (As := [.int (nI ((4 * (ba.toNatClampNeg)) + (pa.toNatClampNeg)))]) (rest := []) F hml hl.1 h mi_0 rfl rfl (c_Mo_toldOn l D ar ad (o_Mo_shift (sI N 41 0 0) ((4 * (ba.toNatClampNeg)) + (pa.toNatClampNeg))) ((4 * (ba.toNatClampNeg)) + (pa.toNatClampNeg)) (by omega) _) (bn_goodV k_825 k_827 ks_Mo_toldOn k_7 k_828) rfl rfl (by decide) ⟨by decide, by decide⟩ rfl rfl (Nat.le_of_ble_eq_true rfl) d_Mo_deliver_59 ⟨Nat.zero_le _, Nat.zero_le _⟩) (fun H locs h => ?_)
        have h : bn_H (mo_y D ar ad) s.heap H locs (o_Mo_toldOn (o_Mo_shift (sI N 41 0 0) ((4 * (ba.toNatClampNeg)) + (pa.toNatClampNeg))) ((4 * (ba.toNatClampNeg)) + (pa.toNatClampNeg))) := h
        refine lv_goto E1 E2 d_Mo_deliver_62 rfl ?_
        refine lv_iload E1 E2 d_Mo_deliver_86 (lv_at hl 0 rfl) ?_
        have hq : o_Mo_deliver N ba pa = ((o_Mo_shift (sI N 41 0 0) ((4 * (ba.toNatClampNeg)) + (pa.toNatClampNeg))).1 14 240, (o_Mo_toldOn (o_Mo_shift (sI N 41 0 0) ((4 * (ba.toNatClampNeg)) + (pa.toNatClampNeg))) ((4 * (ba.toNatClampNeg)) + (pa.toNatClampNeg)))) := Eq.trans (if_neg h1) (Eq.trans (if_neg h2) (if_pos h3))
        exact bn_reti2 F hr hk h hq d_Mo_deliver_88
    · have h2 : (N.2.1 13 ((4 * (ba.toNatClampNeg)) + (pa.toNatClampNeg))) = 0 := ((nI_eq (a := N.2.1 13 ((4 * (ba.toNatClampNeg)) + (pa.toNatClampNeg))) (b := 0) (by omega) (by omega)).mp h2)
      refine lv_iconst (v := 0) E1 E2 d_Mo_deliver_34 (by decide) ?_
      have hq : o_Mo_deliver N ba pa = (0, (sI N 41 0 0)) := Eq.trans (if_neg h1) (if_pos h2)
      exact bn_reti2 F hr hk h hq d_Mo_deliver_35
  · have h1 : r_Mo_isPort N ba pa = 0 := h1
    refine lv_aload_n E1 E2 d_Mo_deliver_8 rfl (lv_at hl 0 rfl) ?_
    refine lv_iconst (v := 1) E1 E2 d_Mo_deliver_9 (by decide) ?_
    refine bn_calli F h (bn_runV (n := 1) (As := [.int 1]) (rest := []) F hml hl.1 h mi_0 rfl rfl (c_Mo_raise l D ar ad N 1 _) (bn_goodV k_813 k_815 ks_Mo_raise k_7 k_816) rfl rfl (by decide) ⟨by decide, by decide⟩ rfl rfl (Nat.le_of_ble_eq_true rfl) d_Mo_deliver_10 ⟨Nat.zero_le _, Nat.zero_le _⟩) (fun H locs h => ?_)
    have h : bn_H (mo_y D ar ad) s.heap H locs (o_Mo_raise N 1).2 := h
    have hq : o_Mo_deliver N ba pa = ((o_Mo_raise N 1).1, (o_Mo_raise N 1).2) := if_pos h1
    exact bn_reti2 F hr hk h hq d_Mo_deliver_13
def o_Mo_lose (N : bn_S) (ba : Int32) (pa : Int32) : Int32 × bn_S := (if r_Mo_isPort (sI N 41 0 0) ba pa = 0 then (0, (sI N 41 0 0)) else (if (N.2.1 13 ((4 * (ba.toNatClampNeg)) + (pa.toNatClampNeg))) = 0 then (0, (sI N 41 0 0)) else (1, (o_Mo_shift (sI N 41 0 0) ((4 * (ba.toNatClampNeg)) + (pa.toNatClampNeg))))))
set_option maxHeartbeats 4000000 in
set_option maxRecDepth 100000 in
theorem c_Mo_lose (l : Launch) (D : va_G) (ar : Nat → ClassId) (ad : Nat → Nat → Nat) (N : bn_S)  (ba : Int32) (pa : Int32) : bn_I l y_Mo_lose w_Mo_lose { frames := 2, cells := 0, slots := 0, locals := 44 } (mo_y D ar ad) N [.ref (ad 0 0), .int ba, .int pa] (o_Mo_lose N ba pa).1 (o_Mo_lose N ba pa).2 := by
  intro sz
  refine bn_start (cc := b_Mo_lose) (maxL := 3) (ret := (Option.some Jvm.ClassFile.FieldType.boolean)) (by decide) rfl (Nat.le_of_ble_eq_true rfl) ?_
  intro p e s m args below meth c ls hsz F hml hr hk hl h
  subst hsz
  have E1 := F.1
  have E2 := F.2.1
  have hl : lv_has ls 3 [(0, .ref (ad 0 0)), (1, .int ba), (2, .int pa)] := hl
  refine lv_aload_n E1 E2 d_Mo_lose_0 rfl (lv_at hl 0 rfl) ?_
  refine lv_iconst (v := 0) E1 E2 d_Mo_lose_1 (by decide) ?_
  refine p_Mo_thrown F h k_701 d_Mo_lose_2 (fun H locs h => ?_)
  have h : bn_H (mo_y D ar ad) s.heap H locs (sI N 41 0 0) := h
  refine lv_iload_n E1 E2 d_Mo_lose_5 rfl (lv_at hl 1 rfl) ?_
  refine lv_iload_n E1 E2 d_Mo_lose_6 rfl (lv_at hl 2 rfl) ?_
  refine bn_calli F h (bn_runS (n := 2) (As := [.int ba, .int pa]) (rest := []) F hml hl.1 h (c_Mo_isPort l D ar ad (sI N 41 0 0) ba pa _) (bn_goodS k_807 k_808 k_7 k_809) rfl rfl (by decide) ⟨by decide, by decide⟩ rfl rfl (Nat.le_of_ble_eq_true rfl) d_Mo_lose_7 ⟨Nat.zero_le _, Nat.zero_le _⟩) (fun H locs h => ?_)
  refine lv_if_eq E1 E2 d_Mo_lose_10 rfl (fun h1 => ?_) (fun h1 => ?_)
  · have h1 : r_Mo_isPort (sI N 41 0 0) ba pa = 0 := h1
    refine lv_iconst (v := 0) E1 E2 d_Mo_lose_26 (by decide) ?_
    have hq : o_Mo_lose N ba pa = (0, (sI N 41 0 0)) := if_pos h1
    exact bn_retz2 F hr rfl hk h hq d_Mo_lose_27
  · have h1 : ¬ (r_Mo_isPort (sI N 41 0 0) ba pa = 0) := h1
    refine lv_aload_n E1 E2 d_Mo_lose_13 rfl (lv_at hl 0 rfl) ?_
    refine g_Mo_lines F h k_715 d_Mo_lose_14 ?_
    refine lv_iconst (v := 4) E1 E2 d_Mo_lose_17 (by decide) ?_
    refine lv_iload_n E1 E2 d_Mo_lose_18 rfl (lv_at hl 1 rfl) ?_
    have hn_ba := bn_isPb h1
    have hn_ba2 := hn_ba.2
    refine bn_ti hn_ba.1 ?_
    refine lv_imul E1 E2 d_Mo_lose_19 ?_
    refine bn_ti (y := nI (4 * (ba.toNatClampNeg))) (pk_mul 4 (ba.toNatClampNeg)) ?_
    refine lv_iload_n E1 E2 d_Mo_lose_20 rfl (lv_at hl 2 rfl) ?_
    have hn_pa := bn_isPp h1
    have hn_pa2 := hn_pa.2
    refine bn_ti hn_pa.1 ?_
    refine lv_iadd E1 E2 d_Mo_lose_21 ?_
    refine bn_ti (y := nI ((4 * (ba.toNatClampNeg)) + (pa.toNatClampNeg))) (nI_add (4 * (ba.toNatClampNeg)) (pa.toNatClampNeg)) ?_
    refine ml_lines F h (i := (4 * (ba.toNatClampNeg)) + (pa.toNatClampNeg)) (by omega) (v := N.2.1 13 ((4 * (ba.toNatClampNeg)) + (pa.toNatClampNeg))) rfl d_Mo_lose_22 ?_
    have hwlines : N.2.1 13 ((4 * (ba.toNatClampNeg)) + (pa.toNatClampNeg)) < 13 := mw_lines h.2.2.2 ((4 * (ba.toNatClampNeg)) + (pa.toNatClampNeg))
    refine lv_if_ne E1 E2 d_Mo_lose_23 rfl (fun h2 => ?_) (fun h2 => ?_)
    · have h2 : ¬ ((N.2.1 13 ((4 * (ba.toNatClampNeg)) + (pa.toNatClampNeg))) = 0) := (fun hw => h2 ((nI_eq (a := N.2.1 13 ((4 * (ba.toNatClampNeg)) + (pa.toNatClampNeg))) (b := 0) (by omega) (by omega)).mpr hw))
      refine lv_aload_n E1 E2 d_Mo_lose_28 rfl (lv_at hl 0 rfl) ?_
      refine lv_iconst (v := 4) E1 E2 d_Mo_lose_29 (by decide) ?_
      refine lv_iload_n E1 E2 d_Mo_lose_30 rfl (lv_at hl 1 rfl) ?_
      refine bn_ti hn_ba.1 ?_
      refine lv_imul E1 E2 d_Mo_lose_31 ?_
      refine bn_ti (y := nI (4 * (ba.toNatClampNeg))) (pk_mul 4 (ba.toNatClampNeg)) ?_
      refine lv_iload_n E1 E2 d_Mo_lose_32 rfl (lv_at hl 2 rfl) ?_
      refine bn_ti hn_pa.1 ?_
      refine lv_iadd E1 E2 d_Mo_lose_33 ?_
      refine bn_ti (y := nI ((4 * (ba.toNatClampNeg)) + (pa.toNatClampNeg))) (nI_add (4 * (ba.toNatClampNeg)) (pa.toNatClampNeg)) ?_
      refine bn_callv F h (bn_runV (n := 1) (As := [.int (nI ((4 * (ba.toNatClampNeg)) + (pa.toNatClampNeg)))]) (rest := []) F hml hl.1 h mi_0 rfl rfl (c_Mo_shift l D ar ad (sI N 41 0 0) ((4 * (ba.toNatClampNeg)) + (pa.toNatClampNeg)) (by omega) (Nat.pos_of_ne_zero h2) _) (bn_goodV k_817 k_819 ks_Mo_shift k_7 k_820) rfl rfl (by decide) ⟨by decide, by decide⟩ rfl rfl (Nat.le_of_ble_eq_true rfl) d_Mo_lose_34 ⟨Nat.zero_le _, Nat.zero_le _⟩) (fun H locs h => ?_)
      have h : bn_H (mo_y D ar ad) s.heap H locs (o_Mo_shift (sI N 41 0 0) ((4 * (ba.toNatClampNeg)) + (pa.toNatClampNeg))) := h
      refine lv_iconst (v := 1) E1 E2 d_Mo_lose_37 (by decide) ?_
      have hq : o_Mo_lose N ba pa = (1, (o_Mo_shift (sI N 41 0 0) ((4 * (ba.toNatClampNeg)) + (pa.toNatClampNeg)))) := Eq.trans (if_neg h1) (if_neg h2)
      exact bn_retz2 F hr rfl hk h hq d_Mo_lose_38
    · have h2 : (N.2.1 13 ((4 * (ba.toNatClampNeg)) + (pa.toNatClampNeg))) = 0 := ((nI_eq (a := N.2.1 13 ((4 * (ba.toNatClampNeg)) + (pa.toNatClampNeg))) (b := 0) (by omega) (by omega)).mp h2)
      refine lv_iconst (v := 0) E1 E2 d_Mo_lose_26 (by decide) ?_
      have hq : o_Mo_lose N ba pa = (0, (sI N 41 0 0)) := Eq.trans (if_neg h1) (if_pos h2)
      exact bn_retz2 F hr rfl hk h hq d_Mo_lose_27
def o_Mo_priority (N : bn_S) (ba : Int32) (pr : Int32) : Int32 × bn_S := (if r_Mo_isBridge (sI N 41 0 0) ba = 0 then (0, (sI N 41 0 0)) else (if pr < 0 then (0, (sI N 41 0 0)) else (if pr ≤ 15 then (if (N.2.1 4 (4 * (ba.toNatClampNeg))) = 0 then (if (N.2.1 4 (4 * (ba.toNatClampNeg) + 1)) = 0 then (if (N.2.1 4 (4 * (ba.toNatClampNeg) + 1 + 1)) = 0 then (if (N.2.1 4 (4 * (ba.toNatClampNeg) + 1 + 1 + 1)) = 0 then (1, (o_Mo_compute (sI (sI N 41 0 0) 1 (ba.toNatClampNeg) (nI (pr.toNatClampNeg))) (ba.toNatClampNeg))) else (0, (sI N 41 0 0))) else (0, (sI N 41 0 0))) else (0, (sI N 41 0 0))) else (0, (sI N 41 0 0))) else (0, (sI N 41 0 0)))))
set_option maxHeartbeats 4000000 in
set_option maxRecDepth 100000 in
theorem c_Mo_priority (l : Launch) (D : va_G) (ar : Nat → ClassId) (ad : Nat → Nat → Nat) (N : bn_S)  (ba : Int32) (pr : Int32) : bn_I l y_Mo_priority w_Mo_priority { frames := 5, cells := 0, slots := 0, locals := 120 } (mo_y D ar ad) N [.ref (ad 0 0), .int ba, .int pr] (o_Mo_priority N ba pr).1 (o_Mo_priority N ba pr).2 := by
  intro sz
  refine bn_start (cc := b_Mo_priority) (maxL := 4) (ret := (Option.some Jvm.ClassFile.FieldType.boolean)) (by decide) rfl (Nat.le_of_ble_eq_true rfl) ?_
  intro p e s m args below meth c ls hsz F hml hr hk hl h
  subst hsz
  have E1 := F.1
  have E2 := F.2.1
  have hl : lv_has ls 4 [(0, .ref (ad 0 0)), (1, .int ba), (2, .int pr)] := hl
  refine lv_aload_n E1 E2 d_Mo_priority_0 rfl (lv_at hl 0 rfl) ?_
  refine lv_iconst (v := 0) E1 E2 d_Mo_priority_1 (by decide) ?_
  refine p_Mo_thrown F h k_701 d_Mo_priority_2 (fun H locs h => ?_)
  have h : bn_H (mo_y D ar ad) s.heap H locs (sI N 41 0 0) := h
  refine lv_iload_n E1 E2 d_Mo_priority_5 rfl (lv_at hl 1 rfl) ?_
  refine bn_calli F h (bn_runS (n := 1) (As := [.int ba]) (rest := []) F hml hl.1 h (c_Mo_isBridge l D ar ad (sI N 41 0 0) ba _) (bn_goodS k_810 k_811 k_7 k_812) rfl rfl (by decide) ⟨by decide, by decide⟩ rfl rfl (Nat.le_of_ble_eq_true rfl) d_Mo_priority_6 ⟨Nat.zero_le _, Nat.zero_le _⟩) (fun H locs h => ?_)
  refine lv_if_eq E1 E2 d_Mo_priority_9 rfl (fun h1 => ?_) (fun h1 => ?_)
  · have h1 : r_Mo_isBridge (sI N 41 0 0) ba = 0 := h1
    refine lv_iconst (v := 0) E1 E2 d_Mo_priority_22 (by decide) ?_
    have hq : o_Mo_priority N ba pr = (0, (sI N 41 0 0)) := if_pos h1
    exact bn_retz2 F hr rfl hk h hq d_Mo_priority_23
  · have h1 : ¬ (r_Mo_isBridge (sI N 41 0 0) ba = 0) := h1
    refine lv_iload_n E1 E2 d_Mo_priority_12 rfl (lv_at hl 2 rfl) ?_
    refine lv_if_lt E1 E2 d_Mo_priority_13 rfl (fun h2 => ?_) (fun h2 => ?_)
    · have h2 : pr < 0 := h2
      refine lv_iconst (v := 0) E1 E2 d_Mo_priority_22 (by decide) ?_
      have hq : o_Mo_priority N ba pr = (0, (sI N 41 0 0)) := Eq.trans (if_neg h1) (if_pos h2)
      exact bn_retz2 F hr rfl hk h hq d_Mo_priority_23
    · have h2 : ¬ (pr < 0) := h2
      refine lv_iload_n E1 E2 d_Mo_priority_16 rfl (lv_at hl 2 rfl) ?_
      refine lv_bipush (v := 15) E1 E2 d_Mo_priority_17 (by decide) ?_
      refine lv_icmp_le E1 E2 d_Mo_priority_19 rfl (fun h3 => ?_) (fun h3 => ?_)
      · have h3 : pr ≤ 15 := h3
        refine lv_iconst (v := 4) E1 E2 d_Mo_priority_24 (by decide) ?_
        refine lv_iload_n E1 E2 d_Mo_priority_25 rfl (lv_at hl 1 rfl) ?_
        have hn_ba := bn_isBm h1
        have hn_ba2 := hn_ba.2
        refine bn_ti hn_ba.1 ?_
        refine lv_imul E1 E2 d_Mo_priority_26 ?_
        refine bn_ti (y := nI (4 * (ba.toNatClampNeg))) (pk_mul 4 (ba.toNatClampNeg)) ?_
        refine lv_istore_n E1 E2 d_Mo_priority_27 rfl hl (by decide) rfl (fun ls hl => ?_)
        have hl : lv_has ls 4 [(3, .int (nI (4 * (ba.toNatClampNeg)))), (0, .ref (ad 0 0)), (1, .int ba), (2, .int pr)] := hl
        refine lv_iload_n E1 E2 d_Mo_priority_28 rfl (lv_at hl 0 rfl) ?_
        refine lv_iconst (v := 4) E1 E2 d_Mo_priority_29 (by decide) ?_
        refine lv_iload_n E1 E2 d_Mo_priority_30 rfl (lv_at hl 2 rfl) ?_
        refine bn_ti hn_ba.1 ?_
        refine lv_imul E1 E2 d_Mo_priority_31 ?_
        refine bn_ti (y := nI (4 * (ba.toNatClampNeg))) (pk_mul 4 (ba.toNatClampNeg)) ?_
        refine lv_iconst (v := 4) E1 E2 d_Mo_priority_32 (by decide) ?_
        refine lv_iadd E1 E2 d_Mo_priority_33 ?_
        refine bn_ti (y := nI ((4 * (ba.toNatClampNeg)) + 4)) (nI_add (4 * (ba.toNatClampNeg)) 4) ?_
        refine lv_icmp_ge E1 E2 d_Mo_priority_34 rfl (fun hz => absurd ((nI_leI (a := (4 * (ba.toNatClampNeg)) + 4) (b := 4 * (ba.toNatClampNeg)) (by omega) (by omega)).mp hz) (by omega)) (fun _ => ?_)
        refine lv_aload_n E1 E2 d_Mo_priority_37 rfl (lv_at hl 1 rfl) ?_
        refine g_Mo_joined F h k_706 d_Mo_priority_38 ?_
        refine lv_iload_n E1 E2 d_Mo_priority_41 rfl (lv_at hl 0 rfl) ?_
        refine ml_joined F h (i := 4 * (ba.toNatClampNeg)) (by omega) (v := N.2.1 4 (4 * (ba.toNatClampNeg))) rfl d_Mo_priority_42 ?_
        have hwjoined : N.2.1 4 (4 * (ba.toNatClampNeg)) < 108 := mw_joined h.2.2.2 (4 * (ba.toNatClampNeg))
        refine lv_if_eq E1 E2 d_Mo_priority_43 rfl (fun h4 => ?_) (fun h4 => ?_)
        · have h4 : (N.2.1 4 (4 * (ba.toNatClampNeg))) = 0 := ((nI_eq (a := N.2.1 4 (4 * (ba.toNatClampNeg))) (b := 0) (by omega) (by omega)).mp h4)
          refine lv_iinc (v := (nI (4 * (ba.toNatClampNeg) + 1))) E1 E2 d_Mo_priority_48 hl (k := 0) rfl (nI_1 _) (by decide) rfl (fun ls hl => ?_)
          have hl : lv_has ls 4 [(3, .int (nI (4 * (ba.toNatClampNeg) + 1))), (0, .ref (ad 0 0)), (1, .int ba), (2, .int pr)] := hl
          refine lv_goto E1 E2 d_Mo_priority_51 rfl ?_
          refine lv_iload_n E1 E2 d_Mo_priority_28 rfl (lv_at hl 0 rfl) ?_
          refine lv_iconst (v := 4) E1 E2 d_Mo_priority_29 (by decide) ?_
          refine lv_iload_n E1 E2 d_Mo_priority_30 rfl (lv_at hl 2 rfl) ?_
          refine bn_ti hn_ba.1 ?_
          refine lv_imul E1 E2 d_Mo_priority_31 ?_
          refine bn_ti (y := nI (4 * (ba.toNatClampNeg))) (pk_mul 4 (ba.toNatClampNeg)) ?_
          refine lv_iconst (v := 4) E1 E2 d_Mo_priority_32 (by decide) ?_
          refine lv_iadd E1 E2 d_Mo_priority_33 ?_
          refine bn_ti (y := nI ((4 * (ba.toNatClampNeg)) + 4)) (nI_add (4 * (ba.toNatClampNeg)) 4) ?_
          refine lv_icmp_ge E1 E2 d_Mo_priority_34 rfl (fun hz => absurd ((nI_leI (a := (4 * (ba.toNatClampNeg)) + 4) (b := 4 * (ba.toNatClampNeg) + 1) (by omega) (by omega)).mp hz) (by omega)) (fun _ => ?_)
          refine lv_aload_n E1 E2 d_Mo_priority_37 rfl (lv_at hl 1 rfl) ?_
          refine g_Mo_joined F h k_706 d_Mo_priority_38 ?_
          refine lv_iload_n E1 E2 d_Mo_priority_41 rfl (lv_at hl 0 rfl) ?_
          refine ml_joined F h (i := 4 * (ba.toNatClampNeg) + 1) (by omega) (v := N.2.1 4 (4 * (ba.toNatClampNeg) + 1)) rfl d_Mo_priority_42 ?_
          have hwjoined : N.2.1 4 (4 * (ba.toNatClampNeg) + 1) < 108 := mw_joined h.2.2.2 (4 * (ba.toNatClampNeg) + 1)
          refine lv_if_eq E1 E2 d_Mo_priority_43 rfl (fun h5 => ?_) (fun h5 => ?_)
          · have h5 : (N.2.1 4 (4 * (ba.toNatClampNeg) + 1)) = 0 := ((nI_eq (a := N.2.1 4 (4 * (ba.toNatClampNeg) + 1)) (b := 0) (by omega) (by omega)).mp h5)
            refine lv_iinc (v := (nI (4 * (ba.toNatClampNeg) + 1 + 1))) E1 E2 d_Mo_priority_48 hl (k := 0) rfl (nI_1 _) (by decide) rfl (fun ls hl => ?_)
            have hl : lv_has ls 4 [(3, .int (nI (4 * (ba.toNatClampNeg) + 1 + 1))), (0, .ref (ad 0 0)), (1, .int ba), (2, .int pr)] := hl
            refine lv_goto E1 E2 d_Mo_priority_51 rfl ?_
            refine lv_iload_n E1 E2 d_Mo_priority_28 rfl (lv_at hl 0 rfl) ?_
            refine lv_iconst (v := 4) E1 E2 d_Mo_priority_29 (by decide) ?_
            refine lv_iload_n E1 E2 d_Mo_priority_30 rfl (lv_at hl 2 rfl) ?_
            refine bn_ti hn_ba.1 ?_
            refine lv_imul E1 E2 d_Mo_priority_31 ?_
            refine bn_ti (y := nI (4 * (ba.toNatClampNeg))) (pk_mul 4 (ba.toNatClampNeg)) ?_
            refine lv_iconst (v := 4) E1 E2 d_Mo_priority_32 (by decide) ?_
            refine lv_iadd E1 E2 d_Mo_priority_33 ?_
            refine bn_ti (y := nI ((4 * (ba.toNatClampNeg)) + 4)) (nI_add (4 * (ba.toNatClampNeg)) 4) ?_
            refine lv_icmp_ge E1 E2 d_Mo_priority_34 rfl (fun hz => absurd ((nI_leI (a := (4 * (ba.toNatClampNeg)) + 4) (b := 4 * (ba.toNatClampNeg) + 1 + 1) (by omega) (by omega)).mp hz) (by omega)) (fun _ => ?_)
            refine lv_aload_n E1 E2 d_Mo_priority_37 rfl (lv_at hl 1 rfl) ?_
            refine g_Mo_joined F h k_706 d_Mo_priority_38 ?_
            refine lv_iload_n E1 E2 d_Mo_priority_41 rfl (lv_at hl 0 rfl) ?_
            refine ml_joined F h (i := 4 * (ba.toNatClampNeg) + 1 + 1) (by omega) (v := N.2.1 4 (4 * (ba.toNatClampNeg) + 1 + 1)) rfl d_Mo_priority_42 ?_
            have hwjoined : N.2.1 4 (4 * (ba.toNatClampNeg) + 1 + 1) < 108 := mw_joined h.2.2.2 (4 * (ba.toNatClampNeg) + 1 + 1)
            refine lv_if_eq E1 E2 d_Mo_priority_43 rfl (fun h6 => ?_) (fun h6 => ?_)
            · have h6 : (N.2.1 4 (4 * (ba.toNatClampNeg) + 1 + 1)) = 0 := ((nI_eq (a := N.2.1 4 (4 * (ba.toNatClampNeg) + 1 + 1)) (b := 0) (by omega) (by omega)).mp h6)
              refine lv_iinc (v := (nI (4 * (ba.toNatClampNeg) + 1 + 1 + 1))) E1 E2 d_Mo_priority_48 hl (k := 0) rfl (nI_1 _) (by decide) rfl (fun ls hl => ?_)
              have hl : lv_has ls 4 [(3, .int (nI (4 * (ba.toNatClampNeg) + 1 + 1 + 1))), (0, .ref (ad 0 0)), (1, .int ba), (2, .int pr)] := hl
              refine lv_goto E1 E2 d_Mo_priority_51 rfl ?_
              refine lv_iload_n E1 E2 d_Mo_priority_28 rfl (lv_at hl 0 rfl) ?_
              refine lv_iconst (v := 4) E1 E2 d_Mo_priority_29 (by decide) ?_
              refine lv_iload_n E1 E2 d_Mo_priority_30 rfl (lv_at hl 2 rfl) ?_
              refine bn_ti hn_ba.1 ?_
              refine lv_imul E1 E2 d_Mo_priority_31 ?_
              refine bn_ti (y := nI (4 * (ba.toNatClampNeg))) (pk_mul 4 (ba.toNatClampNeg)) ?_
              refine lv_iconst (v := 4) E1 E2 d_Mo_priority_32 (by decide) ?_
              refine lv_iadd E1 E2 d_Mo_priority_33 ?_
              refine bn_ti (y := nI ((4 * (ba.toNatClampNeg)) + 4)) (nI_add (4 * (ba.toNatClampNeg)) 4) ?_
              refine lv_icmp_ge E1 E2 d_Mo_priority_34 rfl (fun hz => absurd ((nI_leI (a := (4 * (ba.toNatClampNeg)) + 4) (b := 4 * (ba.toNatClampNeg) + 1 + 1 + 1) (by omega) (by omega)).mp hz) (by omega)) (fun _ => ?_)
              refine lv_aload_n E1 E2 d_Mo_priority_37 rfl (lv_at hl 1 rfl) ?_
              refine g_Mo_joined F h k_706 d_Mo_priority_38 ?_
              refine lv_iload_n E1 E2 d_Mo_priority_41 rfl (lv_at hl 0 rfl) ?_
              refine ml_joined F h (i := 4 * (ba.toNatClampNeg) + 1 + 1 + 1) (by omega) (v := N.2.1 4 (4 * (ba.toNatClampNeg) + 1 + 1 + 1)) rfl d_Mo_priority_42 ?_
              have hwjoined : N.2.1 4 (4 * (ba.toNatClampNeg) + 1 + 1 + 1) < 108 := mw_joined h.2.2.2 (4 * (ba.toNatClampNeg) + 1 + 1 + 1)
              refine lv_if_eq E1 E2 d_Mo_priority_43 rfl (fun h7 => ?_) (fun h7 => ?_)
              · have h7 : (N.2.1 4 (4 * (ba.toNatClampNeg) + 1 + 1 + 1)) = 0 := ((nI_eq (a := N.2.1 4 (4 * (ba.toNatClampNeg) + 1 + 1 + 1)) (b := 0) (by omega) (by omega)).mp h7)
                refine lv_iinc (v := (nI (4 * (ba.toNatClampNeg) + 1 + 1 + 1 + 1))) E1 E2 d_Mo_priority_48 hl (k := 0) rfl (nI_1 _) (by decide) rfl (fun ls hl => ?_)
                have hl : lv_has ls 4 [(3, .int (nI (4 * (ba.toNatClampNeg) + 1 + 1 + 1 + 1))), (0, .ref (ad 0 0)), (1, .int ba), (2, .int pr)] := hl
                refine lv_goto E1 E2 d_Mo_priority_51 rfl ?_
                refine lv_iload_n E1 E2 d_Mo_priority_28 rfl (lv_at hl 0 rfl) ?_
                refine lv_iconst (v := 4) E1 E2 d_Mo_priority_29 (by decide) ?_
                refine lv_iload_n E1 E2 d_Mo_priority_30 rfl (lv_at hl 2 rfl) ?_
                refine bn_ti hn_ba.1 ?_
                refine lv_imul E1 E2 d_Mo_priority_31 ?_
                refine bn_ti (y := nI (4 * (ba.toNatClampNeg))) (pk_mul 4 (ba.toNatClampNeg)) ?_
                refine lv_iconst (v := 4) E1 E2 d_Mo_priority_32 (by decide) ?_
                refine lv_iadd E1 E2 d_Mo_priority_33 ?_
                refine bn_ti (y := nI ((4 * (ba.toNatClampNeg)) + 4)) (nI_add (4 * (ba.toNatClampNeg)) 4) ?_
                refine lv_icmp_ge E1 E2 d_Mo_priority_34 rfl (fun _ => ?_) (fun hz => absurd ((nI_leI (a := (4 * (ba.toNatClampNeg)) + 4) (b := 4 * (ba.toNatClampNeg) + 1 + 1 + 1 + 1) (by omega) (by omega)).mpr (by omega)) hz)
                refine lv_aload_n E1 E2 d_Mo_priority_54 rfl (lv_at hl 1 rfl) ?_
                refine g_Mo_priority F h k_703 d_Mo_priority_55 ?_
                refine lv_iload_n E1 E2 d_Mo_priority_58 rfl (lv_at hl 2 rfl) ?_
                refine bn_ti hn_ba.1 ?_
                refine lv_iload_n E1 E2 d_Mo_priority_59 rfl (lv_at hl 3 rfl) ?_
                have hn_pr := bn_natlt (n := 15) h2 (Int32.not_lt.mpr h3) (by decide)
                have hn_pr2 := hn_pr.2
                refine bn_ti hn_pr.1 ?_
                refine ms_priority F h (i := ba.toNatClampNeg) (by omega) (v := nI (pr.toNatClampNeg)) d_Mo_priority_60 (fun H locs h => ?_)
                have h : bn_H (mo_y D ar ad) s.heap H locs (sI (sI N 41 0 0) 1 (ba.toNatClampNeg) (nI (pr.toNatClampNeg))) := h
                refine lv_aload_n E1 E2 d_Mo_priority_61 rfl (lv_at hl 1 rfl) ?_
                refine lv_iload_n E1 E2 d_Mo_priority_62 rfl (lv_at hl 2 rfl) ?_
                refine bn_ti hn_ba.1 ?_
                refine bn_callv F h (bn_runV (n := 1) (As := [.int (nI (ba.toNatClampNeg))]) (rest := []) F hml hl.1 h mi_0 rfl rfl (c_Mo_compute l D ar ad (sI (sI N 41 0 0) 1 (ba.toNatClampNeg) (nI (pr.toNatClampNeg))) (ba.toNatClampNeg) (by omega) _) (bn_goodV k_829 k_831 ks_Mo_compute k_7 k_832) rfl rfl (by decide) ⟨by decide, by decide⟩ rfl rfl (Nat.le_of_ble_eq_true rfl) d_Mo_priority_63 ⟨Nat.zero_le _, Nat.zero_le _⟩) (fun H locs h => ?_)
                have h : bn_H (mo_y D ar ad) s.heap H locs (o_Mo_compute (sI (sI N 41 0 0) 1 (ba.toNatClampNeg) (nI (pr.toNatClampNeg))) (ba.toNatClampNeg)) := h
                refine lv_iconst (v := 1) E1 E2 d_Mo_priority_66 (by decide) ?_
                have hq : o_Mo_priority N ba pr = (1, (o_Mo_compute (sI (sI N 41 0 0) 1 (ba.toNatClampNeg) (nI (pr.toNatClampNeg))) (ba.toNatClampNeg))) := Eq.trans (if_neg h1) (Eq.trans (if_neg h2) (Eq.trans (if_pos h3) (Eq.trans (if_pos h4) (Eq.trans (if_pos h5) (Eq.trans (if_pos h6) (if_pos h7))))))
                exact bn_retz2 F hr rfl hk h hq d_Mo_priority_67
              · have h7 : ¬ ((N.2.1 4 (4 * (ba.toNatClampNeg) + 1 + 1 + 1)) = 0) := (fun hw => h7 ((nI_eq (a := N.2.1 4 (4 * (ba.toNatClampNeg) + 1 + 1 + 1)) (b := 0) (by omega) (by omega)).mpr hw))
                refine lv_iconst (v := 0) E1 E2 d_Mo_priority_46 (by decide) ?_
                have hq : o_Mo_priority N ba pr = (0, (sI N 41 0 0)) := Eq.trans (if_neg h1) (Eq.trans (if_neg h2) (Eq.trans (if_pos h3) (Eq.trans (if_pos h4) (Eq.trans (if_pos h5) (Eq.trans (if_pos h6) (if_neg h7))))))
                exact bn_retz2 F hr rfl hk h hq d_Mo_priority_47
            · have h6 : ¬ ((N.2.1 4 (4 * (ba.toNatClampNeg) + 1 + 1)) = 0) := (fun hw => h6 ((nI_eq (a := N.2.1 4 (4 * (ba.toNatClampNeg) + 1 + 1)) (b := 0) (by omega) (by omega)).mpr hw))
              refine lv_iconst (v := 0) E1 E2 d_Mo_priority_46 (by decide) ?_
              have hq : o_Mo_priority N ba pr = (0, (sI N 41 0 0)) := Eq.trans (if_neg h1) (Eq.trans (if_neg h2) (Eq.trans (if_pos h3) (Eq.trans (if_pos h4) (Eq.trans (if_pos h5) (if_neg h6)))))
              exact bn_retz2 F hr rfl hk h hq d_Mo_priority_47
          · have h5 : ¬ ((N.2.1 4 (4 * (ba.toNatClampNeg) + 1)) = 0) := (fun hw => h5 ((nI_eq (a := N.2.1 4 (4 * (ba.toNatClampNeg) + 1)) (b := 0) (by omega) (by omega)).mpr hw))
            refine lv_iconst (v := 0) E1 E2 d_Mo_priority_46 (by decide) ?_
            have hq : o_Mo_priority N ba pr = (0, (sI N 41 0 0)) := Eq.trans (if_neg h1) (Eq.trans (if_neg h2) (Eq.trans (if_pos h3) (Eq.trans (if_pos h4) (if_neg h5))))
            exact bn_retz2 F hr rfl hk h hq d_Mo_priority_47
        · have h4 : ¬ ((N.2.1 4 (4 * (ba.toNatClampNeg))) = 0) := (fun hw => h4 ((nI_eq (a := N.2.1 4 (4 * (ba.toNatClampNeg))) (b := 0) (by omega) (by omega)).mpr hw))
          refine lv_iconst (v := 0) E1 E2 d_Mo_priority_46 (by decide) ?_
          have hq : o_Mo_priority N ba pr = (0, (sI N 41 0 0)) := Eq.trans (if_neg h1) (Eq.trans (if_neg h2) (Eq.trans (if_pos h3) (if_neg h4)))
          exact bn_retz2 F hr rfl hk h hq d_Mo_priority_47
      · have h3 : ¬ (pr ≤ 15) := h3
        refine lv_iconst (v := 0) E1 E2 d_Mo_priority_22 (by decide) ?_
        have hq : o_Mo_priority N ba pr = (0, (sI N 41 0 0)) := Eq.trans (if_neg h1) (Eq.trans (if_neg h2) (if_neg h3))
        exact bn_retz2 F hr rfl hk h hq d_Mo_priority_23
def o_Mo_set (N : bn_S) (ba : Int32) (pa : Int32) (co : Int32) (vl : Int32) : Int32 × bn_S := (if r_Mo_isPort (sI N 41 0 0) ba pa = 0 then (0, (sI N 41 0 0)) else (if co < 1 then (0, (sI N 41 0 0)) else (if 50 < co then (0, (sI N 41 0 0)) else (if vl < 1 then (0, (sI N 41 0 0)) else (if vl ≤ 3 then (1, (o_Mo_compute (sI (sI (sI N 41 0 0) 2 ((4 * (ba.toNatClampNeg)) + (pa.toNatClampNeg)) (nI (co.toNatClampNeg))) 3 ((4 * (ba.toNatClampNeg)) + (pa.toNatClampNeg)) (nI (vl.toNatClampNeg))) (ba.toNatClampNeg))) else (0, (sI N 41 0 0)))))))
set_option maxHeartbeats 4000000 in
set_option maxRecDepth 100000 in
theorem c_Mo_set (l : Launch) (D : va_G) (ar : Nat → ClassId) (ad : Nat → Nat → Nat) (N : bn_S)  (ba : Int32) (pa : Int32) (co : Int32) (vl : Int32) : bn_I l y_Mo_set w_Mo_set { frames := 5, cells := 0, slots := 0, locals := 120 } (mo_y D ar ad) N [.ref (ad 0 0), .int ba, .int pa, .int co, .int vl] (o_Mo_set N ba pa co vl).1 (o_Mo_set N ba pa co vl).2 := by
  intro sz
  refine bn_start (cc := b_Mo_set) (maxL := 5) (ret := (Option.some Jvm.ClassFile.FieldType.boolean)) (by decide) rfl (Nat.le_of_ble_eq_true rfl) ?_
  intro p e s m args below meth c ls hsz F hml hr hk hl h
  subst hsz
  have E1 := F.1
  have E2 := F.2.1
  have hl : lv_has ls 5 [(0, .ref (ad 0 0)), (1, .int ba), (2, .int pa), (3, .int co), (4, .int vl)] := hl
  refine lv_aload_n E1 E2 d_Mo_set_0 rfl (lv_at hl 0 rfl) ?_
  refine lv_iconst (v := 0) E1 E2 d_Mo_set_1 (by decide) ?_
  refine p_Mo_thrown F h k_701 d_Mo_set_2 (fun H locs h => ?_)
  have h : bn_H (mo_y D ar ad) s.heap H locs (sI N 41 0 0) := h
  refine lv_iload_n E1 E2 d_Mo_set_5 rfl (lv_at hl 1 rfl) ?_
  refine lv_iload_n E1 E2 d_Mo_set_6 rfl (lv_at hl 2 rfl) ?_
  refine bn_calli F h (bn_runS (n := 2) (As := [.int ba, .int pa]) (rest := []) F hml hl.1 h (c_Mo_isPort l D ar ad (sI N 41 0 0) ba pa _) (bn_goodS k_807 k_808 k_7 k_809) rfl rfl (by decide) ⟨by decide, by decide⟩ rfl rfl (Nat.le_of_ble_eq_true rfl) d_Mo_set_7 ⟨Nat.zero_le _, Nat.zero_le _⟩) (fun H locs h => ?_)
  refine lv_if_eq E1 E2 d_Mo_set_10 rfl (fun h1 => ?_) (fun h1 => ?_)
  · have h1 : r_Mo_isPort (sI N 41 0 0) ba pa = 0 := h1
    refine lv_iconst (v := 0) E1 E2 d_Mo_set_36 (by decide) ?_
    have hq : o_Mo_set N ba pa co vl = (0, (sI N 41 0 0)) := if_pos h1
    exact bn_retz2 F hr rfl hk h hq d_Mo_set_37
  · have h1 : ¬ (r_Mo_isPort (sI N 41 0 0) ba pa = 0) := h1
    refine lv_iload_n E1 E2 d_Mo_set_13 rfl (lv_at hl 3 rfl) ?_
    refine lv_iconst (v := 1) E1 E2 d_Mo_set_14 (by decide) ?_
    refine lv_icmp_lt E1 E2 d_Mo_set_15 rfl (fun h2 => ?_) (fun h2 => ?_)
    · have h2 : co < 1 := h2
      refine lv_iconst (v := 0) E1 E2 d_Mo_set_36 (by decide) ?_
      have hq : o_Mo_set N ba pa co vl = (0, (sI N 41 0 0)) := Eq.trans (if_neg h1) (if_pos h2)
      exact bn_retz2 F hr rfl hk h hq d_Mo_set_37
    · have h2 : ¬ (co < 1) := h2
      refine lv_iload_n E1 E2 d_Mo_set_18 rfl (lv_at hl 3 rfl) ?_
      refine lv_bipush (v := 50) E1 E2 d_Mo_set_19 (by decide) ?_
      refine lv_icmp_gt E1 E2 d_Mo_set_21 rfl (fun h3 => ?_) (fun h3 => ?_)
      · have h3 : 50 < co := h3
        refine lv_iconst (v := 0) E1 E2 d_Mo_set_36 (by decide) ?_
        have hq : o_Mo_set N ba pa co vl = (0, (sI N 41 0 0)) := Eq.trans (if_neg h1) (Eq.trans (if_neg h2) (if_pos h3))
        exact bn_retz2 F hr rfl hk h hq d_Mo_set_37
      · have h3 : ¬ (50 < co) := h3
        refine lv_iload E1 E2 d_Mo_set_24 (lv_at hl 4 rfl) ?_
        refine lv_iconst (v := 1) E1 E2 d_Mo_set_26 (by decide) ?_
        refine lv_icmp_lt E1 E2 d_Mo_set_27 rfl (fun h4 => ?_) (fun h4 => ?_)
        · have h4 : vl < 1 := h4
          refine lv_iconst (v := 0) E1 E2 d_Mo_set_36 (by decide) ?_
          have hq : o_Mo_set N ba pa co vl = (0, (sI N 41 0 0)) := Eq.trans (if_neg h1) (Eq.trans (if_neg h2) (Eq.trans (if_neg h3) (if_pos h4)))
          exact bn_retz2 F hr rfl hk h hq d_Mo_set_37
        · have h4 : ¬ (vl < 1) := h4
          refine lv_iload E1 E2 d_Mo_set_30 (lv_at hl 4 rfl) ?_
          refine lv_iconst (v := 3) E1 E2 d_Mo_set_32 (by decide) ?_
          refine lv_icmp_le E1 E2 d_Mo_set_33 rfl (fun h5 => ?_) (fun h5 => ?_)
          · have h5 : vl ≤ 3 := h5
            refine lv_aload_n E1 E2 d_Mo_set_38 rfl (lv_at hl 0 rfl) ?_
            refine g_Mo_cost F h k_704 d_Mo_set_39 ?_
            refine lv_iconst (v := 4) E1 E2 d_Mo_set_42 (by decide) ?_
            refine lv_iload_n E1 E2 d_Mo_set_43 rfl (lv_at hl 1 rfl) ?_
            have hn_ba := bn_isPb h1
            have hn_ba2 := hn_ba.2
            refine bn_ti hn_ba.1 ?_
            refine lv_imul E1 E2 d_Mo_set_44 ?_
            refine bn_ti (y := nI (4 * (ba.toNatClampNeg))) (pk_mul 4 (ba.toNatClampNeg)) ?_
            refine lv_iload_n E1 E2 d_Mo_set_45 rfl (lv_at hl 2 rfl) ?_
            have hn_pa := bn_isPp h1
            have hn_pa2 := hn_pa.2
            refine bn_ti hn_pa.1 ?_
            refine lv_iadd E1 E2 d_Mo_set_46 ?_
            refine bn_ti (y := nI ((4 * (ba.toNatClampNeg)) + (pa.toNatClampNeg))) (nI_add (4 * (ba.toNatClampNeg)) (pa.toNatClampNeg)) ?_
            refine lv_iload_n E1 E2 d_Mo_set_47 rfl (lv_at hl 3 rfl) ?_
            have hn_co := bn_natlt1 (n := 50) h2 h3 (by decide)
            have hn_co2 := hn_co.2
            refine bn_ti hn_co.1 ?_
            refine ms_cost F h (i := (4 * (ba.toNatClampNeg)) + (pa.toNatClampNeg)) (by omega) (v := nI (co.toNatClampNeg)) d_Mo_set_48 (fun H locs h => ?_)
            have h : bn_H (mo_y D ar ad) s.heap H locs (sI (sI N 41 0 0) 2 ((4 * (ba.toNatClampNeg)) + (pa.toNatClampNeg)) (nI (co.toNatClampNeg))) := h
            refine lv_aload_n E1 E2 d_Mo_set_49 rfl (lv_at hl 0 rfl) ?_
            refine g_Mo_vlans F h k_705 d_Mo_set_50 ?_
            refine lv_iconst (v := 4) E1 E2 d_Mo_set_53 (by decide) ?_
            refine lv_iload_n E1 E2 d_Mo_set_54 rfl (lv_at hl 1 rfl) ?_
            refine bn_ti hn_ba.1 ?_
            refine lv_imul E1 E2 d_Mo_set_55 ?_
            refine bn_ti (y := nI (4 * (ba.toNatClampNeg))) (pk_mul 4 (ba.toNatClampNeg)) ?_
            refine lv_iload_n E1 E2 d_Mo_set_56 rfl (lv_at hl 2 rfl) ?_
            refine bn_ti hn_pa.1 ?_
            refine lv_iadd E1 E2 d_Mo_set_57 ?_
            refine bn_ti (y := nI ((4 * (ba.toNatClampNeg)) + (pa.toNatClampNeg))) (nI_add (4 * (ba.toNatClampNeg)) (pa.toNatClampNeg)) ?_
            refine lv_iload E1 E2 d_Mo_set_58 (lv_at hl 4 rfl) ?_
            have hn_vl := bn_natlt1 (n := 3) h4 (Int32.not_lt.mpr h5) (by decide)
            have hn_vl2 := hn_vl.2
            refine bn_ti hn_vl.1 ?_
            refine ms_vlans F h (i := (4 * (ba.toNatClampNeg)) + (pa.toNatClampNeg)) (by omega) (v := nI (vl.toNatClampNeg)) d_Mo_set_60 (fun H locs h => ?_)
            have h : bn_H (mo_y D ar ad) s.heap H locs (sI (sI (sI N 41 0 0) 2 ((4 * (ba.toNatClampNeg)) + (pa.toNatClampNeg)) (nI (co.toNatClampNeg))) 3 ((4 * (ba.toNatClampNeg)) + (pa.toNatClampNeg)) (nI (vl.toNatClampNeg))) := h
            refine lv_aload_n E1 E2 d_Mo_set_61 rfl (lv_at hl 0 rfl) ?_
            refine lv_iload_n E1 E2 d_Mo_set_62 rfl (lv_at hl 1 rfl) ?_
            refine bn_ti hn_ba.1 ?_
            refine bn_callv F h (bn_runV (n := 1) (As := [.int (nI (ba.toNatClampNeg))]) (rest := []) F hml hl.1 h mi_0 rfl rfl (c_Mo_compute l D ar ad (sI (sI (sI N 41 0 0) 2 ((4 * (ba.toNatClampNeg)) + (pa.toNatClampNeg)) (nI (co.toNatClampNeg))) 3 ((4 * (ba.toNatClampNeg)) + (pa.toNatClampNeg)) (nI (vl.toNatClampNeg))) (ba.toNatClampNeg) (by omega) _) (bn_goodV k_829 k_831 ks_Mo_compute k_7 k_832) rfl rfl (by decide) ⟨by decide, by decide⟩ rfl rfl (Nat.le_of_ble_eq_true rfl) d_Mo_set_63 ⟨Nat.zero_le _, Nat.zero_le _⟩) (fun H locs h => ?_)
            have h : bn_H (mo_y D ar ad) s.heap H locs (o_Mo_compute (sI (sI (sI N 41 0 0) 2 ((4 * (ba.toNatClampNeg)) + (pa.toNatClampNeg)) (nI (co.toNatClampNeg))) 3 ((4 * (ba.toNatClampNeg)) + (pa.toNatClampNeg)) (nI (vl.toNatClampNeg))) (ba.toNatClampNeg)) := h
            refine lv_iconst (v := 1) E1 E2 d_Mo_set_66 (by decide) ?_
            have hq : o_Mo_set N ba pa co vl = (1, (o_Mo_compute (sI (sI (sI N 41 0 0) 2 ((4 * (ba.toNatClampNeg)) + (pa.toNatClampNeg)) (nI (co.toNatClampNeg))) 3 ((4 * (ba.toNatClampNeg)) + (pa.toNatClampNeg)) (nI (vl.toNatClampNeg))) (ba.toNatClampNeg))) := Eq.trans (if_neg h1) (Eq.trans (if_neg h2) (Eq.trans (if_neg h3) (Eq.trans (if_neg h4) (if_pos h5))))
            exact bn_retz2 F hr rfl hk h hq d_Mo_set_67
          · have h5 : ¬ (vl ≤ 3) := h5
            refine lv_iconst (v := 0) E1 E2 d_Mo_set_36 (by decide) ?_
            have hq : o_Mo_set N ba pa co vl = (0, (sI N 41 0 0)) := Eq.trans (if_neg h1) (Eq.trans (if_neg h2) (Eq.trans (if_neg h3) (Eq.trans (if_neg h4) (if_neg h5))))
            exact bn_retz2 F hr rfl hk h hq d_Mo_set_37
def o_Mo_link (N : bn_S) (ba : Int32) (pa : Int32) (ca : Int32) (qa : Int32) : Int32 × bn_S := (if r_Mo_isPort (sI N 41 0 0) ba pa = 0 then (0, (sI N 41 0 0)) else (if r_Mo_isPort (sI N 41 0 0) ca qa = 0 then (0, (sI N 41 0 0)) else (if (ba.toNatClampNeg) = (ca.toNatClampNeg) then (0, (sI N 41 0 0)) else (if (N.2.1 4 ((4 * (ba.toNatClampNeg)) + (pa.toNatClampNeg))) = 0 then (if (N.2.1 4 ((4 * (ca.toNatClampNeg)) + (qa.toNatClampNeg))) = 0 then (1, (o_Mo_compute (o_Mo_compute (o_Mo_clear (o_Mo_clear (sU (sU (sI N 41 0 0) 4 ((4 * (ba.toNatClampNeg)) + (pa.toNatClampNeg)) (((4 * (ca.toNatClampNeg)) + (qa.toNatClampNeg)) + 1)) 4 ((4 * (ca.toNatClampNeg)) + (qa.toNatClampNeg)) (((4 * (ba.toNatClampNeg)) + (pa.toNatClampNeg)) + 1)) ((4 * (ba.toNatClampNeg)) + (pa.toNatClampNeg))) ((4 * (ca.toNatClampNeg)) + (qa.toNatClampNeg))) (ba.toNatClampNeg)) (ca.toNatClampNeg))) else (0, (sI N 41 0 0))) else (0, (sI N 41 0 0))))))
set_option maxHeartbeats 4000000 in
set_option maxRecDepth 100000 in
theorem c_Mo_link (l : Launch) (D : va_G) (ar : Nat → ClassId) (ad : Nat → Nat → Nat) (N : bn_S)  (ba : Int32) (pa : Int32) (ca : Int32) (qa : Int32) : bn_I l y_Mo_link w_Mo_link { frames := 5, cells := 0, slots := 0, locals := 120 } (mo_y D ar ad) N [.ref (ad 0 0), .int ba, .int pa, .int ca, .int qa] (o_Mo_link N ba pa ca qa).1 (o_Mo_link N ba pa ca qa).2 := by
  intro sz
  refine bn_start (cc := b_Mo_link) (maxL := 5) (ret := (Option.some Jvm.ClassFile.FieldType.boolean)) (by decide) rfl (Nat.le_of_ble_eq_true rfl) ?_
  intro p e s m args below meth c ls hsz F hml hr hk hl h
  subst hsz
  have E1 := F.1
  have E2 := F.2.1
  have hl : lv_has ls 5 [(0, .ref (ad 0 0)), (1, .int ba), (2, .int pa), (3, .int ca), (4, .int qa)] := hl
  refine lv_aload_n E1 E2 d_Mo_link_0 rfl (lv_at hl 0 rfl) ?_
  refine lv_iconst (v := 0) E1 E2 d_Mo_link_1 (by decide) ?_
  refine p_Mo_thrown F h k_701 d_Mo_link_2 (fun H locs h => ?_)
  have h : bn_H (mo_y D ar ad) s.heap H locs (sI N 41 0 0) := h
  refine lv_iload_n E1 E2 d_Mo_link_5 rfl (lv_at hl 1 rfl) ?_
  refine lv_iload_n E1 E2 d_Mo_link_6 rfl (lv_at hl 2 rfl) ?_
  refine bn_calli F h (bn_runS (n := 2) (As := [.int ba, .int pa]) (rest := []) F hml hl.1 h (c_Mo_isPort l D ar ad (sI N 41 0 0) ba pa _) (bn_goodS k_807 k_808 k_7 k_809) rfl rfl (by decide) ⟨by decide, by decide⟩ rfl rfl (Nat.le_of_ble_eq_true rfl) d_Mo_link_7 ⟨Nat.zero_le _, Nat.zero_le _⟩) (fun H locs h => ?_)
  refine lv_if_eq E1 E2 d_Mo_link_10 rfl (fun h1 => ?_) (fun h1 => ?_)
  · have h1 : r_Mo_isPort (sI N 41 0 0) ba pa = 0 := h1
    refine lv_iconst (v := 0) E1 E2 d_Mo_link_54 (by decide) ?_
    have hq : o_Mo_link N ba pa ca qa = (0, (sI N 41 0 0)) := if_pos h1
    exact bn_retz2 F hr rfl hk h hq d_Mo_link_55
  · have h1 : ¬ (r_Mo_isPort (sI N 41 0 0) ba pa = 0) := h1
    refine lv_iload_n E1 E2 d_Mo_link_13 rfl (lv_at hl 3 rfl) ?_
    refine lv_iload E1 E2 d_Mo_link_14 (lv_at hl 4 rfl) ?_
    refine bn_calli F h (bn_runS (n := 2) (As := [.int ca, .int qa]) (rest := []) F hml hl.1 h (c_Mo_isPort l D ar ad (sI N 41 0 0) ca qa _) (bn_goodS k_807 k_808 k_7 k_809) rfl rfl (by decide) ⟨by decide, by decide⟩ rfl rfl (Nat.le_of_ble_eq_true rfl) d_Mo_link_16 ⟨Nat.zero_le _, Nat.zero_le _⟩) (fun H locs h => ?_)
    refine lv_if_eq E1 E2 d_Mo_link_19 rfl (fun h2 => ?_) (fun h2 => ?_)
    · have h2 : r_Mo_isPort (sI N 41 0 0) ca qa = 0 := h2
      refine lv_iconst (v := 0) E1 E2 d_Mo_link_54 (by decide) ?_
      have hq : o_Mo_link N ba pa ca qa = (0, (sI N 41 0 0)) := Eq.trans (if_neg h1) (if_pos h2)
      exact bn_retz2 F hr rfl hk h hq d_Mo_link_55
    · have h2 : ¬ (r_Mo_isPort (sI N 41 0 0) ca qa = 0) := h2
      refine lv_iload_n E1 E2 d_Mo_link_22 rfl (lv_at hl 1 rfl) ?_
      have hn_ba := bn_isPb h1
      have hn_ba2 := hn_ba.2
      refine bn_ti hn_ba.1 ?_
      refine lv_iload_n E1 E2 d_Mo_link_23 rfl (lv_at hl 3 rfl) ?_
      have hn_ca := bn_isPb h2
      have hn_ca2 := hn_ca.2
      refine bn_ti hn_ca.1 ?_
      refine lv_icmp_eq E1 E2 d_Mo_link_24 rfl (fun h3 => ?_) (fun h3 => ?_)
      · have h3 : (ba.toNatClampNeg) = (ca.toNatClampNeg) := ((nI_eq (a := ba.toNatClampNeg) (b := ca.toNatClampNeg) (by omega) (by omega)).mp h3)
        refine lv_iconst (v := 0) E1 E2 d_Mo_link_54 (by decide) ?_
        have hq : o_Mo_link N ba pa ca qa = (0, (sI N 41 0 0)) := Eq.trans (if_neg h1) (Eq.trans (if_neg h2) (if_pos h3))
        exact bn_retz2 F hr rfl hk h hq d_Mo_link_55
      · have h3 : ¬ ((ba.toNatClampNeg) = (ca.toNatClampNeg)) := (fun hw => h3 ((nI_eq (a := ba.toNatClampNeg) (b := ca.toNatClampNeg) (by omega) (by omega)).mpr hw))
        refine lv_aload_n E1 E2 d_Mo_link_27 rfl (lv_at hl 0 rfl) ?_
        refine g_Mo_joined F h k_706 d_Mo_link_28 ?_
        refine lv_iconst (v := 4) E1 E2 d_Mo_link_31 (by decide) ?_
        refine lv_iload_n E1 E2 d_Mo_link_32 rfl (lv_at hl 1 rfl) ?_
        refine bn_ti hn_ba.1 ?_
        refine lv_imul E1 E2 d_Mo_link_33 ?_
        refine bn_ti (y := nI (4 * (ba.toNatClampNeg))) (pk_mul 4 (ba.toNatClampNeg)) ?_
        refine lv_iload_n E1 E2 d_Mo_link_34 rfl (lv_at hl 2 rfl) ?_
        have hn_pa := bn_isPp h1
        have hn_pa2 := hn_pa.2
        refine bn_ti hn_pa.1 ?_
        refine lv_iadd E1 E2 d_Mo_link_35 ?_
        refine bn_ti (y := nI ((4 * (ba.toNatClampNeg)) + (pa.toNatClampNeg))) (nI_add (4 * (ba.toNatClampNeg)) (pa.toNatClampNeg)) ?_
        refine ml_joined F h (i := (4 * (ba.toNatClampNeg)) + (pa.toNatClampNeg)) (by omega) (v := N.2.1 4 ((4 * (ba.toNatClampNeg)) + (pa.toNatClampNeg))) rfl d_Mo_link_36 ?_
        have hwjoined : N.2.1 4 ((4 * (ba.toNatClampNeg)) + (pa.toNatClampNeg)) < 108 := mw_joined h.2.2.2 ((4 * (ba.toNatClampNeg)) + (pa.toNatClampNeg))
        refine lv_if_ne E1 E2 d_Mo_link_37 rfl (fun h4 => ?_) (fun h4 => ?_)
        · have h4 : ¬ ((N.2.1 4 ((4 * (ba.toNatClampNeg)) + (pa.toNatClampNeg))) = 0) := (fun hw => h4 ((nI_eq (a := N.2.1 4 ((4 * (ba.toNatClampNeg)) + (pa.toNatClampNeg))) (b := 0) (by omega) (by omega)).mpr hw))
          refine lv_iconst (v := 0) E1 E2 d_Mo_link_54 (by decide) ?_
          have hq : o_Mo_link N ba pa ca qa = (0, (sI N 41 0 0)) := Eq.trans (if_neg h1) (Eq.trans (if_neg h2) (Eq.trans (if_neg h3) (if_neg h4)))
          exact bn_retz2 F hr rfl hk h hq d_Mo_link_55
        · have h4 : (N.2.1 4 ((4 * (ba.toNatClampNeg)) + (pa.toNatClampNeg))) = 0 := ((nI_eq (a := N.2.1 4 ((4 * (ba.toNatClampNeg)) + (pa.toNatClampNeg))) (b := 0) (by omega) (by omega)).mp h4)
          refine lv_aload_n E1 E2 d_Mo_link_40 rfl (lv_at hl 0 rfl) ?_
          refine g_Mo_joined F h k_706 d_Mo_link_41 ?_
          refine lv_iconst (v := 4) E1 E2 d_Mo_link_44 (by decide) ?_
          refine lv_iload_n E1 E2 d_Mo_link_45 rfl (lv_at hl 3 rfl) ?_
          refine bn_ti hn_ca.1 ?_
          refine lv_imul E1 E2 d_Mo_link_46 ?_
          refine bn_ti (y := nI (4 * (ca.toNatClampNeg))) (pk_mul 4 (ca.toNatClampNeg)) ?_
          refine lv_iload E1 E2 d_Mo_link_47 (lv_at hl 4 rfl) ?_
          have hn_qa := bn_isPp h2
          have hn_qa2 := hn_qa.2
          refine bn_ti hn_qa.1 ?_
          refine lv_iadd E1 E2 d_Mo_link_49 ?_
          refine bn_ti (y := nI ((4 * (ca.toNatClampNeg)) + (qa.toNatClampNeg))) (nI_add (4 * (ca.toNatClampNeg)) (qa.toNatClampNeg)) ?_
          refine ml_joined F h (i := (4 * (ca.toNatClampNeg)) + (qa.toNatClampNeg)) (by omega) (v := N.2.1 4 ((4 * (ca.toNatClampNeg)) + (qa.toNatClampNeg))) rfl d_Mo_link_50 ?_
          have hwjoined : N.2.1 4 ((4 * (ca.toNatClampNeg)) + (qa.toNatClampNeg)) < 108 := mw_joined h.2.2.2 ((4 * (ca.toNatClampNeg)) + (qa.toNatClampNeg))
          refine lv_if_eq E1 E2 d_Mo_link_51 rfl (fun h5 => ?_) (fun h5 => ?_)
          · have h5 : (N.2.1 4 ((4 * (ca.toNatClampNeg)) + (qa.toNatClampNeg))) = 0 := ((nI_eq (a := N.2.1 4 ((4 * (ca.toNatClampNeg)) + (qa.toNatClampNeg))) (b := 0) (by omega) (by omega)).mp h5)
            refine lv_aload_n E1 E2 d_Mo_link_56 rfl (lv_at hl 0 rfl) ?_
            refine g_Mo_joined F h k_706 d_Mo_link_57 ?_
            refine lv_iconst (v := 4) E1 E2 d_Mo_link_60 (by decide) ?_
            refine lv_iload_n E1 E2 d_Mo_link_61 rfl (lv_at hl 1 rfl) ?_
            refine bn_ti hn_ba.1 ?_
            refine lv_imul E1 E2 d_Mo_link_62 ?_
            refine bn_ti (y := nI (4 * (ba.toNatClampNeg))) (pk_mul 4 (ba.toNatClampNeg)) ?_
            refine lv_iload_n E1 E2 d_Mo_link_63 rfl (lv_at hl 2 rfl) ?_
            refine bn_ti hn_pa.1 ?_
            refine lv_iadd E1 E2 d_Mo_link_64 ?_
            refine bn_ti (y := nI ((4 * (ba.toNatClampNeg)) + (pa.toNatClampNeg))) (nI_add (4 * (ba.toNatClampNeg)) (pa.toNatClampNeg)) ?_
            refine lv_iconst (v := 4) E1 E2 d_Mo_link_65 (by decide) ?_
            refine lv_iload_n E1 E2 d_Mo_link_66 rfl (lv_at hl 3 rfl) ?_
            refine bn_ti hn_ca.1 ?_
            refine lv_imul E1 E2 d_Mo_link_67 ?_
            refine bn_ti (y := nI (4 * (ca.toNatClampNeg))) (pk_mul 4 (ca.toNatClampNeg)) ?_
            refine lv_iload E1 E2 d_Mo_link_68 (lv_at hl 4 rfl) ?_
            refine bn_ti hn_qa.1 ?_
            refine lv_iadd E1 E2 d_Mo_link_70 ?_
            refine bn_ti (y := nI ((4 * (ca.toNatClampNeg)) + (qa.toNatClampNeg))) (nI_add (4 * (ca.toNatClampNeg)) (qa.toNatClampNeg)) ?_
            refine lv_iconst (v := 1) E1 E2 d_Mo_link_71 (by decide) ?_
            refine lv_iadd E1 E2 d_Mo_link_72 ?_
            refine bn_ti (y := nI (((4 * (ca.toNatClampNeg)) + (qa.toNatClampNeg)) + 1)) (nI_add ((4 * (ca.toNatClampNeg)) + (qa.toNatClampNeg)) 1) ?_
            refine ms_joined F h (i := (4 * (ba.toNatClampNeg)) + (pa.toNatClampNeg)) (by omega) (v := ((4 * (ca.toNatClampNeg)) + (qa.toNatClampNeg)) + 1) (by omega) (by omega) d_Mo_link_73 (fun H locs h => ?_)
            have h : bn_H (mo_y D ar ad) s.heap H locs (sU (sI N 41 0 0) 4 ((4 * (ba.toNatClampNeg)) + (pa.toNatClampNeg)) (((4 * (ca.toNatClampNeg)) + (qa.toNatClampNeg)) + 1)) := h
            refine lv_aload_n E1 E2 d_Mo_link_74 rfl (lv_at hl 0 rfl) ?_
            refine g_Mo_joined F h k_706 d_Mo_link_75 ?_
            refine lv_iconst (v := 4) E1 E2 d_Mo_link_78 (by decide) ?_
            refine lv_iload_n E1 E2 d_Mo_link_79 rfl (lv_at hl 3 rfl) ?_
            refine bn_ti hn_ca.1 ?_
            refine lv_imul E1 E2 d_Mo_link_80 ?_
            refine bn_ti (y := nI (4 * (ca.toNatClampNeg))) (pk_mul 4 (ca.toNatClampNeg)) ?_
            refine lv_iload E1 E2 d_Mo_link_81 (lv_at hl 4 rfl) ?_
            refine bn_ti hn_qa.1 ?_
            refine lv_iadd E1 E2 d_Mo_link_83 ?_
            refine bn_ti (y := nI ((4 * (ca.toNatClampNeg)) + (qa.toNatClampNeg))) (nI_add (4 * (ca.toNatClampNeg)) (qa.toNatClampNeg)) ?_
            refine lv_iconst (v := 4) E1 E2 d_Mo_link_84 (by decide) ?_
            refine lv_iload_n E1 E2 d_Mo_link_85 rfl (lv_at hl 1 rfl) ?_
            refine bn_ti hn_ba.1 ?_
            refine lv_imul E1 E2 d_Mo_link_86 ?_
            refine bn_ti (y := nI (4 * (ba.toNatClampNeg))) (pk_mul 4 (ba.toNatClampNeg)) ?_
            refine lv_iload_n E1 E2 d_Mo_link_87 rfl (lv_at hl 2 rfl) ?_
            refine bn_ti hn_pa.1 ?_
            refine lv_iadd E1 E2 d_Mo_link_88 ?_
            refine bn_ti (y := nI ((4 * (ba.toNatClampNeg)) + (pa.toNatClampNeg))) (nI_add (4 * (ba.toNatClampNeg)) (pa.toNatClampNeg)) ?_
            refine lv_iconst (v := 1) E1 E2 d_Mo_link_89 (by decide) ?_
            refine lv_iadd E1 E2 d_Mo_link_90 ?_
            refine bn_ti (y := nI (((4 * (ba.toNatClampNeg)) + (pa.toNatClampNeg)) + 1)) (nI_add ((4 * (ba.toNatClampNeg)) + (pa.toNatClampNeg)) 1) ?_
            refine ms_joined F h (i := (4 * (ca.toNatClampNeg)) + (qa.toNatClampNeg)) (by omega) (v := ((4 * (ba.toNatClampNeg)) + (pa.toNatClampNeg)) + 1) (by omega) (by omega) d_Mo_link_91 (fun H locs h => ?_)
            have h : bn_H (mo_y D ar ad) s.heap H locs (sU (sU (sI N 41 0 0) 4 ((4 * (ba.toNatClampNeg)) + (pa.toNatClampNeg)) (((4 * (ca.toNatClampNeg)) + (qa.toNatClampNeg)) + 1)) 4 ((4 * (ca.toNatClampNeg)) + (qa.toNatClampNeg)) (((4 * (ba.toNatClampNeg)) + (pa.toNatClampNeg)) + 1)) := h
            refine lv_aload_n E1 E2 d_Mo_link_92 rfl (lv_at hl 0 rfl) ?_
            refine lv_iconst (v := 4) E1 E2 d_Mo_link_93 (by decide) ?_
            refine lv_iload_n E1 E2 d_Mo_link_94 rfl (lv_at hl 1 rfl) ?_
            refine bn_ti hn_ba.1 ?_
            refine lv_imul E1 E2 d_Mo_link_95 ?_
            refine bn_ti (y := nI (4 * (ba.toNatClampNeg))) (pk_mul 4 (ba.toNatClampNeg)) ?_
            refine lv_iload_n E1 E2 d_Mo_link_96 rfl (lv_at hl 2 rfl) ?_
            refine bn_ti hn_pa.1 ?_
            refine lv_iadd E1 E2 d_Mo_link_97 ?_
            refine bn_ti (y := nI ((4 * (ba.toNatClampNeg)) + (pa.toNatClampNeg))) (nI_add (4 * (ba.toNatClampNeg)) (pa.toNatClampNeg)) ?_
            refine bn_callv F h (bn_runV (n := 1) (As := [.int (nI ((4 * (ba.toNatClampNeg)) + (pa.toNatClampNeg)))]) (rest := []) F hml hl.1 h mi_0 rfl rfl (c_Mo_clear l D ar ad (sU (sU (sI N 41 0 0) 4 ((4 * (ba.toNatClampNeg)) + (pa.toNatClampNeg)) (((4 * (ca.toNatClampNeg)) + (qa.toNatClampNeg)) + 1)) 4 ((4 * (ca.toNatClampNeg)) + (qa.toNatClampNeg)) (((4 * (ba.toNatClampNeg)) + (pa.toNatClampNeg)) + 1)) ((4 * (ba.toNatClampNeg)) + (pa.toNatClampNeg)) (by omega) _) (bn_goodV k_925 k_927 ks_Mo_clear k_7 k_928) rfl rfl (by decide) ⟨by decide, by decide⟩ rfl rfl (Nat.le_of_ble_eq_true rfl) d_Mo_link_98 ⟨Nat.zero_le _, Nat.zero_le _⟩) (fun H locs h => ?_)
            have h : bn_H (mo_y D ar ad) s.heap H locs (o_Mo_clear (sU (sU (sI N 41 0 0) 4 ((4 * (ba.toNatClampNeg)) + (pa.toNatClampNeg)) (((4 * (ca.toNatClampNeg)) + (qa.toNatClampNeg)) + 1)) 4 ((4 * (ca.toNatClampNeg)) + (qa.toNatClampNeg)) (((4 * (ba.toNatClampNeg)) + (pa.toNatClampNeg)) + 1)) ((4 * (ba.toNatClampNeg)) + (pa.toNatClampNeg))) := h
            refine lv_aload_n E1 E2 d_Mo_link_101 rfl (lv_at hl 0 rfl) ?_
            refine lv_iconst (v := 4) E1 E2 d_Mo_link_102 (by decide) ?_
            refine lv_iload_n E1 E2 d_Mo_link_103 rfl (lv_at hl 3 rfl) ?_
            refine bn_ti hn_ca.1 ?_
            refine lv_imul E1 E2 d_Mo_link_104 ?_
            refine bn_ti (y := nI (4 * (ca.toNatClampNeg))) (pk_mul 4 (ca.toNatClampNeg)) ?_
            refine lv_iload E1 E2 d_Mo_link_105 (lv_at hl 4 rfl) ?_
            refine bn_ti hn_qa.1 ?_
            refine lv_iadd E1 E2 d_Mo_link_107 ?_
            refine bn_ti (y := nI ((4 * (ca.toNatClampNeg)) + (qa.toNatClampNeg))) (nI_add (4 * (ca.toNatClampNeg)) (qa.toNatClampNeg)) ?_
            refine bn_callv F h (bn_runV (n := 1) (As := [.int (nI ((4 * (ca.toNatClampNeg)) + (qa.toNatClampNeg)))]) (rest := []) F hml hl.1 h mi_0 rfl rfl (c_Mo_clear l D ar ad (o_Mo_clear (sU (sU (sI N 41 0 0) 4 ((4 * (ba.toNatClampNeg)) + (pa.toNatClampNeg)) (((4 * (ca.toNatClampNeg)) + (qa.toNatClampNeg)) + 1)) 4 ((4 * (ca.toNatClampNeg)) + (qa.toNatClampNeg)) (((4 * (ba.toNatClampNeg)) + (pa.toNatClampNeg)) + 1)) ((4 * (ba.toNatClampNeg)) + (pa.toNatClampNeg))) ((4 * (ca.toNatClampNeg)) + (qa.toNatClampNeg)) (by omega) _) (bn_goodV k_925 k_927 ks_Mo_clear k_7 k_928) rfl rfl (by decide) ⟨by decide, by decide⟩ rfl rfl (Nat.le_of_ble_eq_true rfl) d_Mo_link_108 ⟨Nat.zero_le _, Nat.zero_le _⟩) (fun H locs h => ?_)
            have h : bn_H (mo_y D ar ad) s.heap H locs (o_Mo_clear (o_Mo_clear (sU (sU (sI N 41 0 0) 4 ((4 * (ba.toNatClampNeg)) + (pa.toNatClampNeg)) (((4 * (ca.toNatClampNeg)) + (qa.toNatClampNeg)) + 1)) 4 ((4 * (ca.toNatClampNeg)) + (qa.toNatClampNeg)) (((4 * (ba.toNatClampNeg)) + (pa.toNatClampNeg)) + 1)) ((4 * (ba.toNatClampNeg)) + (pa.toNatClampNeg))) ((4 * (ca.toNatClampNeg)) + (qa.toNatClampNeg))) := h
            refine lv_aload_n E1 E2 d_Mo_link_111 rfl (lv_at hl 0 rfl) ?_
            refine lv_iload_n E1 E2 d_Mo_link_112 rfl (lv_at hl 1 rfl) ?_
            refine bn_ti hn_ba.1 ?_
            refine bn_callv F h (bn_runV (n := 1) (As := [.int (nI (ba.toNatClampNeg))]) (rest := []) F hml hl.1 h mi_0 rfl rfl (c_Mo_compute l D ar ad (o_Mo_clear (o_Mo_clear (sU (sU (sI N 41 0 0) 4 ((4 * (ba.toNatClampNeg)) + (pa.toNatClampNeg)) (((4 * (ca.toNatClampNeg)) + (qa.toNatClampNeg)) + 1)) 4 ((4 * (ca.toNatClampNeg)) + (qa.toNatClampNeg)) (((4 * (ba.toNatClampNeg)) + (pa.toNatClampNeg)) + 1)) ((4 * (ba.toNatClampNeg)) + (pa.toNatClampNeg))) ((4 * (ca.toNatClampNeg)) + (qa.toNatClampNeg))) (ba.toNatClampNeg) (by omega) _) (bn_goodV k_829 k_831 ks_Mo_compute k_7 k_832) rfl rfl (by decide) ⟨by decide, by decide⟩ rfl rfl (Nat.le_of_ble_eq_true rfl) d_Mo_link_113 ⟨Nat.zero_le _, Nat.zero_le _⟩) (fun H locs h => ?_)
            have h : bn_H (mo_y D ar ad) s.heap H locs (o_Mo_compute (o_Mo_clear (o_Mo_clear (sU (sU (sI N 41 0 0) 4 ((4 * (ba.toNatClampNeg)) + (pa.toNatClampNeg)) (((4 * (ca.toNatClampNeg)) + (qa.toNatClampNeg)) + 1)) 4 ((4 * (ca.toNatClampNeg)) + (qa.toNatClampNeg)) (((4 * (ba.toNatClampNeg)) + (pa.toNatClampNeg)) + 1)) ((4 * (ba.toNatClampNeg)) + (pa.toNatClampNeg))) ((4 * (ca.toNatClampNeg)) + (qa.toNatClampNeg))) (ba.toNatClampNeg)) := h
            refine lv_aload_n E1 E2 d_Mo_link_116 rfl (lv_at hl 0 rfl) ?_
            refine lv_iload_n E1 E2 d_Mo_link_117 rfl (lv_at hl 3 rfl) ?_
            refine bn_ti hn_ca.1 ?_
            refine bn_callv F h (bn_runV (n := 1) (As := [.int (nI (ca.toNatClampNeg))]) (rest := []) F hml hl.1 h mi_0 rfl rfl (c_Mo_compute l D ar ad (o_Mo_compute (o_Mo_clear (o_Mo_clear (sU (sU (sI N 41 0 0) 4 ((4 * (ba.toNatClampNeg)) + (pa.toNatClampNeg)) (((4 * (ca.toNatClampNeg)) + (qa.toNatClampNeg)) + 1)) 4 ((4 * (ca.toNatClampNeg)) + (qa.toNatClampNeg)) (((4 * (ba.toNatClampNeg)) + (pa.toNatClampNeg)) + 1)) ((4 * (ba.toNatClampNeg)) + (pa.toNatClampNeg))) ((4 * (ca.toNatClampNeg)) + (qa.toNatClampNeg))) (ba.toNatClampNeg)) (ca.toNatClampNeg) (by omega) _) (bn_goodV k_829 k_831 ks_Mo_compute k_7 k_832) rfl rfl (by decide) ⟨by decide, by decide⟩ rfl rfl (Nat.le_of_ble_eq_true rfl) d_Mo_link_118 ⟨Nat.zero_le _, Nat.zero_le _⟩) (fun H locs h => ?_)
            have h : bn_H (mo_y D ar ad) s.heap H locs (o_Mo_compute (o_Mo_compute (o_Mo_clear (o_Mo_clear (sU (sU (sI N 41 0 0) 4 ((4 * (ba.toNatClampNeg)) + (pa.toNatClampNeg)) (((4 * (ca.toNatClampNeg)) + (qa.toNatClampNeg)) + 1)) 4 ((4 * (ca.toNatClampNeg)) + (qa.toNatClampNeg)) (((4 * (ba.toNatClampNeg)) + (pa.toNatClampNeg)) + 1)) ((4 * (ba.toNatClampNeg)) + (pa.toNatClampNeg))) ((4 * (ca.toNatClampNeg)) + (qa.toNatClampNeg))) (ba.toNatClampNeg)) (ca.toNatClampNeg)) := h
            refine lv_iconst (v := 1) E1 E2 d_Mo_link_121 (by decide) ?_
            have hq : o_Mo_link N ba pa ca qa = (1, (o_Mo_compute (o_Mo_compute (o_Mo_clear (o_Mo_clear (sU (sU (sI N 41 0 0) 4 ((4 * (ba.toNatClampNeg)) + (pa.toNatClampNeg)) (((4 * (ca.toNatClampNeg)) + (qa.toNatClampNeg)) + 1)) 4 ((4 * (ca.toNatClampNeg)) + (qa.toNatClampNeg)) (((4 * (ba.toNatClampNeg)) + (pa.toNatClampNeg)) + 1)) ((4 * (ba.toNatClampNeg)) + (pa.toNatClampNeg))) ((4 * (ca.toNatClampNeg)) + (qa.toNatClampNeg))) (ba.toNatClampNeg)) (ca.toNatClampNeg))) := Eq.trans (if_neg h1) (Eq.trans (if_neg h2) (Eq.trans (if_neg h3) (Eq.trans (if_pos h4) (if_pos h5))))
            exact bn_retz2 F hr rfl hk h hq d_Mo_link_122
          · have h5 : ¬ ((N.2.1 4 ((4 * (ca.toNatClampNeg)) + (qa.toNatClampNeg))) = 0) := (fun hw => h5 ((nI_eq (a := N.2.1 4 ((4 * (ca.toNatClampNeg)) + (qa.toNatClampNeg))) (b := 0) (by omega) (by omega)).mpr hw))
            refine lv_iconst (v := 0) E1 E2 d_Mo_link_54 (by decide) ?_
            have hq : o_Mo_link N ba pa ca qa = (0, (sI N 41 0 0)) := Eq.trans (if_neg h1) (Eq.trans (if_neg h2) (Eq.trans (if_neg h3) (Eq.trans (if_pos h4) (if_neg h5))))
            exact bn_retz2 F hr rfl hk h hq d_Mo_link_55
def o_Mo_cut (N : bn_S) (ba : Int32) (pa : Int32) : Int32 × bn_S := (if r_Mo_isPort (sI N 41 0 0) ba pa = 0 then (0, (sI N 41 0 0)) else (if r_Mo_isLinked (sI N 41 0 0) ((4 * (ba.toNatClampNeg)) + (pa.toNatClampNeg)) = 0 then (0, (sI N 41 0 0)) else (1, (o_Mo_compute (o_Mo_compute (o_Mo_clear (o_Mo_clear (sU (sU (sI N 41 0 0) 4 ((4 * (ba.toNatClampNeg)) + (pa.toNatClampNeg)) 0) 4 ((N.2.1 4 ((4 * (ba.toNatClampNeg)) + (pa.toNatClampNeg))) - 1) 0) ((4 * (ba.toNatClampNeg)) + (pa.toNatClampNeg))) ((N.2.1 4 ((4 * (ba.toNatClampNeg)) + (pa.toNatClampNeg))) - 1)) (ba.toNatClampNeg)) (((N.2.1 4 ((4 * (ba.toNatClampNeg)) + (pa.toNatClampNeg))) - 1) / 4)))))
set_option maxHeartbeats 4000000 in
set_option maxRecDepth 100000 in
theorem c_Mo_cut (l : Launch) (D : va_G) (ar : Nat → ClassId) (ad : Nat → Nat → Nat) (N : bn_S)  (ba : Int32) (pa : Int32) : bn_I l y_Mo_cut w_Mo_cut { frames := 5, cells := 0, slots := 0, locals := 120 } (mo_y D ar ad) N [.ref (ad 0 0), .int ba, .int pa] (o_Mo_cut N ba pa).1 (o_Mo_cut N ba pa).2 := by
  intro sz
  refine bn_start (cc := b_Mo_cut) (maxL := 5) (ret := (Option.some Jvm.ClassFile.FieldType.boolean)) (by decide) rfl (Nat.le_of_ble_eq_true rfl) ?_
  intro p e s m args below meth c ls hsz F hml hr hk hl h
  subst hsz
  have E1 := F.1
  have E2 := F.2.1
  have hl : lv_has ls 5 [(0, .ref (ad 0 0)), (1, .int ba), (2, .int pa)] := hl
  refine lv_aload_n E1 E2 d_Mo_cut_0 rfl (lv_at hl 0 rfl) ?_
  refine lv_iconst (v := 0) E1 E2 d_Mo_cut_1 (by decide) ?_
  refine p_Mo_thrown F h k_701 d_Mo_cut_2 (fun H locs h => ?_)
  have h : bn_H (mo_y D ar ad) s.heap H locs (sI N 41 0 0) := h
  refine lv_iload_n E1 E2 d_Mo_cut_5 rfl (lv_at hl 1 rfl) ?_
  refine lv_iload_n E1 E2 d_Mo_cut_6 rfl (lv_at hl 2 rfl) ?_
  refine bn_calli F h (bn_runS (n := 2) (As := [.int ba, .int pa]) (rest := []) F hml hl.1 h (c_Mo_isPort l D ar ad (sI N 41 0 0) ba pa _) (bn_goodS k_807 k_808 k_7 k_809) rfl rfl (by decide) ⟨by decide, by decide⟩ rfl rfl (Nat.le_of_ble_eq_true rfl) d_Mo_cut_7 ⟨Nat.zero_le _, Nat.zero_le _⟩) (fun H locs h => ?_)
  refine lv_if_eq E1 E2 d_Mo_cut_10 rfl (fun h1 => ?_) (fun h1 => ?_)
  · have h1 : r_Mo_isPort (sI N 41 0 0) ba pa = 0 := h1
    refine lv_iconst (v := 0) E1 E2 d_Mo_cut_25 (by decide) ?_
    have hq : o_Mo_cut N ba pa = (0, (sI N 41 0 0)) := if_pos h1
    exact bn_retz2 F hr rfl hk h hq d_Mo_cut_26
  · have h1 : ¬ (r_Mo_isPort (sI N 41 0 0) ba pa = 0) := h1
    refine lv_aload_n E1 E2 d_Mo_cut_13 rfl (lv_at hl 0 rfl) ?_
    refine lv_iconst (v := 4) E1 E2 d_Mo_cut_14 (by decide) ?_
    refine lv_iload_n E1 E2 d_Mo_cut_15 rfl (lv_at hl 1 rfl) ?_
    have hn_ba := bn_isPb h1
    have hn_ba2 := hn_ba.2
    refine bn_ti hn_ba.1 ?_
    refine lv_imul E1 E2 d_Mo_cut_16 ?_
    refine bn_ti (y := nI (4 * (ba.toNatClampNeg))) (pk_mul 4 (ba.toNatClampNeg)) ?_
    refine lv_iload_n E1 E2 d_Mo_cut_17 rfl (lv_at hl 2 rfl) ?_
    have hn_pa := bn_isPp h1
    have hn_pa2 := hn_pa.2
    refine bn_ti hn_pa.1 ?_
    refine lv_iadd E1 E2 d_Mo_cut_18 ?_
    refine bn_ti (y := nI ((4 * (ba.toNatClampNeg)) + (pa.toNatClampNeg))) (nI_add (4 * (ba.toNatClampNeg)) (pa.toNatClampNeg)) ?_
    refine bn_calli F h (bn_runV (n := 1) (As := [.int (nI ((4 * (ba.toNatClampNeg)) + (pa.toNatClampNeg)))]) (rest := []) F hml hl.1 h mi_0 rfl rfl (c_Mo_isLinked l D ar ad (sI N 41 0 0) ((4 * (ba.toNatClampNeg)) + (pa.toNatClampNeg)) (by omega) _) (bn_goodV k_864 k_866 ks_Mo_isLinked k_7 k_867) rfl rfl (by decide) ⟨by decide, by decide⟩ rfl rfl (Nat.le_of_ble_eq_true rfl) d_Mo_cut_19 ⟨Nat.zero_le _, Nat.zero_le _⟩) (fun H locs h => ?_)
    refine lv_if_ne E1 E2 d_Mo_cut_22 rfl (fun h2 => ?_) (fun h2 => ?_)
    · have h2 : ¬ (r_Mo_isLinked (sI N 41 0 0) ((4 * (ba.toNatClampNeg)) + (pa.toNatClampNeg)) = 0) := h2
      refine lv_iconst (v := 4) E1 E2 d_Mo_cut_27 (by decide) ?_
      refine lv_iload_n E1 E2 d_Mo_cut_28 rfl (lv_at hl 1 rfl) ?_
      refine bn_ti hn_ba.1 ?_
      refine lv_imul E1 E2 d_Mo_cut_29 ?_
      refine bn_ti (y := nI (4 * (ba.toNatClampNeg))) (pk_mul 4 (ba.toNatClampNeg)) ?_
      refine lv_iload_n E1 E2 d_Mo_cut_30 rfl (lv_at hl 2 rfl) ?_
      refine bn_ti hn_pa.1 ?_
      refine lv_iadd E1 E2 d_Mo_cut_31 ?_
      refine bn_ti (y := nI ((4 * (ba.toNatClampNeg)) + (pa.toNatClampNeg))) (nI_add (4 * (ba.toNatClampNeg)) (pa.toNatClampNeg)) ?_
      refine lv_istore_n E1 E2 d_Mo_cut_32 rfl hl (by decide) rfl (fun ls hl => ?_)
      have hl : lv_has ls 5 [(3, .int (nI ((4 * (ba.toNatClampNeg)) + (pa.toNatClampNeg)))), (0, .ref (ad 0 0)), (1, .int ba), (2, .int pa)] := hl
      refine lv_aload_n E1 E2 d_Mo_cut_33 rfl (lv_at hl 1 rfl) ?_
      refine g_Mo_joined F h k_706 d_Mo_cut_34 ?_
      refine lv_iload_n E1 E2 d_Mo_cut_37 rfl (lv_at hl 0 rfl) ?_
      refine ml_joined F h (i := (4 * (ba.toNatClampNeg)) + (pa.toNatClampNeg)) (by omega) (v := N.2.1 4 ((4 * (ba.toNatClampNeg)) + (pa.toNatClampNeg))) rfl d_Mo_cut_38 ?_
      refine lv_iconst (v := 1) E1 E2 d_Mo_cut_39 (by decide) ?_
      refine lv_isub E1 E2 d_Mo_cut_40 ?_
      have hlk : 1 ≤ N.2.1 4 ((4 * (ba.toNatClampNeg)) + (pa.toNatClampNeg)) ∧ N.2.1 4 ((4 * (ba.toNatClampNeg)) + (pa.toNatClampNeg)) ≤ 20 := mo_lk (h.2.2.2.2.1 ((4 * (ba.toNatClampNeg)) + (pa.toNatClampNeg))) h2
      have hwjoined : N.2.1 4 ((4 * (ba.toNatClampNeg)) + (pa.toNatClampNeg)) < 108 := mw_joined h.2.2.2 ((4 * (ba.toNatClampNeg)) + (pa.toNatClampNeg))
      refine bn_ti (y := nI ((N.2.1 4 ((4 * (ba.toNatClampNeg)) + (pa.toNatClampNeg))) - 1)) (pk_sub (a := (N.2.1 4 ((4 * (ba.toNatClampNeg)) + (pa.toNatClampNeg)))) (b := 1) (by omega)) ?_
      refine lv_istore E1 E2 d_Mo_cut_41 hl (by decide) rfl (fun ls hl => ?_)
      have hl : lv_has ls 5 [(4, .int (nI ((N.2.1 4 ((4 * (ba.toNatClampNeg)) + (pa.toNatClampNeg))) - 1))), (3, .int (nI ((4 * (ba.toNatClampNeg)) + (pa.toNatClampNeg)))), (0, .ref (ad 0 0)), (1, .int ba), (2, .int pa)] := hl
      refine lv_aload_n E1 E2 d_Mo_cut_43 rfl (lv_at hl 2 rfl) ?_
      refine g_Mo_joined F h k_706 d_Mo_cut_44 ?_
      refine lv_iload_n E1 E2 d_Mo_cut_47 rfl (lv_at hl 1 rfl) ?_
      refine lv_iconst (v := 0) E1 E2 d_Mo_cut_48 (by decide) ?_
      refine ms_joined F h (i := (4 * (ba.toNatClampNeg)) + (pa.toNatClampNeg)) (by omega) (v := 0) (by omega) (by omega) d_Mo_cut_49 (fun H locs h => ?_)
      have h : bn_H (mo_y D ar ad) s.heap H locs (sU (sI N 41 0 0) 4 ((4 * (ba.toNatClampNeg)) + (pa.toNatClampNeg)) 0) := h
      refine lv_aload_n E1 E2 d_Mo_cut_50 rfl (lv_at hl 2 rfl) ?_
      refine g_Mo_joined F h k_706 d_Mo_cut_51 ?_
      refine lv_iload E1 E2 d_Mo_cut_54 (lv_at hl 0 rfl) ?_
      refine lv_iconst (v := 0) E1 E2 d_Mo_cut_56 (by decide) ?_
      refine ms_joined F h (i := (N.2.1 4 ((4 * (ba.toNatClampNeg)) + (pa.toNatClampNeg))) - 1) (by omega) (v := 0) (by omega) (by omega) d_Mo_cut_57 (fun H locs h => ?_)
      have h : bn_H (mo_y D ar ad) s.heap H locs (sU (sU (sI N 41 0 0) 4 ((4 * (ba.toNatClampNeg)) + (pa.toNatClampNeg)) 0) 4 ((N.2.1 4 ((4 * (ba.toNatClampNeg)) + (pa.toNatClampNeg))) - 1) 0) := h
      refine lv_aload_n E1 E2 d_Mo_cut_58 rfl (lv_at hl 2 rfl) ?_
      refine lv_iload_n E1 E2 d_Mo_cut_59 rfl (lv_at hl 1 rfl) ?_
      refine bn_callv F h (bn_runV (n := 1) (As := [.int (nI ((4 * (ba.toNatClampNeg)) + (pa.toNatClampNeg)))]) (rest := []) F hml hl.1 h mi_0 rfl rfl (c_Mo_clear l D ar ad (sU (sU (sI N 41 0 0) 4 ((4 * (ba.toNatClampNeg)) + (pa.toNatClampNeg)) 0) 4 ((N.2.1 4 ((4 * (ba.toNatClampNeg)) + (pa.toNatClampNeg))) - 1) 0) ((4 * (ba.toNatClampNeg)) + (pa.toNatClampNeg)) (by omega) _) (bn_goodV k_925 k_927 ks_Mo_clear k_7 k_928) rfl rfl (by decide) ⟨by decide, by decide⟩ rfl rfl (Nat.le_of_ble_eq_true rfl) d_Mo_cut_60 ⟨Nat.zero_le _, Nat.zero_le _⟩) (fun H locs h => ?_)
      have h : bn_H (mo_y D ar ad) s.heap H locs (o_Mo_clear (sU (sU (sI N 41 0 0) 4 ((4 * (ba.toNatClampNeg)) + (pa.toNatClampNeg)) 0) 4 ((N.2.1 4 ((4 * (ba.toNatClampNeg)) + (pa.toNatClampNeg))) - 1) 0) ((4 * (ba.toNatClampNeg)) + (pa.toNatClampNeg))) := h
      refine lv_aload_n E1 E2 d_Mo_cut_63 rfl (lv_at hl 2 rfl) ?_
      refine lv_iload E1 E2 d_Mo_cut_64 (lv_at hl 0 rfl) ?_
      refine bn_callv F h (bn_runV (n := 1) (As := [.int (nI ((N.2.1 4 ((4 * (ba.toNatClampNeg)) + (pa.toNatClampNeg))) - 1))]) (rest := []) F hml hl.1 h mi_0 rfl rfl (c_Mo_clear l D ar ad (o_Mo_clear (sU (sU (sI N 41 0 0) 4 ((4 * (ba.toNatClampNeg)) + (pa.toNatClampNeg)) 0) 4 ((N.2.1 4 ((4 * (ba.toNatClampNeg)) + (pa.toNatClampNeg))) - 1) 0) ((4 * (ba.toNatClampNeg)) + (pa.toNatClampNeg))) ((N.2.1 4 ((4 * (ba.toNatClampNeg)) + (pa.toNatClampNeg))) - 1) (by omega) _) (bn_goodV k_925 k_927 ks_Mo_clear k_7 k_928) rfl rfl (by decide) ⟨by decide, by decide⟩ rfl rfl (Nat.le_of_ble_eq_true rfl) d_Mo_cut_66 ⟨Nat.zero_le _, Nat.zero_le _⟩) (fun H locs h => ?_)
      have h : bn_H (mo_y D ar ad) s.heap H locs (o_Mo_clear (o_Mo_clear (sU (sU (sI N 41 0 0) 4 ((4 * (ba.toNatClampNeg)) + (pa.toNatClampNeg)) 0) 4 ((N.2.1 4 ((4 * (ba.toNatClampNeg)) + (pa.toNatClampNeg))) - 1) 0) ((4 * (ba.toNatClampNeg)) + (pa.toNatClampNeg))) ((N.2.1 4 ((4 * (ba.toNatClampNeg)) + (pa.toNatClampNeg))) - 1)) := h
      refine lv_aload_n E1 E2 d_Mo_cut_69 rfl (lv_at hl 2 rfl) ?_
      refine lv_iload_n E1 E2 d_Mo_cut_70 rfl (lv_at hl 3 rfl) ?_
      refine bn_ti hn_ba.1 ?_
      refine bn_callv F h (bn_runV (n := 1) (As := [.int (nI (ba.toNatClampNeg))]) (rest := []) F hml hl.1 h mi_0 rfl rfl (c_Mo_compute l D ar ad (o_Mo_clear (o_Mo_clear (sU (sU (sI N 41 0 0) 4 ((4 * (ba.toNatClampNeg)) + (pa.toNatClampNeg)) 0) 4 ((N.2.1 4 ((4 * (ba.toNatClampNeg)) + (pa.toNatClampNeg))) - 1) 0) ((4 * (ba.toNatClampNeg)) + (pa.toNatClampNeg))) ((N.2.1 4 ((4 * (ba.toNatClampNeg)) + (pa.toNatClampNeg))) - 1)) (ba.toNatClampNeg) (by omega) _) (bn_goodV k_829 k_831 ks_Mo_compute k_7 k_832) rfl rfl (by decide) ⟨by decide, by decide⟩ rfl rfl (Nat.le_of_ble_eq_true rfl) d_Mo_cut_71 ⟨Nat.zero_le _, Nat.zero_le _⟩) (fun H locs h => ?_)
      have h : bn_H (mo_y D ar ad) s.heap H locs (o_Mo_compute (o_Mo_clear (o_Mo_clear (sU (sU (sI N 41 0 0) 4 ((4 * (ba.toNatClampNeg)) + (pa.toNatClampNeg)) 0) 4 ((N.2.1 4 ((4 * (ba.toNatClampNeg)) + (pa.toNatClampNeg))) - 1) 0) ((4 * (ba.toNatClampNeg)) + (pa.toNatClampNeg))) ((N.2.1 4 ((4 * (ba.toNatClampNeg)) + (pa.toNatClampNeg))) - 1)) (ba.toNatClampNeg)) := h
      refine lv_aload_n E1 E2 d_Mo_cut_74 rfl (lv_at hl 2 rfl) ?_
      refine lv_iload E1 E2 d_Mo_cut_75 (lv_at hl 0 rfl) ?_
      refine lv_iconst (v := 4) E1 E2 d_Mo_cut_77 (by decide) ?_
      refine lv_idiv E1 E2 d_Mo_cut_78 (by decide) ?_
      refine bn_ti (y := nI (((N.2.1 4 ((4 * (ba.toNatClampNeg)) + (pa.toNatClampNeg))) - 1) / 4)) (pk_div (a := ((N.2.1 4 ((4 * (ba.toNatClampNeg)) + (pa.toNatClampNeg))) - 1)) (d := 4) (by omega) (by omega) (by omega)) ?_
      refine bn_callv F h (bn_runV (n := 1) (As := [.int (nI (((N.2.1 4 ((4 * (ba.toNatClampNeg)) + (pa.toNatClampNeg))) - 1) / 4))]) (rest := []) F hml hl.1 h mi_0 rfl rfl (c_Mo_compute l D ar ad (o_Mo_compute (o_Mo_clear (o_Mo_clear (sU (sU (sI N 41 0 0) 4 ((4 * (ba.toNatClampNeg)) + (pa.toNatClampNeg)) 0) 4 ((N.2.1 4 ((4 * (ba.toNatClampNeg)) + (pa.toNatClampNeg))) - 1) 0) ((4 * (ba.toNatClampNeg)) + (pa.toNatClampNeg))) ((N.2.1 4 ((4 * (ba.toNatClampNeg)) + (pa.toNatClampNeg))) - 1)) (ba.toNatClampNeg)) (((N.2.1 4 ((4 * (ba.toNatClampNeg)) + (pa.toNatClampNeg))) - 1) / 4) (by omega) _) (bn_goodV k_829 k_831 ks_Mo_compute k_7 k_832) rfl rfl (by decide) ⟨by decide, by decide⟩ rfl rfl (Nat.le_of_ble_eq_true rfl) d_Mo_cut_79 ⟨Nat.zero_le _, Nat.zero_le _⟩) (fun H locs h => ?_)
      have h : bn_H (mo_y D ar ad) s.heap H locs (o_Mo_compute (o_Mo_compute (o_Mo_clear (o_Mo_clear (sU (sU (sI N 41 0 0) 4 ((4 * (ba.toNatClampNeg)) + (pa.toNatClampNeg)) 0) 4 ((N.2.1 4 ((4 * (ba.toNatClampNeg)) + (pa.toNatClampNeg))) - 1) 0) ((4 * (ba.toNatClampNeg)) + (pa.toNatClampNeg))) ((N.2.1 4 ((4 * (ba.toNatClampNeg)) + (pa.toNatClampNeg))) - 1)) (ba.toNatClampNeg)) (((N.2.1 4 ((4 * (ba.toNatClampNeg)) + (pa.toNatClampNeg))) - 1) / 4)) := h
      refine lv_iconst (v := 1) E1 E2 d_Mo_cut_82 (by decide) ?_
      have hq : o_Mo_cut N ba pa = (1, (o_Mo_compute (o_Mo_compute (o_Mo_clear (o_Mo_clear (sU (sU (sI N 41 0 0) 4 ((4 * (ba.toNatClampNeg)) + (pa.toNatClampNeg)) 0) 4 ((N.2.1 4 ((4 * (ba.toNatClampNeg)) + (pa.toNatClampNeg))) - 1) 0) ((4 * (ba.toNatClampNeg)) + (pa.toNatClampNeg))) ((N.2.1 4 ((4 * (ba.toNatClampNeg)) + (pa.toNatClampNeg))) - 1)) (ba.toNatClampNeg)) (((N.2.1 4 ((4 * (ba.toNatClampNeg)) + (pa.toNatClampNeg))) - 1) / 4))) := Eq.trans (if_neg h1) (if_neg h2)
      exact bn_retz2 F hr rfl hk h hq d_Mo_cut_83
    · have h2 : r_Mo_isLinked (sI N 41 0 0) ((4 * (ba.toNatClampNeg)) + (pa.toNatClampNeg)) = 0 := h2
      refine lv_iconst (v := 0) E1 E2 d_Mo_cut_25 (by decide) ?_
      have hq : o_Mo_cut N ba pa = (0, (sI N 41 0 0)) := Eq.trans (if_neg h1) (if_pos h2)
      exact bn_retz2 F hr rfl hk h hq d_Mo_cut_26
