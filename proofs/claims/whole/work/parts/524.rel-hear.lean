/-! relation of the two states (524.rel-hear): written by wip/whole/rel -/
theorem rl_tell_role (M : bn_S) (x : Nat) : (o_Mo_tell M x).1 5 = M.1 5 := by
  unfold o_Mo_tell o_Mo_post
  split <;> split <;> rfl
theorem rr_agree_loop {nf x0 : Nat} {N0 M0 N M : bn_S} (h : RR nf x0 N0 M0 N M) {x : Nat} (hx : x < 20) (hb : x / 4 < 5) (h0 : x0 / 4 = x / 4 ∨ 20 ≤ x0) (hr : M.1 5 x = 1) (k : Nat) (hk : k ≤ 4) : RR nf x0 N0 M0 (it_Br_proposeOnOthers (x / 4) x N k) (it_Mo_agree x M k) ∧ (it_Mo_agree x M k).1 5 = M.1 5 := by
  induction k with
  | zero => exact ⟨h, rfl⟩
  | succ k ih =>
    obtain ⟨hR, hr5⟩ := ih (by omega)
    show RR nf x0 N0 M0 (bd_Br_proposeOnOthers (x / 4) x k (it_Br_proposeOnOthers (x / 4) x N k)) (bd_Mo_agree x k (it_Mo_agree x M k)) ∧ (bd_Mo_agree x k (it_Mo_agree x M k)).1 5 = M.1 5
    generalize it_Br_proposeOnOthers (x / 4) x N k = q at hR ⊢
    generalize it_Mo_agree x M k = m at hR hr5 ⊢
    have hz : 4 * (x / 4) + k < 20 := by omega
    have hl := rl_ld hR hz
    unfold bd_Br_proposeOnOthers bd_Mo_agree
    rw [if_pos (show m.1 5 x = 1 from by rw [hr5]; exact hr)]
    by_cases e : 4 * (x / 4) + k = x
    · rw [if_pos e, if_pos e]
      exact ⟨hR, hr5⟩
    · rw [if_neg e, if_neg e]
      by_cases e2 : 1 ≤ m.2.1 4 (4 * (x / 4) + k) ∧ m.2.1 4 (4 * (x / 4) + k) < 100 ∧ m.1 5 (4 * (x / 4) + k) = 2
      · rw [if_neg (show ¬ r_Po_isLinkedDesignated q (4 * (x / 4) + k) = 0 from by rw [hl]; exact fun a => a e2), if_neg (rl_lk1 e2.1 e2.2.1), if_pos e2.2.2]
        unfold o_Po_proposeUnlessAgreed
        rw [hR.agr _ hz]
        by_cases ea : m.2.1 8 (4 * (x / 4) + k) = 0
        · rw [if_pos ea, if_pos ea, if_neg (show ¬ (1 : Int32) = 0 from by decide)]
          refine ⟨?_, ?_⟩
          · exact rr_tell (rr_propose hR hz) hz (by omega) e2.1 e2.2.1 (by omega)
          · rw [rl_tell_role, ← hr5]
            rfl
        · rw [if_neg ea, if_neg ea, if_pos rfl]
          exact ⟨hR, hr5⟩
      · rw [if_pos (show r_Po_isLinkedDesignated q (4 * (x / 4) + k) = 0 from by rw [hl]; exact e2)]
        by_cases e3 : r_Mo_isLinked m (4 * (x / 4) + k) = 0
        · rw [if_pos e3]
          exact ⟨hR, hr5⟩
        · rw [if_neg e3, if_neg (fun a => e2 (by rw [rl_lk] at e3; exact ⟨by omega, by omega, a⟩))]
          exact ⟨hR, hr5⟩
theorem rl_agree_no {M : bn_S} {x : Nat} (hr : ¬ M.1 5 x = 1) (k : Nat) : it_Mo_agree x M k = M := by
  induction k with
  | zero => rfl
  | succ k ih =>
    show bd_Mo_agree x k (it_Mo_agree x M k) = M
    rw [ih]
    unfold bd_Mo_agree
    rw [if_neg hr]
theorem rr_putAgree {nf x0 : Nat} {N0 M0 N M : bn_S} (h : RR nf x0 N0 M0 N M) {x : Nat} (hx : x < 20) (h1 : 1 ≤ M.2.1 4 x) (h2 : M.2.1 4 x < 100) (h0 : x0 / 4 = x / 4 ∨ 20 ≤ x0) : RR nf x0 N0 M0 (o_Li_putAgree N (M.2.1 4 x - 1) (N.1 2 (x / 4))) (if (o_Mo_post M x 2).1 < 0 then (o_Mo_post M x 2).2 else (sJ ((o_Mo_post M x 2).2) 15 (((o_Mo_post M x 2).1).toNatClampNeg) (Int32.toInt64 (r_Mo_rootOf ((o_Mo_post M x 2).2) (((o_Mo_post M x 2).2).2.2.1 22 (x / 4)))))) := by
  obtain ⟨hy, hy0⟩ := rl_y h hx h1 h2 h0
  obtain ⟨r, c, g, p, n, hr, hg, hp, hc, hn, e1, e2, e3, e4, e5⟩ := h.best (x / 4) (by omega)
  unfold o_Li_putAgree o_Li_put
  rw [h.cnt _ hy, e1]
  by_cases hf : M.2.1 13 (M.2.1 4 x - 1) = 12
  · rw [rl_post_full 2 hf, if_pos (show (-1 : Int32) < 0 from by decide)]
    simp only [bn_oc]
    rw [if_pos hf]
    exact h
  · have hcb := h.cnb _ hy
    rw [rl_post_ok 2 hf, if_neg (rl_nneg (by omega)), nI_clamp (by omega)]
    have e6 : (sU (sI M 14 (12 * (M.2.1 4 x - 1) + M.2.1 13 (M.2.1 4 x - 1)) 2) 13 (M.2.1 4 x - 1) (M.2.1 13 (M.2.1 4 x - 1) + 1)).2.2.1 22 (x / 4) = rl_w r c g p := e4
    rw [e6, rl_w_root _ hr (by omega) (by omega) (by omega), rl_64 (by omega)]
    simp only [bn_oc]
    rw [if_neg hf]
    exact rr_putA h hy hy0 hf hr
theorem rr_answer {nf x0 : Nat} {N0 M0 N M : bn_S} (h : RR nf x0 N0 M0 N M) {x : Nat} (hx : x < 20) (h0 : x0 / 4 = x / 4 ∨ 20 ≤ x0) : RR nf x0 N0 M0 (o_Br_answerProposal N (x / 4) x) (if M.1 5 x = 1 then o_Mo_agree M x else if M.1 5 x = 3 then o_Mo_agree M x else M) := by
  unfold o_Br_answerProposal
  rw [h.role x hx]
  by_cases e1 : M.1 5 x = 1
  · rw [if_pos e1, if_pos e1]
    obtain ⟨hR, hr5⟩ := rr_agree_loop h hx (by omega) h0 e1 4 (by omega)
    have e1' : (it_Mo_agree x M 4).1 5 x = 1 := by rw [hr5]; exact e1
    obtain ⟨g1, g2⟩ := hR.GG x hx (Or.inl e1')
    unfold o_Mo_agree o_Br_proposeOnOthers
    rw [hR.peer x hx, rl_p_lt g1 g2, hR.role x hx, e1']
    simp only [bn_oc, if_true]
    exact rr_putAgree hR hx g1 g2 h0
  · rw [if_neg e1, if_neg e1]
    by_cases e3 : M.1 5 x = 3
    · obtain ⟨g1, g2⟩ := h.GG x hx (Or.inr e3)
      rw [if_pos e3, h.peer x hx, rl_p_lt g1 g2]
      simp only [bn_oc]
      rw [if_pos e3]
      unfold o_Mo_agree
      rw [rl_agree_no e1 4]
      exact rr_putAgree h hx g1 g2 h0
    · rw [if_neg e3]
      cases N.2.2.2 2 x with
      | none => exact h
      | some y =>
        simp only [bn_oc]
        rw [if_neg e3]
        exact h
theorem rr_hearTell {nf x : Nat} {N M : bn_S} (h : RR nf x N M N M) (hx : x < 20) {i : Nat} (hi : i / 12 = x) (hm : rl_m nf N i M 240) (hk : N.1 12 i = 1) : RR nf x N M (o_Br_hearTell N (x / 4) x i) (o_Mo_toldOn M x) := by
  unfold o_Br_hearTell o_Mo_toldOn
  rcases hm with ⟨k1, k2, k3, k4, r, c, b, p, n, hr, hb, hp, hc, hn, ev, ew, er, eh, eh'⟩ | ⟨k1, _⟩ | ⟨k1, _⟩
  · rw [eh, eh', ev, ew]
    by_cases e6 : nI n < 6
    · have hn5 : n ≤ 5 := by
        rw [Int32.lt_iff_toInt_lt, nI_toInt (by omega)] at e6
        have h6 : (6 : Int32).toInt = 6 := by decide
        omega
      have hC := rr_compute (rr_hold h hx hr hb hp hc hn5) (b := x / 4) (by omega) (Or.inl rfl)
      rw [if_pos e6, if_pos e6, (hC.khN i hi).2, hC.h17, k4]
      by_cases ep : M.2.1 17 240 = 0
      · rw [if_pos ep, if_pos ep]
        exact hC
      · rw [if_neg ep, if_neg ep]
        exact rr_answer hC hx (Or.inl rfl)
    · rw [if_neg e6, if_neg e6]
      exact h
  · rw [hk] at k1; exact absurd k1 (by decide)
  · rw [hk] at k1; exact absurd k1 (by decide)
theorem rr_hearAgree {nf x : Nat} {N M : bn_S} (h : RR nf x N M N M) (hx : x < 20) {i : Nat} (hm : rl_m nf N i M 240) (hk : N.1 12 i = 2) : RR nf x N M (o_Br_hearAgree N (x / 4) x (N.1 13 i)) (o_Mo_agreedOn M x) := by
  unfold o_Br_hearAgree o_Mo_agreedOn
  rcases hm with ⟨k1, _⟩ | ⟨k1, k2, k3, r, hr, er, ew⟩ | ⟨k1, _⟩
  · rw [hk] at k1; exact absurd k1 (by decide)
  · obtain ⟨b1, _, _⟩ := rl_best h (b := x / 4) (by omega) M
    obtain ⟨r', c', g', p', n', hr', hg', hp', hc', hn', e1, e2, e3, e4, e5⟩ := h.best (x / 4) (by omega)
    rw [h.role x hx, h.prop x hx, er, ew, b1, e1, rl_64 (by omega)]
    by_cases e2 : M.1 5 x = 2
    · rw [if_pos e2, if_pos e2]
      by_cases ep : M.2.1 7 x = 0
      · rw [if_pos ep, if_pos ep]; exact h
      · rw [if_neg ep, if_neg ep]
        by_cases er : r = r'
        · rw [if_pos (by rw [er]), if_pos (by rw [er])]
          exact rr_takeAgr h hx (h.G2 x hx e2)
        · rw [if_neg (by rw [rl_nI (by omega) (by omega)]; exact er), if_neg]
          · exact h
          · intro a
            have := congrArg Int64.toInt a
            rw [rl_i64 (by omega), rl_i64 (by omega)] at this
            omega
    · rw [if_neg e2, if_neg e2]; exact h
  · rw [hk] at k1; exact absurd k1 (by decide)
