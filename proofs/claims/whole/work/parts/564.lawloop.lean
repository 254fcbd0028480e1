/-! the law's loop: written by wip/whole/gen_lawloop.py -/
theorem lw_and (a : Int32) : ∃ k : Nat, k < 16 ∧ a &&& 15 = nI k := by
  have h1 : a = nI a.toBitVec.toNat := by
    apply Int32.toBitVec_inj.mp
    rw [rl_bv32]
    simp
  refine ⟨a.toBitVec.toNat % 2 ^ 4, by omega, ?_⟩
  rw [← rl_and32, ← h1]
  rfl
theorem lw_sub5 {L : Nat} (h : L ≤ 2560) : (nI L - 5).toInt = (L : Int) - 5 := by
  rw [Int32.toInt_sub, nI_toInt (by omega)]
  have h5 : (5 : Int32).toInt = 5 := rfl
  rw [h5, Int.bmod_def]
  split <;> omega
section LWP
variable {p : Program} {l : Launch} {e : Env} {s : State} {m : MethodId} {below : List Frame} {meth : Method} {c : Code} {Q : State → Prop} {b L : Nat} {xs : Nat → Int32} {D : va_G} {ar : Nat → ClassId} {ad2 : Nat → Nat → Nat} {r X : Nat}
theorem lw_tail {i cells slots : Nat} (E : lw_E p l s m c b L xs D ar) (kk : lw_K0 p l e s m below meth c Q b D ar ad2 r X (i + 5) cells slots 23) : lw_K0 p l e s m below meth c Q b D ar ad2 r X i cells slots 855 := by
  intro H locs cs ss ls ad nf N M g I hRM hX hl hcs hss
  refine lv_iinc (v := nI (i + 5)) E.1.1 E.1.2.1 d_law_855 hl (k := 0) rfl (nI_add i 5) (by decide) rfl (fun ls hl => ?_)
  refine lv_goto E.1.1 E.1.2.1 d_law_858 rfl ?_
  exact kk H locs cs ss ls ad nf N M g I hRM hX hl hcs hss
set_option maxHeartbeats 4000000 in
theorem lw_loop (E : lw_E p l s m c b L xs D ar) (hr : meth.sig.returnType = ret) (hk : meth.locks = false) (n : Nat) : ∀ i cells slots : Nat, i ≤ 2560 → L < i + 5 * (n + 1) → cells + n ≤ 601024 → slots + 6 * n ≤ 7293034 → lw_K0 p l e s m below meth c (lw_Z below #[Value.ref b] s) b D ar ad2 r X i cells slots 23 := by
  have hrc : room_1.cells = 601024 := rfl
  have hrs : room_1.slots = 7293034 := rfl
  induction n with
  | zero =>
    intro i cells slots hi hLi hc hs H locs cs ss ls ad nf N M g I hRM hX hl hcs hss
    have hL := E.2.2.2.2.2.2
    refine lv_iload E.1.1 E.1.2.1 d_law_23 (lv_at hl 0 rfl) ?_
    refine lv_aload_n E.1.1 E.1.2.1 d_law_25 rfl (lv_at hl 4 rfl) ?_
    refine lw_len E I d_law_26 ?_
    refine lv_iconst (v := 5) E.1.1 E.1.2.1 d_law_27 (by decide) ?_
    refine lv_isub E.1.1 E.1.2.1 d_law_28 ?_
    refine lv_icmp_gt E.1.1 E.1.2.1 d_law_29 rfl (fun _ => ?_) (fun hz => ?_)
    · refine va_forget I.2.2.2.2.2.2 (W.widen (k := 601024) (n := 7293034) (by omega) (by omega) ?_)
      refine lv_iconst (v := 1) E.1.1 E.1.2.1 d_law_861 (by decide) ?_
      exact lw_ret E.1.1 E.1.2.1 hr hk d_law_862
    · exfalso
      apply hz
      rw [Int32.lt_iff_toInt_lt, lw_sub5 hL, nI_toInt (by omega)]
      omega
  | succ n ih =>
    intro i cells slots hi hLi hc hs H locs cs ss ls ad nf N M g I hRM hX hl hcs hss
    have hL := E.2.2.2.2.2.2
    refine lv_iload E.1.1 E.1.2.1 d_law_23 (lv_at hl 0 rfl) ?_
    refine lv_aload_n E.1.1 E.1.2.1 d_law_25 rfl (lv_at hl 4 rfl) ?_
    refine lw_len E I d_law_26 ?_
    refine lv_iconst (v := 5) E.1.1 E.1.2.1 d_law_27 (by decide) ?_
    refine lv_isub E.1.1 E.1.2.1 d_law_28 ?_
    refine lv_icmp_gt E.1.1 E.1.2.1 d_law_29 rfl (fun _ => ?_) (fun hz => ?_)
    · refine va_forget I.2.2.2.2.2.2 (W.widen (k := 601024) (n := 7293034) (by omega) (by omega) ?_)
      refine lv_iconst (v := 1) E.1.1 E.1.2.1 d_law_861 (by decide) ?_
      exact lw_ret E.1.1 E.1.2.1 hr hk d_law_862
    · have hi5 : i + 5 ≤ L := by
        rw [Int32.lt_iff_toInt_lt, lw_sub5 hL, nI_toInt (by omega)] at hz
        omega
      have kk := lw_tail E (ih (i + 5) (cells + 1) (slots + 6) (by omega) (by omega) (by omega) (by omega))
      refine lv_aload_n E.1.1 E.1.2.1 d_law_32 rfl (lv_at hl 4 rfl) ?_
      refine lv_iload E.1.1 E.1.2.1 d_law_33 (lv_at hl 0 rfl) ?_
      refine lw_ld E I (by omega) d_law_35 ?_
      refine lv_bipush (v := 15) E.1.1 E.1.2.1 d_law_36 (by decide) ?_
      refine lv_iand E.1.1 E.1.2.1 d_law_38 ?_
      obtain ⟨k, hk16, hke⟩ := lw_and (xs i)
      refine bn_ti hke ?_
      have hk' : k = 0 ∨ k = 1 ∨ k = 2 ∨ k = 3 ∨ k = 4 ∨ k = 5 ∨ k = 6 ∨ k = 7 ∨ k = 8 ∨ k = 9 ∨ k = 10 ∨ k = 11 ∨ k = 12 ∨ k = 13 ∨ k = 14 ∨ k = 15 := by omega
      rcases hk' with rfl | rfl | rfl | rfl | rfl | rfl | rfl | rfl | rfl | rfl | rfl | rfl | rfl | rfl | rfl | rfl
      · exact lv_tableIn (off := 77) (tgt := 116) E.1.1 E.1.2.1 d_law_39 (by decide) (by decide) (by decide) rfl (lw_c0 E hi5 (by omega) (by omega) kk H locs cs ss ls ad nf N M g I hRM hX hl hcs hss)
      · exact lv_tableIn (off := 114) (tgt := 153) E.1.1 E.1.2.1 d_law_39 (by decide) (by decide) (by decide) rfl (lw_c1 E hi5 (by omega) (by omega) kk H locs cs ss ls ad nf N M g I hRM hX hl hcs hss)
      · exact lv_tableIn (off := 175) (tgt := 214) E.1.1 E.1.2.1 d_law_39 (by decide) (by decide) (by decide) rfl (lw_c2 E hi5 (by omega) (by omega) kk H locs cs ss ls ad nf N M g I hRM hX hl hcs hss)
      · exact lv_tableIn (off := 236) (tgt := 275) E.1.1 E.1.2.1 d_law_39 (by decide) (by decide) (by decide) rfl (lw_c3 E hi5 (by omega) (by omega) kk H locs cs ss ls ad nf N M g I hRM hX hl hcs hss)
      · exact lv_tableIn (off := 273) (tgt := 312) E.1.1 E.1.2.1 d_law_39 (by decide) (by decide) (by decide) rfl (lw_c4 E hi5 (by omega) (by omega) kk H locs cs ss ls ad nf N M g I hRM hX hl hcs hss)
      · exact lv_tableIn (off := 345) (tgt := 384) E.1.1 E.1.2.1 d_law_39 (by decide) (by decide) (by decide) rfl (lw_c5 E hi5 (by omega) (by omega) kk H locs cs ss ls ad nf N M g I hRM hX hl hcs hss)
      · exact lv_tableIn (off := 425) (tgt := 464) E.1.1 E.1.2.1 d_law_39 (by decide) (by decide) (by decide) rfl (lw_c6 E hi5 (by omega) (by omega) kk H locs cs ss ls ad nf N M g I hRM hX hl hcs hss)
      · exact lv_tableIn (off := 493) (tgt := 532) E.1.1 E.1.2.1 d_law_39 (by decide) (by decide) (by decide) rfl (lw_c7 E hi5 (by omega) (by omega) kk H locs cs ss ls ad nf N M g I hRM hX hl hcs hss)
      · exact lv_tableIn (off := 530) (tgt := 569) E.1.1 E.1.2.1 d_law_39 (by decide) (by decide) (by decide) rfl (lw_c8 E hi5 (by omega) (by omega) kk H locs cs ss ls ad nf N M g I hRM hX hl hcs hss)
      · exact lv_tableIn (off := 541) (tgt := 580) E.1.1 E.1.2.1 d_law_39 (by decide) (by decide) (by decide) rfl (lw_c9 E hi5 (by omega) (by omega) kk H locs cs ss ls ad nf N M g I hRM hX hl hcs hss)
      · exact lv_tableIn (off := 578) (tgt := 617) E.1.1 E.1.2.1 d_law_39 (by decide) (by decide) (by decide) rfl (lw_c10 E hi5 (by omega) (by omega) kk H locs cs ss ls ad nf N M g I hRM hX hl hcs hss)
      · exact lv_tableIn (off := 604) (tgt := 643) E.1.1 E.1.2.1 d_law_39 (by decide) (by decide) (by decide) rfl (lw_c11 E hi5 (by omega) (by omega) kk H locs cs ss ls ad nf N M g I hRM hX hl hcs hss)
      · exact lv_tableIn (off := 642) (tgt := 681) E.1.1 E.1.2.1 d_law_39 (by decide) (by decide) (by decide) rfl (lw_c12 E hi5 (by omega) (by omega) kk H locs cs ss ls ad nf N M g I hRM hX hl hcs hss)
      · exact lv_tableIn (off := 691) (tgt := 730) E.1.1 E.1.2.1 d_law_39 (by decide) (by decide) (by decide) rfl (lw_c13 E hi5 (by omega) (by omega) kk H locs cs ss ls ad nf N M g I hRM hX hl hcs hss)
      · exact lv_tableIn (off := 729) (tgt := 768) E.1.1 E.1.2.1 d_law_39 (by decide) (by decide) (by decide) rfl (lw_c14 E hi5 (by omega) (by omega) kk H locs cs ss ls ad nf N M g I hRM hX hl hcs hss)
      · exact lv_tableIn (off := 766) (tgt := 805) E.1.1 E.1.2.1 d_law_39 (by decide) (by decide) (by decide) rfl (lw_c15 E hi5 (by omega) (by omega) kk H locs cs ss ls ad nf N M g I hRM hX hl hcs hss)
end LWP
