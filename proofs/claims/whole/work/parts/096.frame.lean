/-! contracts of the class, written by wip/whole/gen_class.py -/
theorem bn_pl {nf : Nat} {N : bn_S} {b sr vl : Nat} (hN : bn_wf nf N) (h : ¬ r_Br_placeOf N b sr vl < 0) : r_Br_placeOf N b sr vl = nI (r_Br_placeOf N b sr vl).toNatClampNeg ∧ (r_Br_placeOf N b sr vl).toNatClampNeg < 4 := by
  have h1 := wf_place hN b (sr * 2 + vl - 1)
  unfold r_Br_placeOf at h ⊢
  split at h
  · exact absurd h (by decide)
  · rename_i h2
    rw [if_neg h2, nI_clamp (by omega)]
    exact ⟨rfl, h1⟩
def o_Br_passTo (N : bn_S) (b : Nat) (pl : Nat) (x : Nat) (f : Nat) : Int32 × bn_S := (if pl = (x % 4) then (0, N) else (if (o_Po_letOut N (4 * b + pl) f).1 = 0 then (0, (o_Po_letOut N (4 * b + pl) f).2) else (1, (o_Po_letOut N (4 * b + pl) f).2)))
set_option maxHeartbeats 4000000 in
set_option maxRecDepth 100000 in
theorem c_Br_passTo (l : Launch) (D : va_G) (ar : Nat → ClassId) (ad : Nat → Nat → Nat) (nf : Nat) (N : bn_S) (b : Nat) (hb : b < 5) (pl : Nat) (hpl : pl < 4) (x : Nat) (hx : x < 20) (f : Nat) (hf : f < nf) : bn_I l y_Br_passTo w_Br_passTo { frames := 3, cells := 0, slots := 0, locals := 66 } (bn_y D ar ad nf) N [.ref (ad 2 b), .int (nI pl), .ref (ad 6 x), .ref (ad 13 f)] (o_Br_passTo N b pl x f).1 (o_Br_passTo N b pl x f).2 := by
  intro sz
  refine bn_start (cc := b_Br_passTo) (maxL := 4) (ret := (Option.some Jvm.ClassFile.FieldType.int)) (by decide) rfl (Nat.le_of_ble_eq_true rfl) ?_
  intro p e s m args below meth c ls hsz F hml hr hk hl h
  subst hsz
  have E1 := F.1
  have E2 := F.2.1
  have hl : lv_has ls 4 [(0, .ref (ad 2 b)), (1, .int (nI pl)), (2, .ref (ad 6 x)), (3, .ref (ad 13 f))] := hl
  refine lv_iload_n E1 E2 d_Br_passTo_0 rfl (lv_at hl 1 rfl) ?_
  refine lv_aload_n E1 E2 d_Br_passTo_1 rfl (lv_at hl 2 rfl) ?_
  refine g_Po_number F h (by omega) k_134 d_Br_passTo_2 ?_
  refine lv_icmp_eq E1 E2 d_Br_passTo_5 rfl (fun h1 => ?_) (fun h1 => ?_)
  · have h1 : pl = (x % 4) := ((nI_eq (a := pl) (b := (x % 4)) (by omega) (by omega)).mp h1)
    refine lv_iconst (v := 0) E1 E2 d_Br_passTo_25 (by decide) ?_
    have hq : o_Br_passTo N b pl x f = (0, N) := if_pos h1
    exact bn_reti2 F hr hk h hq d_Br_passTo_26
  · have h1 : ¬ (pl = (x % 4)) := (fun hw => h1 ((nI_eq (a := pl) (b := (x % 4)) (by omega) (by omega)).mpr hw))
    refine lv_aload_n E1 E2 d_Br_passTo_8 rfl (lv_at hl 0 rfl) ?_
    refine g_Br_ports F h (by omega) k_38 d_Br_passTo_9 ?_
    refine lv_iload_n E1 E2 d_Br_passTo_12 rfl (lv_at hl 1 rfl) ?_
    refine al_ports F h (by omega) (i := pl) (by omega) d_Br_passTo_13 ?_
    refine lv_aload_n E1 E2 d_Br_passTo_14 rfl (lv_at hl 3 rfl) ?_
    refine bn_calli F h (bn_runV (n := 1) (As := [.ref (ad 13 f)]) (rest := []) F hml hl.1 h (mm_6 (by omega)) rfl rfl (c_Po_letOut l D ar ad nf N (4 * b + pl) (by omega) f (by omega) _) (bn_goodV k_629 k_630 k_631 k_3 k_632) rfl rfl (by decide) ⟨by decide, by decide⟩ rfl rfl (Nat.le_of_ble_eq_true rfl) d_Br_passTo_15 ⟨Nat.zero_le _, Nat.zero_le _⟩) (fun H locs h => ?_)
    have h : bn_H (bn_y D ar ad nf) s.heap H locs (o_Po_letOut N (4 * b + pl) f).2 := h
    refine lv_if_eq E1 E2 d_Br_passTo_18 rfl (fun h2 => ?_) (fun h2 => ?_)
    · have h2 : (o_Po_letOut N (4 * b + pl) f).1 = 0 := h2
      refine lv_iconst (v := 0) E1 E2 d_Br_passTo_25 (by decide) ?_
      have hq : o_Br_passTo N b pl x f = (0, (o_Po_letOut N (4 * b + pl) f).2) := Eq.trans (if_neg h1) (if_pos h2)
      exact bn_reti2 F hr hk h hq d_Br_passTo_26
    · have h2 : ¬ ((o_Po_letOut N (4 * b + pl) f).1 = 0) := h2
      refine lv_iconst (v := 1) E1 E2 d_Br_passTo_21 (by decide) ?_
      refine lv_goto E1 E2 d_Br_passTo_22 rfl ?_
      have hq : o_Br_passTo N b pl x f = (1, (o_Po_letOut N (4 * b + pl) f).2) := Eq.trans (if_neg h1) (if_neg h2)
      exact bn_reti2 F hr hk h hq d_Br_passTo_26
def bd_Br_flood (b : Nat) (x : Nat) (f : Nat) (k : Nat) (q : Int32 × bn_S) : Int32 × bn_S := (if 4 * b + k = x then (q.1, q.2) else (if (o_Po_letOut (q.2) (4 * b + k) f).1 = 0 then (q.1, (o_Po_letOut (q.2) (4 * b + k) f).2) else (q.1 + 1, (o_Po_letOut (q.2) (4 * b + k) f).2)))
def it_Br_flood (b : Nat) (x : Nat) (f : Nat) (q0 : Int32 × bn_S) : Nat → Int32 × bn_S
  | 0 => q0
  | k + 1 => bd_Br_flood b x f k (it_Br_flood b x f q0 k)
theorem it_Br_flood_s (b : Nat) (x : Nat) (f : Nat) (q0 : Int32 × bn_S) (k : Nat) : bd_Br_flood b x f k (it_Br_flood b x f q0 k) = it_Br_flood b x f q0 (k + 1) := rfl
def o_Br_flood (N : bn_S) (b : Nat) (x : Nat) (f : Nat) : Int32 × bn_S := ((it_Br_flood b x f (0, N) 4).1, (it_Br_flood b x f (0, N) 4).2)
set_option maxHeartbeats 4000000 in
set_option maxRecDepth 100000 in
theorem c_Br_flood (l : Launch) (D : va_G) (ar : Nat → ClassId) (ad : Nat → Nat → Nat) (nf : Nat) (N : bn_S) (b : Nat) (hb : b < 5) (x : Nat) (hx : x < 20) (f : Nat) (hf : f < nf) : bn_I l y_Br_flood w_Br_flood { frames := 3, cells := 0, slots := 0, locals := 66 } (bn_y D ar ad nf) N [.ref (ad 2 b), .ref (ad 6 x), .ref (ad 13 f)] (o_Br_flood N b x f).1 (o_Br_flood N b x f).2 := by
  intro sz
  refine bn_start (cc := b_Br_flood) (maxL := 8) (ret := (Option.some Jvm.ClassFile.FieldType.int)) (by decide) rfl (Nat.le_of_ble_eq_true rfl) ?_
  intro p e s m args below meth c ls hsz F hml hr hk hl h
  subst hsz
  have E1 := F.1
  have E2 := F.2.1
  have hl : lv_has ls 8 [(0, .ref (ad 2 b)), (1, .ref (ad 6 x)), (2, .ref (ad 13 f))] := hl
  refine lv_iconst (v := 0) E1 E2 d_Br_flood_0 (by decide) ?_
  refine lv_istore_n E1 E2 d_Br_flood_1 rfl hl (by decide) rfl (fun ls hl => ?_)
  have hl : lv_has ls 8 [(3, .int 0), (0, .ref (ad 2 b)), (1, .ref (ad 6 x)), (2, .ref (ad 13 f))] := hl
  refine lv_aload_n E1 E2 d_Br_flood_2 rfl (lv_at hl 1 rfl) ?_
  refine g_Br_ports F h (by omega) k_38 d_Br_flood_3 ?_
  refine lv_astore E1 E2 d_Br_flood_6 hl (by decide) rfl (fun ls hl => ?_)
  have hl : lv_has ls 8 [(4, .ref (ad 3 b)), (3, .int 0), (0, .ref (ad 2 b)), (1, .ref (ad 6 x)), (2, .ref (ad 13 f))] := hl
  refine lv_aload E1 E2 d_Br_flood_8 (lv_at hl 0 rfl) ?_
  refine an_ports F h (by omega) d_Br_flood_10 ?_
  refine lv_istore E1 E2 d_Br_flood_11 hl (by decide) rfl (fun ls hl => ?_)
  have hl : lv_has ls 8 [(5, .int (nI 4)), (4, .ref (ad 3 b)), (3, .int 0), (0, .ref (ad 2 b)), (1, .ref (ad 6 x)), (2, .ref (ad 13 f))] := hl
  refine lv_iconst (v := 0) E1 E2 d_Br_flood_13 (by decide) ?_
  refine lv_istore E1 E2 d_Br_flood_14 hl (by decide) rfl (fun ls hl => ?_)
  have hl : lv_has ls 8 [(6, .int 0), (5, .int (nI 4)), (4, .ref (ad 3 b)), (3, .int 0), (0, .ref (ad 2 b)), (1, .ref (ad 6 x)), (2, .ref (ad 13 f))] := hl
  have hs16 : ∀ (Q0 : State → Prop) (k : Nat), k < 4 → ∀ (q : Int32 × bn_S) (H : Heap) (locs : List Loc) (ls : Array Slot), lv_has ls 8 [(0, .ref (ad 2 b)), (1, .ref (ad 6 x)), (2, .ref (ad 13 f)), (3, .int (q.1)), (4, .ref (ad 3 b)), (5, .int (nI 4)), (6, .int (nI k))] → bn_H (bn_y D ar ad nf) s.heap H locs q.2 → (∀ (H : Heap) (locs : List Loc) (ls : Array Slot), lv_has ls 8 [(0, .ref (ad 2 b)), (1, .ref (ad 6 x)), (2, .ref (ad 13 f)), (3, .int ((bd_Br_flood b x f k q).1)), (4, .ref (ad 3 b)), (5, .int (nI 4)), (6, .int (nI (k + 1)))] → bn_H (bn_y D ar ad nf) s.heap H locs (bd_Br_flood b x f k q).2 → W p l e { frames := 3, cells := 0, slots := 0, locals := 66 } s m args below meth c H locs 0 0 Q0 (F0 m 16 ls [])) → W p l e { frames := 3, cells := 0, slots := 0, locals := 66 } s m args below meth c H locs 0 0 Q0 (F0 m 16 ls []) := by
    intro Q0 k hkk q H locs ls hl h kk
    refine lv_iload E1 E2 d_Br_flood_16 (lv_at hl 6 rfl) ?_
    refine lv_iload E1 E2 d_Br_flood_18 (lv_at hl 5 rfl) ?_
    refine lv_icmp_ge E1 E2 d_Br_flood_20 rfl (fun hz => absurd ((nI_leI (a := 4) (b := k) (by omega) (by omega)).mp hz) (by omega)) (fun _ => ?_)
    refine lv_aload E1 E2 d_Br_flood_23 (lv_at hl 4 rfl) ?_
    refine lv_iload E1 E2 d_Br_flood_25 (lv_at hl 6 rfl) ?_
    refine al_ports F h (by omega) (i := k) (by omega) d_Br_flood_27 ?_
    refine lv_astore E1 E2 d_Br_flood_28 hl (by decide) rfl (fun ls hl => ?_)
    have hl : lv_has ls 8 [(7, .ref (ad 6 (4 * b + k))), (0, .ref (ad 2 b)), (1, .ref (ad 6 x)), (2, .ref (ad 13 f)), (3, .int (q.1)), (4, .ref (ad 3 b)), (5, .int (nI 4)), (6, .int (nI k))] := hl
    refine lv_aload E1 E2 d_Br_flood_30 (lv_at hl 0 rfl) ?_
    refine lv_aload_n E1 E2 d_Br_flood_32 rfl (lv_at hl 2 rfl) ?_
    refine lv_acmp_eq (rx := (some (ad 6 (4 * b + k)))) (ry := (some (ad 6 x))) E1 E2 d_Br_flood_33 rfl (fun h1 => ?_) (fun h1 => ?_)
    · have h1 : 4 * b + k = x := ((bn_inj h (mm_6 (by omega)) (mm_6 (by omega))).mp h1)
      refine lv_iinc (v := (nI (k + 1))) E1 E2 d_Br_flood_48 hl (k := 7) rfl (nI_1 _) (by decide) rfl (fun ls hl => ?_)
      have hl : lv_has ls 8 [(6, .int (nI (k + 1))), (7, .ref (ad 6 (4 * b + k))), (0, .ref (ad 2 b)), (1, .ref (ad 6 x)), (2, .ref (ad 13 f)), (3, .int (q.1)), (4, .ref (ad 3 b)), (5, .int (nI 4))] := hl
      refine lv_goto E1 E2 d_Br_flood_51 rfl ?_
      have hq : (bd_Br_flood b x f k q) = (q.1, q.2) := if_pos h1
      rw [hq] at kk
      exact kk _ _ ls (lv_sub hl [2, 3, 4, 5, 6, 7, 0] rfl) h
    · have h1 : ¬ (4 * b + k = x) := (fun hw => h1 ((bn_inj h (mm_6 (by omega)) (mm_6 (by omega))).mpr hw))
      refine lv_aload E1 E2 d_Br_flood_36 (lv_at hl 0 rfl) ?_
      refine lv_aload_n E1 E2 d_Br_flood_38 rfl (lv_at hl 3 rfl) ?_
      refine bn_calli F h (bn_runV (n := 1) (As := [.ref (ad 13 f)]) (rest := []) F hml hl.1 h (mm_6 (by omega)) rfl rfl (c_Po_letOut l D ar ad nf (q.2) (4 * b + k) (by omega) f (by omega) _) (bn_goodV k_629 k_630 k_631 k_3 k_632) rfl rfl (by decide) ⟨by decide, by decide⟩ rfl rfl (Nat.le_of_ble_eq_true rfl) d_Br_flood_39 ⟨Nat.zero_le _, Nat.zero_le _⟩) (fun H locs h => ?_)
      have h : bn_H (bn_y D ar ad nf) s.heap H locs (o_Po_letOut (q.2) (4 * b + k) f).2 := h
      refine lv_if_eq E1 E2 d_Br_flood_42 rfl (fun h2 => ?_) (fun h2 => ?_)
      · have h2 : (o_Po_letOut (q.2) (4 * b + k) f).1 = 0 := h2
        refine lv_iinc (v := (nI (k + 1))) E1 E2 d_Br_flood_48 hl (k := 7) rfl (nI_1 _) (by decide) rfl (fun ls hl => ?_)
        have hl : lv_has ls 8 [(6, .int (nI (k + 1))), (7, .ref (ad 6 (4 * b + k))), (0, .ref (ad 2 b)), (1, .ref (ad 6 x)), (2, .ref (ad 13 f)), (3, .int (q.1)), (4, .ref (ad 3 b)), (5, .int (nI 4))] := hl
        refine lv_goto E1 E2 d_Br_flood_51 rfl ?_
        have hq : (bd_Br_flood b x f k q) = (q.1, (o_Po_letOut (q.2) (4 * b + k) f).2) := Eq.trans (if_neg h1) (if_pos h2)
        rw [hq] at kk
        exact kk _ _ ls (lv_sub hl [2, 3, 4, 5, 6, 7, 0] rfl) h
      · have h2 : ¬ ((o_Po_letOut (q.2) (4 * b + k) f).1 = 0) := h2
        refine lv_iinc (v := (q.1 + 1)) E1 E2 d_Br_flood_45 hl (k := 4) rfl rfl (by decide) rfl (fun ls hl => ?_)
        have hl : lv_has ls 8 [(3, .int (q.1 + 1)), (7, .ref (ad 6 (4 * b + k))), (0, .ref (ad 2 b)), (1, .ref (ad 6 x)), (2, .ref (ad 13 f)), (4, .ref (ad 3 b)), (5, .int (nI 4)), (6, .int (nI k))] := hl
        refine lv_iinc (v := (nI (k + 1))) E1 E2 d_Br_flood_48 hl (k := 7) rfl (nI_1 _) (by decide) rfl (fun ls hl => ?_)
        have hl : lv_has ls 8 [(6, .int (nI (k + 1))), (3, .int (q.1 + 1)), (7, .ref (ad 6 (4 * b + k))), (0, .ref (ad 2 b)), (1, .ref (ad 6 x)), (2, .ref (ad 13 f)), (4, .ref (ad 3 b)), (5, .int (nI 4))] := hl
        refine lv_goto E1 E2 d_Br_flood_51 rfl ?_
        have hq : (bd_Br_flood b x f k q) = (q.1 + 1, (o_Po_letOut (q.2) (4 * b + k) f).2) := Eq.trans (if_neg h1) (if_neg h2)
        rw [hq] at kk
        exact kk _ _ ls (lv_sub hl [3, 4, 5, 1, 6, 7, 0] rfl) h
  refine hs16 _ 0 (by decide) (it_Br_flood b x f (0, N) 0) _ _ ls (lv_sub hl [4, 5, 6, 3, 2, 1, 0] rfl) h (fun H locs ls hl h => ?_)
  rw [it_Br_flood_s] at hl h
  refine hs16 _ 1 (by decide) (it_Br_flood b x f (0, N) 1) _ _ ls hl h (fun H locs ls hl h => ?_)
  rw [it_Br_flood_s] at hl h
  refine hs16 _ 2 (by decide) (it_Br_flood b x f (0, N) 2) _ _ ls hl h (fun H locs ls hl h => ?_)
  rw [it_Br_flood_s] at hl h
  refine hs16 _ 3 (by decide) (it_Br_flood b x f (0, N) 3) _ _ ls hl h (fun H locs ls hl h => ?_)
  rw [it_Br_flood_s] at hl h
  have hl : lv_has ls 8 [(0, .ref (ad 2 b)), (1, .ref (ad 6 x)), (2, .ref (ad 13 f)), (3, .int ((it_Br_flood b x f (0, N) 4).1)), (4, .ref (ad 3 b)), (5, .int (nI 4)), (6, .int (nI 4))] := hl
  have h : bn_H (bn_y D ar ad nf) s.heap H locs (it_Br_flood b x f (0, N) 4).2 := h
  refine lv_iload E1 E2 d_Br_flood_16 (lv_at hl 6 rfl) ?_
  refine lv_iload E1 E2 d_Br_flood_18 (lv_at hl 5 rfl) ?_
  refine lv_icmp_ge E1 E2 d_Br_flood_20 rfl (fun _ => ?_) (fun hz => absurd ((nI_leI (a := 4) (b := 4) (by omega) (by omega)).mpr (by omega)) hz)
  refine lv_iload_n E1 E2 d_Br_flood_54 rfl (lv_at hl 3 rfl) ?_
  have hq : o_Br_flood N b x f = ((it_Br_flood b x f (0, N) 4).1, (it_Br_flood b x f (0, N) 4).2) := rfl
  exact bn_reti2 F hr hk h hq d_Br_flood_55
def o_Br_hearFrame (N : bn_S) (b : Nat) (x : Nat) (g : Option Nat) : Int32 × bn_S := (bn_oc g (0, N) (fun g_ => (if N.1 10 x = 0 then (0, N) else (if r_Po_carries N x (nI (N.2.1 12 g_)) = 0 then (0, N) else (if (o_Br_learn N b (N.2.1 10 g_) (N.2.1 12 g_) (x % 4)).1 10 x = 2 then (if ((o_Br_learn N b (N.2.1 10 g_) (N.2.1 12 g_) (x % 4)).2.1 11 g_) = 9 then (0, (o_Br_learn N b (N.2.1 10 g_) (N.2.1 12 g_) (x % 4))) else (if 8 ≤ ((o_Br_learn N b (N.2.1 10 g_) (N.2.1 12 g_) (x % 4)).2.1 11 g_) then ((o_Br_flood (o_Br_learn N b (N.2.1 10 g_) (N.2.1 12 g_) (x % 4)) b x g_).1, (o_Br_flood (o_Br_learn N b (N.2.1 10 g_) (N.2.1 12 g_) (x % 4)) b x g_).2) else (if 0 ≤ r_Br_placeOf (o_Br_learn N b (N.2.1 10 g_) (N.2.1 12 g_) (x % 4)) b ((o_Br_learn N b (N.2.1 10 g_) (N.2.1 12 g_) (x % 4)).2.1 11 g_) ((o_Br_learn N b (N.2.1 10 g_) (N.2.1 12 g_) (x % 4)).2.1 12 g_) then ((o_Br_passTo (o_Br_learn N b (N.2.1 10 g_) (N.2.1 12 g_) (x % 4)) b ((r_Br_placeOf (o_Br_learn N b (N.2.1 10 g_) (N.2.1 12 g_) (x % 4)) b ((o_Br_learn N b (N.2.1 10 g_) (N.2.1 12 g_) (x % 4)).2.1 11 g_) ((o_Br_learn N b (N.2.1 10 g_) (N.2.1 12 g_) (x % 4)).2.1 12 g_)).toNatClampNeg) x g_).1, (o_Br_passTo (o_Br_learn N b (N.2.1 10 g_) (N.2.1 12 g_) (x % 4)) b ((r_Br_placeOf (o_Br_learn N b (N.2.1 10 g_) (N.2.1 12 g_) (x % 4)) b ((o_Br_learn N b (N.2.1 10 g_) (N.2.1 12 g_) (x % 4)).2.1 11 g_) ((o_Br_learn N b (N.2.1 10 g_) (N.2.1 12 g_) (x % 4)).2.1 12 g_)).toNatClampNeg) x g_).2) else ((o_Br_flood (o_Br_learn N b (N.2.1 10 g_) (N.2.1 12 g_) (x % 4)) b x g_).1, (o_Br_flood (o_Br_learn N b (N.2.1 10 g_) (N.2.1 12 g_) (x % 4)) b x g_).2)))) else (0, (o_Br_learn N b (N.2.1 10 g_) (N.2.1 12 g_) (x % 4))))))))
set_option maxHeartbeats 4000000 in
set_option maxRecDepth 100000 in
theorem c_Br_hearFrame (l : Launch) (D : va_G) (ar : Nat → ClassId) (ad : Nat → Nat → Nat) (nf : Nat) (N : bn_S) (b : Nat) (hb : b < 5) (x : Nat) (hx : x < 20) (g : Option Nat) (hg : ∀ y, g = some y → y < nf) : bn_I l y_Br_hearFrame w_Br_hearFrame { frames := 4, cells := 0, slots := 0, locals := 93 } (bn_y D ar ad nf) N [.ref (ad 2 b), .ref (ad 6 x), va_rf (g.map (ad 13))] (o_Br_hearFrame N b x g).1 (o_Br_hearFrame N b x g).2 := by
  intro sz
  cases g with
  | none =>
    refine bn_start (cc := b_Br_hearFrame) (maxL := 4) (ret := (Option.some Jvm.ClassFile.FieldType.int)) (by decide) rfl (Nat.le_of_ble_eq_true rfl) ?_
    intro p e s m args below meth c ls hsz F hml hr hk hl h
    subst hsz
    have E1 := F.1
    have E2 := F.2.1
    have hl : lv_has ls 4 [(0, .ref (ad 2 b)), (1, .ref (ad 6 x)), (2, .null)] := hl
    refine lv_aload_nN E1 E2 d_Br_hearFrame_0 rfl (lv_at hl 2 rfl) ?_
    refine lv_ifnullN E1 E2 d_Br_hearFrame_1 rfl ?_
    refine lv_iconst (v := 0) E1 E2 d_Br_hearFrame_22 (by decide) ?_
    have hq : o_Br_hearFrame N b x none = (0, N) := bn_oc_n rfl
    exact bn_reti2 F hr hk h hq d_Br_hearFrame_23
  | some g_ =>
    have hg_ := hg g_ rfl
    refine bn_start (cc := b_Br_hearFrame) (maxL := 4) (ret := (Option.some Jvm.ClassFile.FieldType.int)) (by decide) rfl (Nat.le_of_ble_eq_true rfl) ?_
    intro p e s m args below meth c ls hsz F hml hr hk hl h
    subst hsz
    have E1 := F.1
    have E2 := F.2.1
    have hl : lv_has ls 4 [(0, .ref (ad 2 b)), (1, .ref (ad 6 x)), (2, .ref (ad 13 g_))] := hl
    refine lv_aload_n E1 E2 d_Br_hearFrame_0 rfl (lv_at hl 2 rfl) ?_
    refine lv_ifnull E1 E2 d_Br_hearFrame_1 ?_
    refine lv_aload_n E1 E2 d_Br_hearFrame_4 rfl (lv_at hl 1 rfl) ?_
    refine g_Po_state F h (by omega) k_158 (v := N.1 10 x) rfl d_Br_hearFrame_5 ?_
    refine lv_if_eq E1 E2 d_Br_hearFrame_8 rfl (fun h1 => ?_) (fun h1 => ?_)
    · have h1 : N.1 10 x = 0 := h1
      refine lv_iconst (v := 0) E1 E2 d_Br_hearFrame_22 (by decide) ?_
      have hq : o_Br_hearFrame N b x (some g_) = (0, N) := Eq.trans (bn_oc_s rfl) (if_pos h1)
      exact bn_reti2 F hr hk h hq d_Br_hearFrame_23
    · have h1 : ¬ (N.1 10 x = 0) := h1
      refine lv_aload_n E1 E2 d_Br_hearFrame_11 rfl (lv_at hl 1 rfl) ?_
      refine lv_aload_n E1 E2 d_Br_hearFrame_12 rfl (lv_at hl 2 rfl) ?_
      refine g_Fr_vlan F h (by omega) k_601 (v := N.2.1 12 g_) rfl d_Br_hearFrame_13 ?_
      refine bn_calli F h (bn_runV (n := 1) (As := [.int (nI (N.2.1 12 g_))]) (rest := []) F hml hl.1 h (mm_6 (by omega)) rfl rfl (c_Po_carries l D ar ad nf N x (by omega) (nI (N.2.1 12 g_)) _) (bn_goodV k_616 k_617 k_618 k_3 k_619) rfl rfl (by decide) ⟨by decide, by decide⟩ rfl rfl (Nat.le_of_ble_eq_true rfl) d_Br_hearFrame_16 ⟨Nat.zero_le _, Nat.zero_le _⟩) (fun H locs h => ?_)
      refine lv_if_ne E1 E2 d_Br_hearFrame_19 rfl (fun h2 => ?_) (fun h2 => ?_)
      · have h2 : ¬ (r_Po_carries N x (nI (N.2.1 12 g_)) = 0) := h2
        refine lv_aload_n E1 E2 d_Br_hearFrame_24 rfl (lv_at hl 0 rfl) ?_
        refine lv_aload_n E1 E2 d_Br_hearFrame_25 rfl (lv_at hl 2 rfl) ?_
        refine g_Fr_source F h (by omega) k_594 (v := N.2.1 10 g_) rfl d_Br_hearFrame_26 ?_
        refine lv_aload_n E1 E2 d_Br_hearFrame_29 rfl (lv_at hl 2 rfl) ?_
        refine g_Fr_vlan F h (by omega) k_601 (v := N.2.1 12 g_) rfl d_Br_hearFrame_30 ?_
        refine lv_aload_n E1 E2 d_Br_hearFrame_33 rfl (lv_at hl 1 rfl) ?_
        refine g_Po_number F h (by omega) k_134 d_Br_hearFrame_34 ?_
        have hwsrc : N.2.1 10 g_ < 8 := wf_src h.2.2.2 g_
        have hwfvlan : N.2.1 12 g_ < 3 := wf_fvlan h.2.2.2 g_
        have hwfvlan0 : 1 ≤ N.2.1 12 g_ := wf_fvlan_lo h.2.2.2 g_
        refine bn_callv F h (bn_runV (n := 3) (As := [.int (nI (N.2.1 10 g_)), .int (nI (N.2.1 12 g_)), .int (nI (x % 4))]) (rest := []) F hml hl.1 h (mm_2 (by omega)) rfl rfl (c_Br_learn l D ar ad nf N b (by omega) (N.2.1 10 g_) (by omega) (N.2.1 12 g_) (by omega) (by omega) (x % 4) (by omega) _) (bn_goodV k_620 k_622 ks_Br_learn k_2 k_623) rfl rfl (by decide) ⟨by decide, by decide⟩ rfl rfl (Nat.le_of_ble_eq_true rfl) d_Br_hearFrame_37 ⟨Nat.zero_le _, Nat.zero_le _⟩) (fun H locs h => ?_)
        have h : bn_H (bn_y D ar ad nf) s.heap H locs (o_Br_learn N b (N.2.1 10 g_) (N.2.1 12 g_) (x % 4)) := h
        refine lv_aload_n E1 E2 d_Br_hearFrame_40 rfl (lv_at hl 1 rfl) ?_
        refine g_Po_state F h (by omega) k_158 (v := (o_Br_learn N b (N.2.1 10 g_) (N.2.1 12 g_) (x % 4)).1 10 x) rfl d_Br_hearFrame_41 ?_
        refine lv_iconst (v := 2) E1 E2 d_Br_hearFrame_44 (by decide) ?_
        refine lv_icmp_ne E1 E2 d_Br_hearFrame_45 rfl (fun h3 => ?_) (fun h3 => ?_)
        · have h3 : ¬ ((o_Br_learn N b (N.2.1 10 g_) (N.2.1 12 g_) (x % 4)).1 10 x = 2) := h3
          refine lv_iconst (v := 0) E1 E2 d_Br_hearFrame_57 (by decide) ?_
          have hq : o_Br_hearFrame N b x (some g_) = (0, (o_Br_learn N b (N.2.1 10 g_) (N.2.1 12 g_) (x % 4))) := Eq.trans (bn_oc_s rfl) (Eq.trans (if_neg h1) (Eq.trans (if_neg h2) (if_neg h3)))
          exact bn_reti2 F hr hk h hq d_Br_hearFrame_58
        · have h3 : (o_Br_learn N b (N.2.1 10 g_) (N.2.1 12 g_) (x % 4)).1 10 x = 2 := h3
          refine lv_aload_n E1 E2 d_Br_hearFrame_48 rfl (lv_at hl 2 rfl) ?_
          refine g_Fr_destination F h (by omega) k_597 (v := (o_Br_learn N b (N.2.1 10 g_) (N.2.1 12 g_) (x % 4)).2.1 11 g_) rfl d_Br_hearFrame_49 ?_
          refine lv_bipush (v := 9) E1 E2 d_Br_hearFrame_52 (by decide) ?_
          have hwsrc : N.2.1 10 g_ < 8 := wf_src h.2.2.2 g_
          have hwfvlan : N.2.1 12 g_ < 3 := wf_fvlan h.2.2.2 g_
          have hwfvlan0 : 1 ≤ N.2.1 12 g_ := wf_fvlan_lo h.2.2.2 g_
          have hwdst : (o_Br_learn N b (N.2.1 10 g_) (N.2.1 12 g_) (x % 4)).2.1 11 g_ < 10 := wf_dst h.2.2.2 g_
          refine lv_icmp_ne E1 E2 d_Br_hearFrame_54 rfl (fun h4 => ?_) (fun h4 => ?_)
          · have h4 : ¬ (((o_Br_learn N b (N.2.1 10 g_) (N.2.1 12 g_) (x % 4)).2.1 11 g_) = 9) := (fun hw => h4 ((nI_eq (a := (o_Br_learn N b (N.2.1 10 g_) (N.2.1 12 g_) (x % 4)).2.1 11 g_) (b := 9) (by omega) (by omega)).mpr hw))
            refine lv_aload_n E1 E2 d_Br_hearFrame_59 rfl (lv_at hl 2 rfl) ?_
            refine g_Fr_destination F h (by omega) k_597 (v := (o_Br_learn N b (N.2.1 10 g_) (N.2.1 12 g_) (x % 4)).2.1 11 g_) rfl d_Br_hearFrame_60 ?_
            refine lv_bipush (v := 8) E1 E2 d_Br_hearFrame_63 (by decide) ?_
            have hwsrc : N.2.1 10 g_ < 8 := wf_src h.2.2.2 g_
            have hwfvlan : N.2.1 12 g_ < 3 := wf_fvlan h.2.2.2 g_
            have hwfvlan0 : 1 ≤ N.2.1 12 g_ := wf_fvlan_lo h.2.2.2 g_
            have hwdst : (o_Br_learn N b (N.2.1 10 g_) (N.2.1 12 g_) (x % 4)).2.1 11 g_ < 10 := wf_dst h.2.2.2 g_
            refine lv_icmp_ge E1 E2 d_Br_hearFrame_65 rfl (fun h5 => ?_) (fun h5 => ?_)
            · have h5 : 8 ≤ ((o_Br_learn N b (N.2.1 10 g_) (N.2.1 12 g_) (x % 4)).2.1 11 g_) := ((nI_leI (a := 8) (b := (o_Br_learn N b (N.2.1 10 g_) (N.2.1 12 g_) (x % 4)).2.1 11 g_) (by omega) (by omega)).mp h5)
              refine lv_iconst (v := (-1)) E1 E2 d_Br_hearFrame_83 (by decide) ?_
              refine lv_istore_n E1 E2 d_Br_hearFrame_84 rfl hl (by decide) rfl (fun ls hl => ?_)
              have hl : lv_has ls 4 [(3, .int (-1)), (0, .ref (ad 2 b)), (1, .ref (ad 6 x)), (2, .ref (ad 13 g_))] := hl
              refine lv_iload_n E1 E2 d_Br_hearFrame_85 rfl (lv_at hl 0 rfl) ?_
              refine lv_if_ge E1 E2 d_Br_hearFrame_86 rfl (fun hz => absurd hz (by decide)) (fun _ => ?_)
              refine lv_aload_n E1 E2 d_Br_hearFrame_89 rfl (lv_at hl 1 rfl) ?_
              refine lv_aload_n E1 E2 d_Br_hearFrame_90 rfl (lv_at hl 2 rfl) ?_
              refine lv_aload_n E1 E2 d_Br_hearFrame_91 rfl (lv_at hl 3 rfl) ?_
              refine bn_calli F h (bn_runV (n := 2) (As := [.ref (ad 6 x), .ref (ad 13 g_)]) (rest := []) F hml hl.1 h (mm_2 (by omega)) rfl rfl (c_Br_flood l D ar ad nf (o_Br_learn N b (N.2.1 10 g_) (N.2.1 12 g_) (x % 4)) b (by omega) x (by omega) g_ (by omega) _) (bn_goodV k_625 k_627 ks_Br_flood k_2 k_628) rfl rfl (by decide) ⟨by decide, by decide⟩ rfl rfl (Nat.le_of_ble_eq_true rfl) d_Br_hearFrame_92 ⟨Nat.zero_le _, Nat.zero_le _⟩) (fun H locs h => ?_)
              have h : bn_H (bn_y D ar ad nf) s.heap H locs (o_Br_flood (o_Br_learn N b (N.2.1 10 g_) (N.2.1 12 g_) (x % 4)) b x g_).2 := h
              refine lv_goto E1 E2 d_Br_hearFrame_95 rfl ?_
              have hq : o_Br_hearFrame N b x (some g_) = ((o_Br_flood (o_Br_learn N b (N.2.1 10 g_) (N.2.1 12 g_) (x % 4)) b x g_).1, (o_Br_flood (o_Br_learn N b (N.2.1 10 g_) (N.2.1 12 g_) (x % 4)) b x g_).2) := Eq.trans (bn_oc_s rfl) (Eq.trans (if_neg h1) (Eq.trans (if_neg h2) (Eq.trans (if_pos h3) (Eq.trans (if_neg h4) (if_pos h5)))))
              exact bn_reti2 F hr hk h hq d_Br_hearFrame_105
            · have h5 : ¬ (8 ≤ ((o_Br_learn N b (N.2.1 10 g_) (N.2.1 12 g_) (x % 4)).2.1 11 g_)) := (fun hw => h5 ((nI_leI (a := 8) (b := (o_Br_learn N b (N.2.1 10 g_) (N.2.1 12 g_) (x % 4)).2.1 11 g_) (by omega) (by omega)).mpr hw))
              refine lv_aload_n E1 E2 d_Br_hearFrame_68 rfl (lv_at hl 0 rfl) ?_
              refine lv_aload_n E1 E2 d_Br_hearFrame_69 rfl (lv_at hl 2 rfl) ?_
              refine g_Fr_destination F h (by omega) k_597 (v := (o_Br_learn N b (N.2.1 10 g_) (N.2.1 12 g_) (x % 4)).2.1 11 g_) rfl d_Br_hearFrame_70 ?_
              refine lv_aload_n E1 E2 d_Br_hearFrame_73 rfl (lv_at hl 2 rfl) ?_
              refine g_Fr_vlan F h (by omega) k_601 (v := (o_Br_learn N b (N.2.1 10 g_) (N.2.1 12 g_) (x % 4)).2.1 12 g_) rfl d_Br_hearFrame_74 ?_
              have hwsrc : N.2.1 10 g_ < 8 := wf_src h.2.2.2 g_
              have hwfvlan : N.2.1 12 g_ < 3 := wf_fvlan h.2.2.2 g_
              have hwfvlan0 : 1 ≤ N.2.1 12 g_ := wf_fvlan_lo h.2.2.2 g_
              have hwdst : (o_Br_learn N b (N.2.1 10 g_) (N.2.1 12 g_) (x % 4)).2.1 11 g_ < 10 := wf_dst h.2.2.2 g_
              have hwsrc : N.2.1 10 g_ < 8 := wf_src h.2.2.2 g_
              have hwfvlan : N.2.1 12 g_ < 3 := wf_fvlan h.2.2.2 g_
              have hwfvlan0 : 1 ≤ N.2.1 12 g_ := wf_fvlan_lo h.2.2.2 g_
              have hwfvlan : (o_Br_learn N b (N.2.1 10 g_) (N.2.1 12 g_) (x % 4)).2.1 12 g_ < 3 := wf_fvlan h.2.2.2 g_
              have hwfvlan0 : 1 ≤ (o_Br_learn N b (N.2.1 10 g_) (N.2.1 12 g_) (x % 4)).2.1 12 g_ := wf_fvlan_lo h.2.2.2 g_
              refine bn_calli F h (bn_runV (n := 2) (As := [.int (nI ((o_Br_learn N b (N.2.1 10 g_) (N.2.1 12 g_) (x % 4)).2.1 11 g_)), .int (nI ((o_Br_learn N b (N.2.1 10 g_) (N.2.1 12 g_) (x % 4)).2.1 12 g_))]) (rest := []) F hml hl.1 h (mm_2 (by omega)) rfl rfl (c_Br_placeOf l D ar ad nf (o_Br_learn N b (N.2.1 10 g_) (N.2.1 12 g_) (x % 4)) b (by omega) ((o_Br_learn N b (N.2.1 10 g_) (N.2.1 12 g_) (x % 4)).2.1 11 g_) (by omega) ((o_Br_learn N b (N.2.1 10 g_) (N.2.1 12 g_) (x % 4)).2.1 12 g_) (by omega) (by omega) _) (bn_goodV k_624 k_424 k_425 k_2 k_426) rfl rfl (by decide) ⟨by decide, by decide⟩ rfl rfl (Nat.le_of_ble_eq_true rfl) d_Br_hearFrame_77 ⟨Nat.zero_le _, Nat.zero_le _⟩) (fun H locs h => ?_)
              refine lv_goto E1 E2 d_Br_hearFrame_80 rfl ?_
              refine lv_istore_n E1 E2 d_Br_hearFrame_84 rfl hl (by decide) rfl (fun ls hl => ?_)
              have hl : lv_has ls 4 [(3, .int (r_Br_placeOf (o_Br_learn N b (N.2.1 10 g_) (N.2.1 12 g_) (x % 4)) b ((o_Br_learn N b (N.2.1 10 g_) (N.2.1 12 g_) (x % 4)).2.1 11 g_) ((o_Br_learn N b (N.2.1 10 g_) (N.2.1 12 g_) (x % 4)).2.1 12 g_))), (0, .ref (ad 2 b)), (1, .ref (ad 6 x)), (2, .ref (ad 13 g_))] := hl
              refine lv_iload_n E1 E2 d_Br_hearFrame_85 rfl (lv_at hl 0 rfl) ?_
              refine lv_if_ge E1 E2 d_Br_hearFrame_86 rfl (fun h6 => ?_) (fun h6 => ?_)
              · have h6 : 0 ≤ r_Br_placeOf (o_Br_learn N b (N.2.1 10 g_) (N.2.1 12 g_) (x % 4)) b ((o_Br_learn N b (N.2.1 10 g_) (N.2.1 12 g_) (x % 4)).2.1 11 g_) ((o_Br_learn N b (N.2.1 10 g_) (N.2.1 12 g_) (x % 4)).2.1 12 g_) := h6
                refine lv_aload_n E1 E2 d_Br_hearFrame_98 rfl (lv_at hl 1 rfl) ?_
                refine lv_iload_n E1 E2 d_Br_hearFrame_99 rfl (lv_at hl 0 rfl) ?_
                have hpl := bn_pl h.2.2.2 (bn_ge0 h6)
                have hpl2 := hpl.2
                refine bn_ti hpl.1 ?_
                refine lv_aload_n E1 E2 d_Br_hearFrame_100 rfl (lv_at hl 2 rfl) ?_
                refine lv_aload_n E1 E2 d_Br_hearFrame_101 rfl (lv_at hl 3 rfl) ?_
                have hwsrc : N.2.1 10 g_ < 8 := wf_src h.2.2.2 g_
                have hwfvlan : N.2.1 12 g_ < 3 := wf_fvlan h.2.2.2 g_
                have hwfvlan0 : 1 ≤ N.2.1 12 g_ := wf_fvlan_lo h.2.2.2 g_
                have hwdst : (o_Br_learn N b (N.2.1 10 g_) (N.2.1 12 g_) (x % 4)).2.1 11 g_ < 10 := wf_dst h.2.2.2 g_
                have hwfvlan : (o_Br_learn N b (N.2.1 10 g_) (N.2.1 12 g_) (x % 4)).2.1 12 g_ < 3 := wf_fvlan h.2.2.2 g_
                have hwfvlan0 : 1 ≤ (o_Br_learn N b (N.2.1 10 g_) (N.2.1 12 g_) (x % 4)).2.1 12 g_ := wf_fvlan_lo h.2.2.2 g_
                refine bn_calli F h (bn_runV (n := 3) (As := [.int (nI ((r_Br_placeOf (o_Br_learn N b (N.2.1 10 g_) (N.2.1 12 g_) (x % 4)) b ((o_Br_learn N b (N.2.1 10 g_) (N.2.1 12 g_) (x % 4)).2.1 11 g_) ((o_Br_learn N b (N.2.1 10 g_) (N.2.1 12 g_) (x % 4)).2.1 12 g_)).toNatClampNeg)), .ref (ad 6 x), .ref (ad 13 g_)]) (rest := []) F hml hl.1 h (mm_2 (by omega)) rfl rfl (c_Br_passTo l D ar ad nf (o_Br_learn N b (N.2.1 10 g_) (N.2.1 12 g_) (x % 4)) b (by omega) ((r_Br_placeOf (o_Br_learn N b (N.2.1 10 g_) (N.2.1 12 g_) (x % 4)) b ((o_Br_learn N b (N.2.1 10 g_) (N.2.1 12 g_) (x % 4)).2.1 11 g_) ((o_Br_learn N b (N.2.1 10 g_) (N.2.1 12 g_) (x % 4)).2.1 12 g_)).toNatClampNeg) (by omega) x (by omega) g_ (by omega) _) (bn_goodV k_647 k_649 ks_Br_passTo k_2 k_650) rfl rfl (by decide) ⟨by decide, by decide⟩ rfl rfl (Nat.le_of_ble_eq_true rfl) d_Br_hearFrame_102 ⟨Nat.zero_le _, Nat.zero_le _⟩) (fun H locs h => ?_)
                have h : bn_H (bn_y D ar ad nf) s.heap H locs (o_Br_passTo (o_Br_learn N b (N.2.1 10 g_) (N.2.1 12 g_) (x % 4)) b ((r_Br_placeOf (o_Br_learn N b (N.2.1 10 g_) (N.2.1 12 g_) (x % 4)) b ((o_Br_learn N b (N.2.1 10 g_) (N.2.1 12 g_) (x % 4)).2.1 11 g_) ((o_Br_learn N b (N.2.1 10 g_) (N.2.1 12 g_) (x % 4)).2.1 12 g_)).toNatClampNeg) x g_).2 := h
                have hq : o_Br_hearFrame N b x (some g_) = ((o_Br_passTo (o_Br_learn N b (N.2.1 10 g_) (N.2.1 12 g_) (x % 4)) b ((r_Br_placeOf (o_Br_learn N b (N.2.1 10 g_) (N.2.1 12 g_) (x % 4)) b ((o_Br_learn N b (N.2.1 10 g_) (N.2.1 12 g_) (x % 4)).2.1 11 g_) ((o_Br_learn N b (N.2.1 10 g_) (N.2.1 12 g_) (x % 4)).2.1 12 g_)).toNatClampNeg) x g_).1, (o_Br_passTo (o_Br_learn N b (N.2.1 10 g_) (N.2.1 12 g_) (x % 4)) b ((r_Br_placeOf (o_Br_learn N b (N.2.1 10 g_) (N.2.1 12 g_) (x % 4)) b ((o_Br_learn N b (N.2.1 10 g_) (N.2.1 12 g_) (x % 4)).2.1 11 g_) ((o_Br_learn N b (N.2.1 10 g_) (N.2.1 12 g_) (x % 4)).2.1 12 g_)).toNatClampNeg) x g_).2) := Eq.trans (bn_oc_s rfl) (Eq.trans (if_neg h1) (Eq.trans (if_neg h2) (Eq.trans (if_pos h3) (Eq.trans (if_neg h4) (Eq.trans (if_neg h5) (if_pos h6))))))
                exact bn_reti2 F hr hk h hq d_Br_hearFrame_105
              · have h6 : ¬ (0 ≤ r_Br_placeOf (o_Br_learn N b (N.2.1 10 g_) (N.2.1 12 g_) (x % 4)) b ((o_Br_learn N b (N.2.1 10 g_) (N.2.1 12 g_) (x % 4)).2.1 11 g_) ((o_Br_learn N b (N.2.1 10 g_) (N.2.1 12 g_) (x % 4)).2.1 12 g_)) := h6
                refine lv_aload_n E1 E2 d_Br_hearFrame_89 rfl (lv_at hl 1 rfl) ?_
                refine lv_aload_n E1 E2 d_Br_hearFrame_90 rfl (lv_at hl 2 rfl) ?_
                refine lv_aload_n E1 E2 d_Br_hearFrame_91 rfl (lv_at hl 3 rfl) ?_
                refine bn_calli F h (bn_runV (n := 2) (As := [.ref (ad 6 x), .ref (ad 13 g_)]) (rest := []) F hml hl.1 h (mm_2 (by omega)) rfl rfl (c_Br_flood l D ar ad nf (o_Br_learn N b (N.2.1 10 g_) (N.2.1 12 g_) (x % 4)) b (by omega) x (by omega) g_ (by omega) _) (bn_goodV k_625 k_627 ks_Br_flood k_2 k_628) rfl rfl (by decide) ⟨by decide, by decide⟩ rfl rfl (Nat.le_of_ble_eq_true rfl) d_Br_hearFrame_92 ⟨Nat.zero_le _, Nat.zero_le _⟩) (fun H locs h => ?_)
                have h : bn_H (bn_y D ar ad nf) s.heap H locs (o_Br_flood (o_Br_learn N b (N.2.1 10 g_) (N.2.1 12 g_) (x % 4)) b x g_).2 := h
                refine lv_goto E1 E2 d_Br_hearFrame_95 rfl ?_
                have hq : o_Br_hearFrame N b x (some g_) = ((o_Br_flood (o_Br_learn N b (N.2.1 10 g_) (N.2.1 12 g_) (x % 4)) b x g_).1, (o_Br_flood (o_Br_learn N b (N.2.1 10 g_) (N.2.1 12 g_) (x % 4)) b x g_).2) := Eq.trans (bn_oc_s rfl) (Eq.trans (if_neg h1) (Eq.trans (if_neg h2) (Eq.trans (if_pos h3) (Eq.trans (if_neg h4) (Eq.trans (if_neg h5) (if_neg h6))))))
                exact bn_reti2 F hr hk h hq d_Br_hearFrame_105
          · have h4 : ((o_Br_learn N b (N.2.1 10 g_) (N.2.1 12 g_) (x % 4)).2.1 11 g_) = 9 := ((nI_eq (a := (o_Br_learn N b (N.2.1 10 g_) (N.2.1 12 g_) (x % 4)).2.1 11 g_) (b := 9) (by omega) (by omega)).mp h4)
            refine lv_iconst (v := 0) E1 E2 d_Br_hearFrame_57 (by decide) ?_
            have hq : o_Br_hearFrame N b x (some g_) = (0, (o_Br_learn N b (N.2.1 10 g_) (N.2.1 12 g_) (x % 4))) := Eq.trans (bn_oc_s rfl) (Eq.trans (if_neg h1) (Eq.trans (if_neg h2) (Eq.trans (if_pos h3) (if_pos h4))))
            exact bn_reti2 F hr hk h hq d_Br_hearFrame_58
      · have h2 : r_Po_carries N x (nI (N.2.1 12 g_)) = 0 := h2
        refine lv_iconst (v := 0) E1 E2 d_Br_hearFrame_22 (by decide) ?_
        have hq : o_Br_hearFrame N b x (some g_) = (0, N) := Eq.trans (bn_oc_s rfl) (Eq.trans (if_neg h1) (if_pos h2))
        exact bn_reti2 F hr hk h hq d_Br_hearFrame_23
def o_Po_join (N : bn_S) (x : Nat) (q : Option Nat) (t : Option Nat) : bn_S := (bn_oc q (bn_oc t (o_Po_become (o_Br_forgetBehind (o_Li_empty (sU (sO (sO N 2 x none) 3 x none) 2 x 0) x) (x / 4) (x % 4)) x 0) (fun t_ => (o_Po_become (o_Br_forgetBehind (o_Li_empty (sU (sO (sO N 2 x none) 3 x (some t_)) 2 x 0) x) (x / 4) (x % 4)) x 0))) (fun q_ => (bn_oc t (o_Po_become (o_Br_forgetBehind (o_Li_empty (sU (sO (sO N 2 x (some q_)) 3 x none) 2 x 0) x) (x / 4) (x % 4)) x 0) (fun t_ => (o_Po_become (o_Br_forgetBehind (o_Li_empty (sU (sO (sO N 2 x (some q_)) 3 x (some t_)) 2 x 0) x) (x / 4) (x % 4)) x 0)))))
set_option maxHeartbeats 4000000 in
set_option maxRecDepth 100000 in
theorem c_Po_join (l : Launch) (D : va_G) (ar : Nat → ClassId) (ad : Nat → Nat → Nat) (nf : Nat) (N : bn_S) (x : Nat) (hx : x < 20) (q : Option Nat) (hq : ∀ y, q = some y → y < 20) (t : Option Nat) (ht : ∀ y, t = some y → y < 8) : bn_V l y_Po_join w_Po_join { frames := 2, cells := 0, slots := 0, locals := 41 } (bn_y D ar ad nf) N [.ref (ad 6 x), va_rf (q.map (ad 6)), va_rf (t.map (ad 11))] (o_Po_join N x q t) := by
  intro sz
  cases q with
  | none =>
    cases t with
    | none =>
      refine bn_start (cc := b_Po_join) (maxL := 3) (ret := (Option.none : Option Jvm.ClassFile.FieldType)) (by decide) rfl (Nat.le_of_ble_eq_true rfl) ?_
      intro p e s m args below meth c ls hsz F hml hr hk hl h
      subst hsz
      have E1 := F.1
      have E2 := F.2.1
      have hl : lv_has ls 3 [(0, .ref (ad 6 x)), (1, .null), (2, .null)] := hl
      refine lv_aload_n E1 E2 d_Po_join_0 rfl (lv_at hl 0 rfl) ?_
      refine lv_aload_nN E1 E2 d_Po_join_1 rfl (lv_at hl 1 rfl) ?_
      refine p_Po_peer F h (by omega) k_143 (none) (fun _ hz => by cases hz) d_Po_join_2 (fun H locs h => ?_)
      have h : bn_H (bn_y D ar ad nf) s.heap H locs (sO N 2 x none) := h
      refine lv_aload_n E1 E2 d_Po_join_5 rfl (lv_at hl 0 rfl) ?_
      refine lv_aload_nN E1 E2 d_Po_join_6 rfl (lv_at hl 2 rfl) ?_
      refine p_Po_station F h (by omega) k_146 (none) (fun _ hz => by cases hz) d_Po_join_7 (fun H locs h => ?_)
      have h : bn_H (bn_y D ar ad nf) s.heap H locs (sO (sO N 2 x none) 3 x none) := h
      refine lv_aload_n E1 E2 d_Po_join_10 rfl (lv_at hl 0 rfl) ?_
      refine lv_iconst (v := 0) E1 E2 d_Po_join_11 (by decide) ?_
      refine p_Po_hasInfo F h (by omega) k_148 (v := 0) (by omega) d_Po_join_12 (fun H locs h => ?_)
      have h : bn_H (bn_y D ar ad nf) s.heap H locs (sU (sO (sO N 2 x none) 3 x none) 2 x 0) := h
      refine lv_aload_n E1 E2 d_Po_join_15 rfl (lv_at hl 0 rfl) ?_
      refine g_Po_line F h (by omega) k_135 d_Po_join_16 ?_
      refine bn_callv F h (bn_runV (n := 0) (As := []) (rest := []) F hml hl.1 h (mm_7 (by omega)) rfl rfl (c_Li_empty l D ar ad nf (sU (sO (sO N 2 x none) 3 x none) 2 x 0) x (by omega) _) (bn_goodV k_334 k_335 k_336 k_4 k_337) rfl rfl (by decide) ⟨by decide, by decide⟩ rfl rfl (Nat.le_of_ble_eq_true rfl) d_Po_join_19 ⟨Nat.zero_le _, Nat.zero_le _⟩) (fun H locs h => ?_)
      have h : bn_H (bn_y D ar ad nf) s.heap H locs (o_Li_empty (sU (sO (sO N 2 x none) 3 x none) 2 x 0) x) := h
      refine lv_aload_n E1 E2 d_Po_join_22 rfl (lv_at hl 0 rfl) ?_
      refine g_Po_owner F h (by omega) k_130 d_Po_join_23 ?_
      refine lv_aload_n E1 E2 d_Po_join_26 rfl (lv_at hl 0 rfl) ?_
      refine g_Po_number F h (by omega) k_133 d_Po_join_27 ?_
      refine bn_callv F h (bn_runV (n := 1) (As := [.int (nI (x % 4))]) (rest := []) F hml hl.1 h (mm_2 (by omega)) rfl rfl (c_Br_forgetBehind l D ar ad nf (o_Li_empty (sU (sO (sO N 2 x none) 3 x none) 2 x 0) x) (x / 4) (by omega) (x % 4) (by omega) _) (bn_goodV k_338 k_339 k_340 k_2 k_341) rfl rfl (by decide) ⟨by decide, by decide⟩ rfl rfl (Nat.le_of_ble_eq_true rfl) d_Po_join_30 ⟨Nat.zero_le _, Nat.zero_le _⟩) (fun H locs h => ?_)
      have h : bn_H (bn_y D ar ad nf) s.heap H locs (o_Br_forgetBehind (o_Li_empty (sU (sO (sO N 2 x none) 3 x none) 2 x 0) x) (x / 4) (x % 4)) := h
      refine lv_aload_n E1 E2 d_Po_join_33 rfl (lv_at hl 0 rfl) ?_
      refine lv_iconst (v := 0) E1 E2 d_Po_join_34 (by decide) ?_
      refine bn_callv F h (bn_runV (n := 1) (As := [.int 0]) (rest := []) F hml hl.1 h (mm_6 (by omega)) rfl rfl (c_Po_become l D ar ad nf (o_Br_forgetBehind (o_Li_empty (sU (sO (sO N 2 x none) 3 x none) 2 x 0) x) (x / 4) (x % 4)) x (by omega) 0 _) (bn_goodV k_342 k_289 k_290 k_3 k_291) rfl rfl (by decide) ⟨by decide, by decide⟩ rfl rfl (Nat.le_of_ble_eq_true rfl) d_Po_join_35 ⟨Nat.zero_le _, Nat.zero_le _⟩) (fun H locs h => ?_)
      have h : bn_H (bn_y D ar ad nf) s.heap H locs (o_Po_become (o_Br_forgetBehind (o_Li_empty (sU (sO (sO N 2 x none) 3 x none) 2 x 0) x) (x / 4) (x % 4)) x 0) := h
      have hq : o_Po_join N x none none = (o_Po_become (o_Br_forgetBehind (o_Li_empty (sU (sO (sO N 2 x none) 3 x none) 2 x 0) x) (x / 4) (x % 4)) x 0) := Eq.trans (bn_oc_n rfl) (bn_oc_n rfl)
      exact bn_retv F hr hk h hq.symm d_Po_join_38
    | some t_ =>
      have ht_ := ht t_ rfl
      refine bn_start (cc := b_Po_join) (maxL := 3) (ret := (Option.none : Option Jvm.ClassFile.FieldType)) (by decide) rfl (Nat.le_of_ble_eq_true rfl) ?_
      intro p e s m args below meth c ls hsz F hml hr hk hl h
      subst hsz
      have E1 := F.1
      have E2 := F.2.1
      have hl : lv_has ls 3 [(0, .ref (ad 6 x)), (1, .null), (2, .ref (ad 11 t_))] := hl
      refine lv_aload_n E1 E2 d_Po_join_0 rfl (lv_at hl 0 rfl) ?_
      refine lv_aload_nN E1 E2 d_Po_join_1 rfl (lv_at hl 1 rfl) ?_
      refine p_Po_peer F h (by omega) k_143 (none) (fun _ hz => by cases hz) d_Po_join_2 (fun H locs h => ?_)
      have h : bn_H (bn_y D ar ad nf) s.heap H locs (sO N 2 x none) := h
      refine lv_aload_n E1 E2 d_Po_join_5 rfl (lv_at hl 0 rfl) ?_
      refine lv_aload_n E1 E2 d_Po_join_6 rfl (lv_at hl 2 rfl) ?_
      refine p_Po_station F h (by omega) k_146 (some t_) (fun _ hz => by cases hz; omega) d_Po_join_7 (fun H locs h => ?_)
      have h : bn_H (bn_y D ar ad nf) s.heap H locs (sO (sO N 2 x none) 3 x (some t_)) := h
      refine lv_aload_n E1 E2 d_Po_join_10 rfl (lv_at hl 0 rfl) ?_
      refine lv_iconst (v := 0) E1 E2 d_Po_join_11 (by decide) ?_
      refine p_Po_hasInfo F h (by omega) k_148 (v := 0) (by omega) d_Po_join_12 (fun H locs h => ?_)
      have h : bn_H (bn_y D ar ad nf) s.heap H locs (sU (sO (sO N 2 x none) 3 x (some t_)) 2 x 0) := h
      refine lv_aload_n E1 E2 d_Po_join_15 rfl (lv_at hl 0 rfl) ?_
      refine g_Po_line F h (by omega) k_135 d_Po_join_16 ?_
      refine bn_callv F h (bn_runV (n := 0) (As := []) (rest := []) F hml hl.1 h (mm_7 (by omega)) rfl rfl (c_Li_empty l D ar ad nf (sU (sO (sO N 2 x none) 3 x (some t_)) 2 x 0) x (by omega) _) (bn_goodV k_334 k_335 k_336 k_4 k_337) rfl rfl (by decide) ⟨by decide, by decide⟩ rfl rfl (Nat.le_of_ble_eq_true rfl) d_Po_join_19 ⟨Nat.zero_le _, Nat.zero_le _⟩) (fun H locs h => ?_)
      have h : bn_H (bn_y D ar ad nf) s.heap H locs (o_Li_empty (sU (sO (sO N 2 x none) 3 x (some t_)) 2 x 0) x) := h
      refine lv_aload_n E1 E2 d_Po_join_22 rfl (lv_at hl 0 rfl) ?_
      refine g_Po_owner F h (by omega) k_130 d_Po_join_23 ?_
      refine lv_aload_n E1 E2 d_Po_join_26 rfl (lv_at hl 0 rfl) ?_
      refine g_Po_number F h (by omega) k_133 d_Po_join_27 ?_
      refine bn_callv F h (bn_runV (n := 1) (As := [.int (nI (x % 4))]) (rest := []) F hml hl.1 h (mm_2 (by omega)) rfl rfl (c_Br_forgetBehind l D ar ad nf (o_Li_empty (sU (sO (sO N 2 x none) 3 x (some t_)) 2 x 0) x) (x / 4) (by omega) (x % 4) (by omega) _) (bn_goodV k_338 k_339 k_340 k_2 k_341) rfl rfl (by decide) ⟨by decide, by decide⟩ rfl rfl (Nat.le_of_ble_eq_true rfl) d_Po_join_30 ⟨Nat.zero_le _, Nat.zero_le _⟩) (fun H locs h => ?_)
      have h : bn_H (bn_y D ar ad nf) s.heap H locs (o_Br_forgetBehind (o_Li_empty (sU (sO (sO N 2 x none) 3 x (some t_)) 2 x 0) x) (x / 4) (x % 4)) := h
      refine lv_aload_n E1 E2 d_Po_join_33 rfl (lv_at hl 0 rfl) ?_
      refine lv_iconst (v := 0) E1 E2 d_Po_join_34 (by decide) ?_
      refine bn_callv F h (bn_runV (n := 1) (As := [.int 0]) (rest := []) F hml hl.1 h (mm_6 (by omega)) rfl rfl (c_Po_become l D ar ad nf (o_Br_forgetBehind (o_Li_empty (sU (sO (sO N 2 x none) 3 x (some t_)) 2 x 0) x) (x / 4) (x % 4)) x (by omega) 0 _) (bn_goodV k_342 k_289 k_290 k_3 k_291) rfl rfl (by decide) ⟨by decide, by decide⟩ rfl rfl (Nat.le_of_ble_eq_true rfl) d_Po_join_35 ⟨Nat.zero_le _, Nat.zero_le _⟩) (fun H locs h => ?_)
      have h : bn_H (bn_y D ar ad nf) s.heap H locs (o_Po_become (o_Br_forgetBehind (o_Li_empty (sU (sO (sO N 2 x none) 3 x (some t_)) 2 x 0) x) (x / 4) (x % 4)) x 0) := h
      have hq : o_Po_join N x none (some t_) = (o_Po_become (o_Br_forgetBehind (o_Li_empty (sU (sO (sO N 2 x none) 3 x (some t_)) 2 x 0) x) (x / 4) (x % 4)) x 0) := Eq.trans (bn_oc_n rfl) (bn_oc_s rfl)
      exact bn_retv F hr hk h hq.symm d_Po_join_38
  | some q_ =>
    have hq_ := hq q_ rfl
    cases t with
    | none =>
      refine bn_start (cc := b_Po_join) (maxL := 3) (ret := (Option.none : Option Jvm.ClassFile.FieldType)) (by decide) rfl (Nat.le_of_ble_eq_true rfl) ?_
      intro p e s m args below meth c ls hsz F hml hr hk hl h
      subst hsz
      have E1 := F.1
      have E2 := F.2.1
      have hl : lv_has ls 3 [(0, .ref (ad 6 x)), (1, .ref (ad 6 q_)), (2, .null)] := hl
      refine lv_aload_n E1 E2 d_Po_join_0 rfl (lv_at hl 0 rfl) ?_
      refine lv_aload_n E1 E2 d_Po_join_1 rfl (lv_at hl 1 rfl) ?_
      refine p_Po_peer F h (by omega) k_143 (some q_) (fun _ hz => by cases hz; omega) d_Po_join_2 (fun H locs h => ?_)
      have h : bn_H (bn_y D ar ad nf) s.heap H locs (sO N 2 x (some q_)) := h
      refine lv_aload_n E1 E2 d_Po_join_5 rfl (lv_at hl 0 rfl) ?_
      refine lv_aload_nN E1 E2 d_Po_join_6 rfl (lv_at hl 2 rfl) ?_
      refine p_Po_station F h (by omega) k_146 (none) (fun _ hz => by cases hz) d_Po_join_7 (fun H locs h => ?_)
      have h : bn_H (bn_y D ar ad nf) s.heap H locs (sO (sO N 2 x (some q_)) 3 x none) := h
      refine lv_aload_n E1 E2 d_Po_join_10 rfl (lv_at hl 0 rfl) ?_
      refine lv_iconst (v := 0) E1 E2 d_Po_join_11 (by decide) ?_
      refine p_Po_hasInfo F h (by omega) k_148 (v := 0) (by omega) d_Po_join_12 (fun H locs h => ?_)
      have h : bn_H (bn_y D ar ad nf) s.heap H locs (sU (sO (sO N 2 x (some q_)) 3 x none) 2 x 0) := h
      refine lv_aload_n E1 E2 d_Po_join_15 rfl (lv_at hl 0 rfl) ?_
      refine g_Po_line F h (by omega) k_135 d_Po_join_16 ?_
      refine bn_callv F h (bn_runV (n := 0) (As := []) (rest := []) F hml hl.1 h (mm_7 (by omega)) rfl rfl (c_Li_empty l D ar ad nf (sU (sO (sO N 2 x (some q_)) 3 x none) 2 x 0) x (by omega) _) (bn_goodV k_334 k_335 k_336 k_4 k_337) rfl rfl (by decide) ⟨by decide, by decide⟩ rfl rfl (Nat.le_of_ble_eq_true rfl) d_Po_join_19 ⟨Nat.zero_le _, Nat.zero_le _⟩) (fun H locs h => ?_)
      have h : bn_H (bn_y D ar ad nf) s.heap H locs (o_Li_empty (sU (sO (sO N 2 x (some q_)) 3 x none) 2 x 0) x) := h
      refine lv_aload_n E1 E2 d_Po_join_22 rfl (lv_at hl 0 rfl) ?_
      refine g_Po_owner F h (by omega) k_130 d_Po_join_23 ?_
      refine lv_aload_n E1 E2 d_Po_join_26 rfl (lv_at hl 0 rfl) ?_
      refine g_Po_number F h (by omega) k_133 d_Po_join_27 ?_
      refine bn_callv F h (bn_runV (n := 1) (As := [.int (nI (x % 4))]) (rest := []) F hml hl.1 h (mm_2 (by omega)) rfl rfl (c_Br_forgetBehind l D ar ad nf (o_Li_empty (sU (sO (sO N 2 x (some q_)) 3 x none) 2 x 0) x) (x / 4) (by omega) (x % 4) (by omega) _) (bn_goodV k_338 k_339 k_340 k_2 k_341) rfl rfl (by decide) ⟨by decide, by decide⟩ rfl rfl (Nat.le_of_ble_eq_true rfl) d_Po_join_30 ⟨Nat.zero_le _, Nat.zero_le _⟩) (fun H locs h => ?_)
      have h : bn_H (bn_y D ar ad nf) s.heap H locs (o_Br_forgetBehind (o_Li_empty (sU (sO (sO N 2 x (some q_)) 3 x none) 2 x 0) x) (x / 4) (x % 4)) := h
      refine lv_aload_n E1 E2 d_Po_join_33 rfl (lv_at hl 0 rfl) ?_
      refine lv_iconst (v := 0) E1 E2 d_Po_join_34 (by decide) ?_
      refine bn_callv F h (bn_runV (n := 1) (As := [.int 0]) (rest := []) F hml hl.1 h (mm_6 (by omega)) rfl rfl (c_Po_become l D ar ad nf (o_Br_forgetBehind (o_Li_empty (sU (sO (sO N 2 x (some q_)) 3 x none) 2 x 0) x) (x / 4) (x % 4)) x (by omega) 0 _) (bn_goodV k_342 k_289 k_290 k_3 k_291) rfl rfl (by decide) ⟨by decide, by decide⟩ rfl rfl (Nat.le_of_ble_eq_true rfl) d_Po_join_35 ⟨Nat.zero_le _, Nat.zero_le _⟩) (fun H locs h => ?_)
      have h : bn_H (bn_y D ar ad nf) s.heap H locs (o_Po_become (o_Br_forgetBehind (o_Li_empty (sU (sO (sO N 2 x (some q_)) 3 x none) 2 x 0) x) (x / 4) (x % 4)) x 0) := h
      have hq : o_Po_join N x (some q_) none = (o_Po_become (o_Br_forgetBehind (o_Li_empty (sU (sO (sO N 2 x (some q_)) 3 x none) 2 x 0) x) (x / 4) (x % 4)) x 0) := Eq.trans (bn_oc_s rfl) (bn_oc_n rfl)
      exact bn_retv F hr hk h hq.symm d_Po_join_38
    | some t_ =>
      have ht_ := ht t_ rfl
      refine bn_start (cc := b_Po_join) (maxL := 3) (ret := (Option.none : Option Jvm.ClassFile.FieldType)) (by decide) rfl (Nat.le_of_ble_eq_true rfl) ?_
      intro p e s m args below meth c ls hsz F hml hr hk hl h
      subst hsz
      have E1 := F.1
      have E2 := F.2.1
      have hl : lv_has ls 3 [(0, .ref (ad 6 x)), (1, .ref (ad 6 q_)), (2, .ref (ad 11 t_))] := hl
      refine lv_aload_n E1 E2 d_Po_join_0 rfl (lv_at hl 0 rfl) ?_
      refine lv_aload_n E1 E2 d_Po_join_1 rfl (lv_at hl 1 rfl) ?_
      refine p_Po_peer F h (by omega) k_143 (some q_) (fun _ hz => by cases hz; omega) d_Po_join_2 (fun H locs h => ?_)
      have h : bn_H (bn_y D ar ad nf) s.heap H locs (sO N 2 x (some q_)) := h
      refine lv_aload_n E1 E2 d_Po_join_5 rfl (lv_at hl 0 rfl) ?_
      refine lv_aload_n E1 E2 d_Po_join_6 rfl (lv_at hl 2 rfl) ?_
      refine p_Po_station F h (by omega) k_146 (some t_) (fun _ hz => by cases hz; omega) d_Po_join_7 (fun H locs h => ?_)
      have h : bn_H (bn_y D ar ad nf) s.heap H locs (sO (sO N 2 x (some q_)) 3 x (some t_)) := h
      refine lv_aload_n E1 E2 d_Po_join_10 rfl (lv_at hl 0 rfl) ?_
      refine lv_iconst (v := 0) E1 E2 d_Po_join_11 (by decide) ?_
      refine p_Po_hasInfo F h (by omega) k_148 (v := 0) (by omega) d_Po_join_12 (fun H locs h => ?_)
      have h : bn_H (bn_y D ar ad nf) s.heap H locs (sU (sO (sO N 2 x (some q_)) 3 x (some t_)) 2 x 0) := h
      refine lv_aload_n E1 E2 d_Po_join_15 rfl (lv_at hl 0 rfl) ?_
      refine g_Po_line F h (by omega) k_135 d_Po_join_16 ?_
      refine bn_callv F h (bn_runV (n := 0) (As := []) (rest := []) F hml hl.1 h (mm_7 (by omega)) rfl rfl (c_Li_empty l D ar ad nf (sU (sO (sO N 2 x (some q_)) 3 x (some t_)) 2 x 0) x (by omega) _) (bn_goodV k_334 k_335 k_336 k_4 k_337) rfl rfl (by decide) ⟨by decide, by decide⟩ rfl rfl (Nat.le_of_ble_eq_true rfl) d_Po_join_19 ⟨Nat.zero_le _, Nat.zero_le _⟩) (fun H locs h => ?_)
      have h : bn_H (bn_y D ar ad nf) s.heap H locs (o_Li_empty (sU (sO (sO N 2 x (some q_)) 3 x (some t_)) 2 x 0) x) := h
      refine lv_aload_n E1 E2 d_Po_join_22 rfl (lv_at hl 0 rfl) ?_
      refine g_Po_owner F h (by omega) k_130 d_Po_join_23 ?_
      refine lv_aload_n E1 E2 d_Po_join_26 rfl (lv_at hl 0 rfl) ?_
      refine g_Po_number F h (by omega) k_133 d_Po_join_27 ?_
      refine bn_callv F h (bn_runV (n := 1) (As := [.int (nI (x % 4))]) (rest := []) F hml hl.1 h (mm_2 (by omega)) rfl rfl (c_Br_forgetBehind l D ar ad nf (o_Li_empty (sU (sO (sO N 2 x (some q_)) 3 x (some t_)) 2 x 0) x) (x / 4) (by omega) (x % 4) (by omega) _) (bn_goodV k_338 k_339 k_340 k_2 k_341) rfl rfl (by decide) ⟨by decide, by decide⟩ rfl rfl (Nat.le_of_ble_eq_true rfl) d_Po_join_30 ⟨Nat.zero_le _, Nat.zero_le _⟩) (fun H locs h => ?_)
      have h : bn_H (bn_y D ar ad nf) s.heap H locs (o_Br_forgetBehind (o_Li_empty (sU (sO (sO N 2 x (some q_)) 3 x (some t_)) 2 x 0) x) (x / 4) (x % 4)) := h
      refine lv_aload_n E1 E2 d_Po_join_33 rfl (lv_at hl 0 rfl) ?_
      refine lv_iconst (v := 0) E1 E2 d_Po_join_34 (by decide) ?_
      refine bn_callv F h (bn_runV (n := 1) (As := [.int 0]) (rest := []) F hml hl.1 h (mm_6 (by omega)) rfl rfl (c_Po_become l D ar ad nf (o_Br_forgetBehind (o_Li_empty (sU (sO (sO N 2 x (some q_)) 3 x (some t_)) 2 x 0) x) (x / 4) (x % 4)) x (by omega) 0 _) (bn_goodV k_342 k_289 k_290 k_3 k_291) rfl rfl (by decide) ⟨by decide, by decide⟩ rfl rfl (Nat.le_of_ble_eq_true rfl) d_Po_join_35 ⟨Nat.zero_le _, Nat.zero_le _⟩) (fun H locs h => ?_)
      have h : bn_H (bn_y D ar ad nf) s.heap H locs (o_Po_become (o_Br_forgetBehind (o_Li_empty (sU (sO (sO N 2 x (some q_)) 3 x (some t_)) 2 x 0) x) (x / 4) (x % 4)) x 0) := h
      have hq : o_Po_join N x (some q_) (some t_) = (o_Po_become (o_Br_forgetBehind (o_Li_empty (sU (sO (sO N 2 x (some q_)) 3 x (some t_)) 2 x 0) x) (x / 4) (x % 4)) x 0) := Eq.trans (bn_oc_s rfl) (bn_oc_s rfl)
      exact bn_retv F hr hk h hq.symm d_Po_join_38
theorem kp_it_forget (b pp : Nat) (q : bn_S) : ∀ k, (it_Br_forgetBehind b pp q k).2 = q.2
  | 0 => rfl
  | k + 1 => by
    rw [← it_Br_forgetBehind_s]
    unfold bd_Br_forgetBehind
    split
    · exact kp_it_forget b pp q k
    · exact kp_it_forget b pp q k
theorem kp_forget (N : bn_S) (b pp : Nat) : (o_Br_forgetBehind N b pp).2 = N.2 := kp_it_forget b pp N 16
theorem kp_become (N : bn_S) (x : Nat) (r : Int32) : (o_Po_become N x r).2.2 = N.2.2 := by
  unfold o_Po_become
  split
  · cases h : N.2.2.2 3 x with
    | none => rfl
    | some y => show (if r = 1 then _ else _ : bn_S).2.2 = _; split <;> rfl
  · split <;> rfl
theorem kp4_Po_join (N : bn_S) (x : Nat) (q t : Option Nat) (i : Nat) : (o_Po_join N x q t).2.2.2 4 i = N.2.2.2 4 i := by
  unfold o_Po_join
  cases q <;> cases t <;> (simp only [bn_oc]; rw [kp_become, kp_forget]; simp [o_Li_empty, sU, sO, bn_up])
def o_St_leave (N : bn_S) (t : Nat) : bn_S := (bn_oc (N.2.2.2 4 t) N (fun y2 => (sO (o_Br_compute (o_Po_join N y2 none none) (y2 / 4)) 4 t none)))
set_option maxHeartbeats 4000000 in
set_option maxRecDepth 100000 in
theorem c_St_leave (l : Launch) (D : va_G) (ar : Nat → ClassId) (ad : Nat → Nat → Nat) (nf : Nat) (N : bn_S) (t : Nat) (ht : t < 8) : bn_V l y_St_leave w_St_leave { frames := 5, cells := 0, slots := 0, locals := 118 } (bn_y D ar ad nf) N [.ref (ad 11 t)] (o_St_leave N t) := by
  intro sz
  refine bn_start (cc := b_St_leave) (maxL := 1) (ret := (Option.none : Option Jvm.ClassFile.FieldType)) (by decide) rfl (Nat.le_of_ble_eq_true rfl) ?_
  intro p e s m args below meth c ls hsz F hml hr hk hl h
  subst hsz
  have E1 := F.1
  have E2 := F.2.1
  have hl : lv_has ls 1 [(0, .ref (ad 11 t))] := hl
  refine lv_aload_n E1 E2 d_St_leave_0 rfl (lv_at hl 0 rfl) ?_
  refine g_St_place F h (by omega) k_201 d_St_leave_1 (fun ho1 => ?_) (fun y2 ho1 hy2 => ?_)
  · skip
    refine lv_ifnullN E1 E2 d_St_leave_4 rfl ?_
    have hq : o_St_leave N t = N := bn_oc_n ho1
    exact bn_retv F hr hk h hq.symm d_St_leave_31
  · skip
    refine lv_ifnull E1 E2 d_St_leave_4 ?_
    refine lv_aload_n E1 E2 d_St_leave_7 rfl (lv_at hl 0 rfl) ?_
    refine g_St_place_s F h (by omega) k_201 ho1 d_St_leave_8 ?_
    refine lv_null E1 E2 d_St_leave_11 ?_
    refine lv_null E1 E2 d_St_leave_12 ?_
    refine bn_callv F h (bn_runV (n := 2) (As := [.null, .null]) (rest := []) F hml hl.1 h (mm_6 (by omega)) rfl rfl (c_Po_join l D ar ad nf N y2 (by omega) none (fun _ hz => by cases hz) none (fun _ hz => by cases hz) _) (bn_goodV k_571 k_331 k_332 k_3 k_333) rfl rfl (by decide) ⟨by decide, by decide⟩ rfl rfl (Nat.le_of_ble_eq_true rfl) d_St_leave_13 ⟨Nat.zero_le _, Nat.zero_le _⟩) (fun H locs h => ?_)
    have h : bn_H (bn_y D ar ad nf) s.heap H locs (o_Po_join N y2 none none) := h
    refine lv_aload_n E1 E2 d_St_leave_16 rfl (lv_at hl 0 rfl) ?_
    refine g_St_place_s F h (by omega) k_201 ((kp4_Po_join _ _ _ _ _).trans ho1) d_St_leave_17 ?_
    refine g_Po_owner F h (by omega) k_131 d_St_leave_20 ?_
    refine bn_callv F h (bn_runV (n := 0) (As := []) (rest := []) F hml hl.1 h (mm_2 (by omega)) rfl rfl (c_Br_compute l D ar ad nf (o_Po_join N y2 none none) (y2 / 4) (by omega) _) (bn_goodV k_572 k_249 k_250 k_2 k_251) rfl rfl (by decide) ⟨by decide, by decide⟩ rfl rfl (Nat.le_of_ble_eq_true rfl) d_St_leave_23 ⟨Nat.zero_le _, Nat.zero_le _⟩) (fun H locs h => ?_)
    have h : bn_H (bn_y D ar ad nf) s.heap H locs (o_Br_compute (o_Po_join N y2 none none) (y2 / 4)) := h
    refine lv_aload_n E1 E2 d_St_leave_26 rfl (lv_at hl 0 rfl) ?_
    refine lv_null E1 E2 d_St_leave_27 ?_
    refine p_St_place F h (by omega) k_201 (none) (fun _ hz => by cases hz) d_St_leave_28 (fun H locs h => ?_)
    have h : bn_H (bn_y D ar ad nf) s.heap H locs (sO (o_Br_compute (o_Po_join N y2 none none) (y2 / 4)) 4 t none) := h
    have hq : o_St_leave N t = (sO (o_Br_compute (o_Po_join N y2 none none) (y2 / 4)) 4 t none) := bn_oc_s ho1
    exact bn_retv F hr hk h hq.symm d_St_leave_31
def o_St_settle (N : bn_S) (t : Nat) (x : Nat) (v : Nat) : bn_S := (o_Br_compute (o_Po_join (sU (sO N 4 t (some x)) 8 t v) x none (some t)) (x / 4))
set_option maxHeartbeats 4000000 in
set_option maxRecDepth 100000 in
theorem c_St_settle (l : Launch) (D : va_G) (ar : Nat → ClassId) (ad : Nat → Nat → Nat) (nf : Nat) (N : bn_S) (t : Nat) (ht : t < 8) (x : Nat) (hx : x < 20) (v : Nat) (hv : v < 3) (hv0 : 1 ≤ v) : bn_V l y_St_settle w_St_settle { frames := 5, cells := 0, slots := 0, locals := 118 } (bn_y D ar ad nf) N [.ref (ad 11 t), .ref (ad 6 x), .int (nI v)] (o_St_settle N t x v) := by
  intro sz
  refine bn_start (cc := b_St_settle) (maxL := 3) (ret := (Option.none : Option Jvm.ClassFile.FieldType)) (by decide) rfl (Nat.le_of_ble_eq_true rfl) ?_
  intro p e s m args below meth c ls hsz F hml hr hk hl h
  subst hsz
  have E1 := F.1
  have E2 := F.2.1
  have hl : lv_has ls 3 [(0, .ref (ad 11 t)), (1, .ref (ad 6 x)), (2, .int (nI v))] := hl
  refine lv_aload_n E1 E2 d_St_settle_0 rfl (lv_at hl 0 rfl) ?_
  refine lv_aload_n E1 E2 d_St_settle_1 rfl (lv_at hl 1 rfl) ?_
  refine p_St_place F h (by omega) k_201 (some x) (fun _ hz => by cases hz; omega) d_St_settle_2 (fun H locs h => ?_)
  have h : bn_H (bn_y D ar ad nf) s.heap H locs (sO N 4 t (some x)) := h
  refine lv_aload_n E1 E2 d_St_settle_5 rfl (lv_at hl 0 rfl) ?_
  refine lv_iload_n E1 E2 d_St_settle_6 rfl (lv_at hl 2 rfl) ?_
  refine p_St_vlan F h (by omega) k_203 (v := v) (by omega) (by omega) d_St_settle_7 (fun H locs h => ?_)
  have h : bn_H (bn_y D ar ad nf) s.heap H locs (sU (sO N 4 t (some x)) 8 t v) := h
  refine lv_aload_n E1 E2 d_St_settle_10 rfl (lv_at hl 1 rfl) ?_
  refine lv_null E1 E2 d_St_settle_11 ?_
  refine lv_aload_n E1 E2 d_St_settle_12 rfl (lv_at hl 0 rfl) ?_
  refine bn_callv F h (bn_runV (n := 2) (As := [.null, .ref (ad 11 t)]) (rest := []) F hml hl.1 h (mm_6 (by omega)) rfl rfl (c_Po_join l D ar ad nf (sU (sO N 4 t (some x)) 8 t v) x (by omega) none (fun _ hz => by cases hz) (some t) (fun _ hz => by cases hz; omega) _) (bn_goodV k_571 k_331 k_332 k_3 k_333) rfl rfl (by decide) ⟨by decide, by decide⟩ rfl rfl (Nat.le_of_ble_eq_true rfl) d_St_settle_13 ⟨Nat.zero_le _, Nat.zero_le _⟩) (fun H locs h => ?_)
  have h : bn_H (bn_y D ar ad nf) s.heap H locs (o_Po_join (sU (sO N 4 t (some x)) 8 t v) x none (some t)) := h
  refine lv_aload_n E1 E2 d_St_settle_16 rfl (lv_at hl 1 rfl) ?_
  refine g_Po_owner F h (by omega) k_131 d_St_settle_17 ?_
  refine bn_callv F h (bn_runV (n := 0) (As := []) (rest := []) F hml hl.1 h (mm_2 (by omega)) rfl rfl (c_Br_compute l D ar ad nf (o_Po_join (sU (sO N 4 t (some x)) 8 t v) x none (some t)) (x / 4) (by omega) _) (bn_goodV k_572 k_249 k_250 k_2 k_251) rfl rfl (by decide) ⟨by decide, by decide⟩ rfl rfl (Nat.le_of_ble_eq_true rfl) d_St_settle_20 ⟨Nat.zero_le _, Nat.zero_le _⟩) (fun H locs h => ?_)
  have h : bn_H (bn_y D ar ad nf) s.heap H locs (o_Br_compute (o_Po_join (sU (sO N 4 t (some x)) 8 t v) x none (some t)) (x / 4)) := h
  have hq : o_St_settle N t x v = (o_Br_compute (o_Po_join (sU (sO N 4 t (some x)) 8 t v) x none (some t)) (x / 4)) := rfl
  exact bn_retv F hr hk h hq.symm d_St_settle_23
