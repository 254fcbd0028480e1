/-! the law's send and deliver, which write their answer into an array; written by wip/whole/gen_law.py -/
section BLO
variable {p : Program} {l : Launch} {e : Env} {R : Room} {s : State} {m : MethodId} {args : Array Value} {below : List Frame} {meth : Method} {c : Code} {H : Heap} {locs : List Loc} {cells slots : Nat} {Q : State → Prop}
variable {cc : ByteArray} {pc : Nat} {ls : Array Slot} {rest : List Value} {D : va_G} {ar : Nat → ClassId} {ad ad2 : Nat → Nat → Nat} {nf nf2 : Nat} {N' : bn_S} {own : String} {A : Nat → Prop}
theorem bl_S {r : Nat} (h : va_S A s.heap H locs) : va_S (fun q => A q ∨ q = r) s.heap H locs := ⟨h.1, fun q h1 h2 => h.2.1 q h1 (fun h3 => h2 (Or.inl h3)), fun q hq => Or.inl (h.2.2 q hq)⟩
theorem bl_out (F : bn_F p s m args c cc own (bn_y D ar ad nf)) (hP : va_P D bn_cl (bn_ws (bn_y D ar ad2 nf2) N') H) (hD : va_D A (bn_ws (bn_y D ar ad2 nf2) N')) (hS : va_S A s.heap H locs) {r : Nat} {f : Nat → Int64} {x : Int64} (hr : H[r]? = some (vp_cell (ar 1) (1, .inr (.inl f)))) (hrA : ¬ A r) (hdg : decode cc pc = .ok (.lastore, 1))
    (kk : ∀ (H2 : Heap) (locs2 : List Loc), va_P D bn_cl (bn_ws (bn_y D ar ad2 nf2) N') H2 → va_S (fun q => A q ∨ q = r) s.heap H2 locs2 → H2[r]? = some (vp_cell (ar 1) (1, .inr (.inl (vp_updL f 0 x)))) → W p l e R s m args below meth c H2 locs2 cells slots Q (F0 m (pc + 1) ls rest)) :
    W p l e R s m args below meth c H locs cells slots Q (F0 m pc ls (.long x :: .int 0 :: .ref r :: rest)) := by
  have hP2 : va_P D bn_cl (bn_ws (bn_y D ar ad2 nf2) N' ++ [(r, .inl (ar 1, 1, .inr (.inl f)))]) H := hP.app (fun i q hi => by
    have h1 : i < 1 := (List.getElem?_eq_some_iff.mp hi).1
    rw [show i = 0 by omega] at hi
    cases hi
    exact hr)
  have hD2 : va_D (fun q => A q ∨ q = r) (bn_ws (bn_y D ar ad2 nf2) N' ++ [(r, .inl (ar 1, 1, .inr (.inl f)))]) := va_D.app (hD.weaken (fun _ _ _ h => Or.inl h)) (bn_one (Or.inr rfl)) (fun i j u v hi hj huv => by
    have h1 : j < 1 := (List.getElem?_eq_some_iff.mp hj).1
    rw [show j = 0 by omega] at hj
    cases hj
    have h2 := hD.2 i u hi
    rw [huv] at h2
    exact hrA h2)
  refine va_last (a := r) (n := 1) (f := f) (cA := ar 1) (i := 0) F.1 F.2.1 F.2.2.2.2 hP2 hD2 (bl_S hS) (bn_ws (bn_y D ar ad2 nf2) N').length 1 (by simp) rfl (by rw [← nI_0]; exact vp_in_nI (by omega) (by omega)) hdg (fun H2 locs2 hP3 hD3 hS3 => ?_)
  rw [List.set_append_right _ _ (Nat.le_refl _), Nat.sub_self] at hP3
  refine kk H2 locs2 (fun i q hi => hP3 i q (by rw [List.getElem?_append_left (List.getElem?_eq_some_iff.mp hi).1]; exact hi)) hS3 ?_
  exact hP3 (bn_ws (bn_y D ar ad2 nf2) N').length (r, .inl (ar 1, 1, .inr (.inl (vp_updL f 0 x)))) (by simp)
theorem bl_nA {r sz : Nat} (hr : ∀ k x : Nat, (k, x) ∈ bn_ix nf → ¬ ad k x = r) (h : r < sz) : ¬ bn_AY (bn_y D ar ad nf) sz r := by
  rintro (⟨k, x, hm, he⟩ | h2)
  · exact hr k x hm he
  · omega
theorem bl_lt {r : Nat} {x : Cell} (h : s.heap[r]? = some x) : r < s.heap.size := (Array.getElem?_eq_some_iff.mp h).1
end BLO
def bl_E (ar : Nat → ClassId) (r k : Nat) (v : Int32) (H : Heap) : Prop := ∃ g : Nat → Int64, H[r]? = some (vp_cell (ar 1) (1, .inr (.inl g))) ∧ (k = 0 → g 0 = Int32.toInt64 v)
theorem send_k (N : bn_S) (nf : Nat) (sa da va : Int32) : (o_Ne_send N nf sa da va).1 = 0 ∨ (o_Ne_send N nf sa da va).1 = 1 ∨ (o_Ne_send N nf sa da va).1 = 2 ∨ (o_Ne_send N nf sa da va).1 = 3 := by
  unfold o_Ne_send bn_oc
  repeat' split
  all_goals first | (simp; done) | (dsimp only; split <;> simp; done) | (dsimp only; repeat' split) <;> simp
theorem send_n : (parseMethodDescriptor y_Ne_send.desc).map (fun d => d.parameters.length) = some 3 := by decide
def send_c : Nat → Int32
  | 0 => 0
  | 1 => 1
  | 2 => 3
  | _ => 2
abbrev w_La_send : List Cond := Cond.codeWith y_La_send b_La_send 6 (some .int) (bx_tb 12 [(15, 1), (19, 3), (23, 2)]) :: bn_all
set_option maxHeartbeats 4000000 in
theorem c_La_send (l : Launch) (hfl : l.flags = flags0) (D : va_G) (ar : Nat → ClassId) (ad : Nat → Nat → Nat) (nf : Nat) (N : bn_S) (sa da va : Int32) (r : Nat) (f : Nat → Int64) (hr0 : ∀ k x : Nat, (k, x) ∈ bn_ix nf → ¬ ad k x = r) (sz : Nat) :
    Met l y_La_send w_La_send { frames := 7, cells := 1, slots := 6, locals := 180 } (va_Pc [.ref (ad 0 0), .int sa, .int da, .int va, .ref r] (fun U => (bn_Pre (bn_y D ar ad nf) N sz U ∧ bx_O U) ∧ U.heap[r]? = some (vp_cell (ar 1) (1, .inr (.inl f)))))
      (bn_QL D ar ad (if (o_Ne_send N nf sa da va).1 = 0 then nf + 1 else nf) (bn_AY (bn_y D ar ad nf) sz) (fun q => bn_AY (bn_y D ar ad nf) sz q ∨ q = r) (send_c (o_Ne_send N nf sa da va).1) (o_Ne_send N nf sa da va).2.2 (bl_E ar r (o_Ne_send N nf sa da va).1 (o_Ne_send N nf sa da va).2.1)) 1 6 (fun q => bn_AY (bn_y D ar ad nf) sz q ∨ q = r) := by
  refine bl_start (y := y_La_send) (Y := bn_y D ar ad nf) (N := N) (av := [.ref (ad 0 0), .int sa, .int da, .int va, .ref r]) (E := fun H => H[r]? = some (vp_cell (ar 1) (1, .inr (.inl f)))) (sz := sz) (cc := b_La_send) (maxL := 6) (ret := some .int) (by decide) rfl (Nat.le_of_ble_eq_true rfl) ?_
  intro p e s m args below meth c ls hsz F hml hr hk hl h hO htab hE
  subst hsz
  have hrA : ¬ bn_AY (bn_y D ar ad nf) s.heap.size r := bl_nA hr0 (bl_lt hE)
  have E1 := F.1
  have E2 := F.2.1
  have hl : lv_has ls 6 [(0, .ref (ad 0 0)), (1, .int sa), (2, .int da), (3, .int va), (4, .ref r)] := hl
  refine lv_aload E1 E2 d_La_send_0 (lv_at hl 4 rfl) ?_
  refine lv_iconst (v := 0) E1 E2 d_La_send_2 (by decide) ?_
  refine lv_aload_n E1 E2 d_La_send_3 rfl (lv_at hl 0 rfl) ?_
  refine lv_iload_n E1 E2 d_La_send_4 rfl (lv_at hl 1 rfl) ?_
  refine lv_iload_n E1 E2 d_La_send_5 rfl (lv_at hl 2 rfl) ?_
  refine lv_iload_n E1 E2 d_La_send_6 rfl (lv_at hl 3 rfl) ?_
  rcases send_k N nf sa da va with hk0 | hk0 | hk0 | hk0
  · refine bx_try (hp := 0) (As := [.int sa, .int da, .int va]) (rest := [.int 0, .ref r]) F hO hml hl.1 h rfl k_580 k_581 k_582 k_583 (c_Ne_send l hfl D ar ad nf N sa da va) ⟨rfl, rfl⟩ ⟨by decide, by decide⟩ send_n rfl (Nat.le_of_ble_eq_true rfl) d_La_send_7 ⟨by decide, by decide⟩ htab (by decide) (fun hz => absurd hk0 hz) (fun _ ad' H1 locs1 had hP1 hD1 hS1 hN1 => ?_) (fun hz => absurd hk0 hz)
    have hE1 := (hS1.2.1 r (bl_lt hE) hrA).trans hE
    refine lv_i2l (v := Int32.toInt64 (o_Ne_send N nf sa da va).2.1) E1 E2 d_La_send_10 rfl ?_
    refine bl_out F hP1 hD1 hS1 hE1 hrA d_La_send_11 (fun H2 locs2 hP2 hS2 hE2 => ?_)
    refine lv_goto E1 E2 d_La_send_12 rfl ?_
    refine lv_iconst (v := 0) E1 E2 d_La_send_27 (by decide) ?_
    exact bl_ret F hr hk had hP2 hD1 hS2 hN1 ⟨_, hE2, fun _ => by simp [vp_updL]⟩ (by rw [hk0]; rfl) d_La_send_28
  · refine bx_try (hp := 15) (As := [.int sa, .int da, .int va]) (rest := [.int 0, .ref r]) F hO hml hl.1 h rfl k_580 k_581 k_582 k_583 (c_Ne_send l hfl D ar ad nf N sa da va) ⟨rfl, rfl⟩ ⟨by decide, by decide⟩ send_n rfl (Nat.le_of_ble_eq_true rfl) d_La_send_7 ⟨by decide, by decide⟩ htab (by decide) (fun _ => by rw [hk0]; exact ⟨by decide, [], [(19, 3), (23, 2)], rfl, by decide⟩) (fun hz => absurd (hk0.symm.trans hz) (by decide)) (fun _ ad' H1 locs1 x had hP1 hD1 hS1 hN1 => ?_)
    have hE1 := (hS1.2.1 r (bl_lt hE) hrA).trans hE
    refine lv_astore E1 E2 d_La_send_15 hl (by decide) rfl (fun ls hl => ?_)
    refine lv_iconst (v := 1) E1 E2 d_La_send_17 (by decide) ?_
    exact bl_ret F hr hk had hP1 hD1 (bl_S hS1) hN1 ⟨f, hE1, fun hz => absurd (hk0.symm.trans hz) (by decide)⟩ (by rw [hk0]; rfl) d_La_send_18
  · refine bx_try (hp := 23) (As := [.int sa, .int da, .int va]) (rest := [.int 0, .ref r]) F hO hml hl.1 h rfl k_580 k_581 k_582 k_583 (c_Ne_send l hfl D ar ad nf N sa da va) ⟨rfl, rfl⟩ ⟨by decide, by decide⟩ send_n rfl (Nat.le_of_ble_eq_true rfl) d_La_send_7 ⟨by decide, by decide⟩ htab (by decide) (fun _ => by rw [hk0]; exact ⟨by decide, [(15, 1), (19, 3)], [], rfl, by decide⟩) (fun hz => absurd (hk0.symm.trans hz) (by decide)) (fun _ ad' H1 locs1 x had hP1 hD1 hS1 hN1 => ?_)
    have hE1 := (hS1.2.1 r (bl_lt hE) hrA).trans hE
    refine lv_astore E1 E2 d_La_send_23 hl (by decide) rfl (fun ls hl => ?_)
    refine lv_iconst (v := 3) E1 E2 d_La_send_25 (by decide) ?_
    exact bl_ret F hr hk had hP1 hD1 (bl_S hS1) hN1 ⟨f, hE1, fun hz => absurd (hk0.symm.trans hz) (by decide)⟩ (by rw [hk0]; rfl) d_La_send_26
  · refine bx_try (hp := 19) (As := [.int sa, .int da, .int va]) (rest := [.int 0, .ref r]) F hO hml hl.1 h rfl k_580 k_581 k_582 k_583 (c_Ne_send l hfl D ar ad nf N sa da va) ⟨rfl, rfl⟩ ⟨by decide, by decide⟩ send_n rfl (Nat.le_of_ble_eq_true rfl) d_La_send_7 ⟨by decide, by decide⟩ htab (by decide) (fun _ => by rw [hk0]; exact ⟨by decide, [(15, 1)], [(23, 2)], rfl, by decide⟩) (fun hz => absurd (hk0.symm.trans hz) (by decide)) (fun _ ad' H1 locs1 x had hP1 hD1 hS1 hN1 => ?_)
    have hE1 := (hS1.2.1 r (bl_lt hE) hrA).trans hE
    refine lv_astore E1 E2 d_La_send_19 hl (by decide) rfl (fun ls hl => ?_)
    refine lv_iconst (v := 2) E1 E2 d_La_send_21 (by decide) ?_
    exact bl_ret F hr hk had hP1 hD1 (bl_S hS1) hN1 ⟨f, hE1, fun hz => absurd (hk0.symm.trans hz) (by decide)⟩ (by rw [hk0]; rfl) d_La_send_22
theorem deliver_k (N : bn_S) (ba pa : Int32) : (o_Ne_deliver N ba pa).1 = 0 ∨ (o_Ne_deliver N ba pa).1 = 1 := by
  unfold o_Ne_deliver bn_oc
  repeat' split
  all_goals first | (simp; done) | (dsimp only; split <;> simp; done) | (dsimp only; repeat' split) <;> simp
theorem deliver_n : (parseMethodDescriptor y_Ne_deliver.desc).map (fun d => d.parameters.length) = some 2 := by decide
def deliver_c : Nat → Int32
  | 0 => 0
  | _ => 1
abbrev w_La_deliver : List Cond := Cond.codeWith y_La_deliver b_La_deliver 5 (some .int) (bx_tb 10 [(13, 1)]) :: bn_all
set_option maxHeartbeats 4000000 in
theorem c_La_deliver (l : Launch) (hfl : l.flags = flags0) (D : va_G) (ar : Nat → ClassId) (ad : Nat → Nat → Nat) (nf : Nat) (N : bn_S) (ba pa : Int32) (r : Nat) (f : Nat → Int64) (hr0 : ∀ k x : Nat, (k, x) ∈ bn_ix nf → ¬ ad k x = r) (sz : Nat) :
    Met l y_La_deliver w_La_deliver { frames := 7, cells := 1, slots := 6, locals := 180 } (va_Pc [.ref (ad 0 0), .int ba, .int pa, .ref r] (fun U => (bn_Pre (bn_y D ar ad nf) N sz U ∧ bx_O U) ∧ U.heap[r]? = some (vp_cell (ar 1) (1, .inr (.inl f)))))
      (bn_QL D ar ad nf (bn_AY (bn_y D ar ad nf) sz) (fun q => bn_AY (bn_y D ar ad nf) sz q ∨ q = r) (deliver_c (o_Ne_deliver N ba pa).1) (o_Ne_deliver N ba pa).2.2 (bl_E ar r (o_Ne_deliver N ba pa).1 (o_Ne_deliver N ba pa).2.1)) 1 6 (fun q => bn_AY (bn_y D ar ad nf) sz q ∨ q = r) := by
  refine bl_start (y := y_La_deliver) (Y := bn_y D ar ad nf) (N := N) (av := [.ref (ad 0 0), .int ba, .int pa, .ref r]) (E := fun H => H[r]? = some (vp_cell (ar 1) (1, .inr (.inl f)))) (sz := sz) (cc := b_La_deliver) (maxL := 5) (ret := some .int) (by decide) rfl (Nat.le_of_ble_eq_true rfl) ?_
  intro p e s m args below meth c ls hsz F hml hr hk hl h hO htab hE
  subst hsz
  have hrA : ¬ bn_AY (bn_y D ar ad nf) s.heap.size r := bl_nA hr0 (bl_lt hE)
  have E1 := F.1
  have E2 := F.2.1
  have hl : lv_has ls 5 [(0, .ref (ad 0 0)), (1, .int ba), (2, .int pa), (3, .ref r)] := hl
  refine lv_aload_n E1 E2 d_La_deliver_0 rfl (lv_at hl 3 rfl) ?_
  refine lv_iconst (v := 0) E1 E2 d_La_deliver_1 (by decide) ?_
  refine lv_aload_n E1 E2 d_La_deliver_2 rfl (lv_at hl 0 rfl) ?_
  refine lv_iload_n E1 E2 d_La_deliver_3 rfl (lv_at hl 1 rfl) ?_
  refine lv_iload_n E1 E2 d_La_deliver_4 rfl (lv_at hl 2 rfl) ?_
  rcases deliver_k N ba pa with hk0 | hk0
  · refine bx_try (hp := 0) (As := [.int ba, .int pa]) (rest := [.int 0, .ref r]) F hO hml hl.1 h rfl k_654 k_655 k_656 k_657 (c_Ne_deliver l hfl D ar ad nf N ba pa) ⟨rfl, rfl⟩ ⟨by decide, by decide⟩ deliver_n rfl (Nat.le_of_ble_eq_true rfl) d_La_deliver_5 ⟨by decide, by decide⟩ htab (by decide) (fun hz => absurd hk0 hz) (fun _ ad' H1 locs1 had hP1 hD1 hS1 hN1 => ?_) (fun hz => absurd hk0 hz)
    have hE1 := (hS1.2.1 r (bl_lt hE) hrA).trans hE
    refine lv_i2l (v := Int32.toInt64 (o_Ne_deliver N ba pa).2.1) E1 E2 d_La_deliver_8 rfl ?_
    refine bl_out F hP1 hD1 hS1 hE1 hrA d_La_deliver_9 (fun H2 locs2 hP2 hS2 hE2 => ?_)
    refine lv_goto E1 E2 d_La_deliver_10 rfl ?_
    refine lv_iconst (v := 0) E1 E2 d_La_deliver_17 (by decide) ?_
    exact bl_ret F hr hk had hP2 hD1 hS2 hN1 ⟨_, hE2, fun _ => by simp [vp_updL]⟩ (by rw [hk0]; rfl) d_La_deliver_18
  · refine bx_try (hp := 13) (As := [.int ba, .int pa]) (rest := [.int 0, .ref r]) F hO hml hl.1 h rfl k_654 k_655 k_656 k_657 (c_Ne_deliver l hfl D ar ad nf N ba pa) ⟨rfl, rfl⟩ ⟨by decide, by decide⟩ deliver_n rfl (Nat.le_of_ble_eq_true rfl) d_La_deliver_5 ⟨by decide, by decide⟩ htab (by decide) (fun _ => by rw [hk0]; exact ⟨by decide, [], [], rfl, by decide⟩) (fun hz => absurd (hk0.symm.trans hz) (by decide)) (fun _ ad' H1 locs1 x had hP1 hD1 hS1 hN1 => ?_)
    have hE1 := (hS1.2.1 r (bl_lt hE) hrA).trans hE
    refine lv_astore E1 E2 d_La_deliver_13 hl (by decide) rfl (fun ls hl => ?_)
    refine lv_iconst (v := 1) E1 E2 d_La_deliver_15 (by decide) ?_
    exact bl_ret F hr hk had hP1 hD1 (bl_S hS1) hN1 ⟨f, hE1, fun hz => absurd (hk0.symm.trans hz) (by decide)⟩ (by rw [hk0]; rfl) d_La_deliver_16
