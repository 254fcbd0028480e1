/-! the law's surroundings: written by wip/whole/gen_lawloop.py -/
theorem lw_ap {ty : FieldType} {s : State} {args : Array Value} (h : (Cond.arrayClass ty).before args s = true) : ∃ cA : ClassId, ArrOfT s cA ty ∧ s.vm.findClass ("[" ++ ty.toString) = some cA := by
  obtain ⟨cA, kA, comp, h1, h2, h3⟩ := Cond.arrayClass_spec h
  exact ⟨cA, fun n z => ⟨fun k h => (by cases h), kA, h2, comp, h3⟩, h1⟩
theorem lw_ao {C : String} {s : State} {args : Array Value} (h : (Cond.arrayOver (.object C)).before args s = true) : ∃ cA : ClassId, ArrOfT s cA (.object C) ∧ va_RA s cA (.object C) := by
  obtain ⟨comp, cA, kA, h1, -, h2, h3, h4⟩ := Cond.arrayOver_spec h
  exact ⟨cA, fun n z => ⟨fun k h => (by cases h), kA, h2, comp, h3⟩, kA, comp, h2, h3, h1, h4⟩
theorem lw_K {s : State} {args : Array Value} (hts : ∀ w ∈ lw_tbl, w.before args s = true) : ∃ (D : va_G) (ar : Nat → ClassId), va_K D bn_cl (bn_ty ar) s := by
  have hb : ∀ w ∈ bn_all, w.before args s = true := fun w h => hts w (List.mem_filter.mp h).1
  obtain ⟨c0, i0, k0⟩ := u_known hb i_Ne (hb _ k_18)
  obtain ⟨c1, i1, k1⟩ := u_known hb i_Br (hb _ k_29)
  obtain ⟨c2, i2, k2⟩ := u_known hb i_Po (hb _ k_70)
  obtain ⟨c3, i3, k3⟩ := u_known hb i_Li (hb _ k_76)
  obtain ⟨c4, i4, k4⟩ := u_known hb i_Ms (hb _ k_83)
  obtain ⟨c5, i5, k5⟩ := u_known hb i_St (hb _ k_196)
  obtain ⟨c6, i6, k6⟩ := u_known hb i_Fr (hb _ k_588)
  obtain ⟨c7, i7, k7⟩ := u_known hb i_Mo (hb _ k_692)
  obtain ⟨a0, p0, q0⟩ := lw_ap (hb _ k_65)
  obtain ⟨a1, p1, q1⟩ := lw_ap (hb _ k_218)
  obtain ⟨a2, p2, q2⟩ := lw_ap (hb _ k_798)
  obtain ⟨a3, p3, q3⟩ := lw_ao (hts _ ao_Br)
  obtain ⟨a4, p4, q4⟩ := lw_ao (hts _ ao_Po)
  obtain ⟨a5, p5, q5⟩ := lw_ao (hts _ ao_Ms)
  obtain ⟨a6, p6, q6⟩ := lw_ao (hts _ ao_St)
  refine ⟨(fun c => match c with | 0 => c0 | 1 => c1 | 2 => c2 | 3 => c3 | 4 => c4 | 5 => c5 | 6 => c6 | _ => c7, fun c => match c with | 0 => i0 | 1 => i1 | 2 => i2 | 3 => i3 | 4 => i4 | 5 => i5 | 6 => i6 | _ => i7), fun c => match c with | 0 => a0 | 1 => a1 | 2 => a2 | 3 => a3 | 4 => a4 | 5 => a5 | _ => a6, ?_, ?_⟩
  · intro c q hq
    match c, hq with
    | 0, hq => cases hq; exact k0
    | 1, hq => cases hq; exact k1
    | 2, hq => cases hq; exact k2
    | 3, hq => cases hq; exact k3
    | 4, hq => cases hq; exact k4
    | 5, hq => cases hq; exact k5
    | 6, hq => cases hq; exact k6
    | 7, hq => cases hq; exact k7
    | c + 8, hq => cases hq
  · intro c q hq
    match c, hq with
    | 0, hq => cases hq; exact ⟨p0, q0⟩
    | 1, hq => cases hq; exact ⟨p1, q1⟩
    | 2, hq => cases hq; exact ⟨p2, q2⟩
    | 3, hq => cases hq; exact ⟨p3, q3⟩
    | 4, hq => cases hq; exact ⟨p4, q4⟩
    | 5, hq => cases hq; exact ⟨p5, q5⟩
    | 6, hq => cases hq; exact ⟨p6, q6⟩
    | c + 7, hq => cases hq
/-- what stays while the law runs -/
def lw_E (p : Program) (l : Launch) (s : State) (m : MethodId) (c : Code) (b L : Nat) (xs : Nat → Int32) (D : va_G) (ar : Nat → ClassId) : Prop := bn_F p s m #[Value.ref b] c code "BridgeNetLaw" (rw_Y D ar) ∧ c.maxLocals = 7 ∧ va_X b L xs s s.heap ∧ b < s.heap.size ∧ bx_Og s.heap.size s ∧ l.flags = flags0 ∧ L ≤ 2560
/-- from the loop's state with the counter i, at pc -/
def lw_K0 (p : Program) (l : Launch) (e : Env) (s : State) (m : MethodId) (below : List Frame) (meth : Method) (c : Code) (Q : State → Prop) (b : Nat) (D : va_G) (ar : Nat → ClassId) (ad2 : Nat → Nat → Nat) (r X i cells slots pc : Nat) : Prop :=
  ∀ (H : Heap) (locs : List Loc) (cs ss : Nat) (ls : Array Slot) (ad : Nat → Nat → Nat) (nf : Nat) (N M : bn_S) (g : Nat → Int64), lw_I D ar ad2 r s.heap H locs ad nf N M g → RM nf N M → ad 0 0 = X → lv_has ls 7 [(4, .int (nI i)), (3, .ref r), (2, .ref (ad2 0 0)), (1, .ref X), (0, .ref b)] → cs ≤ cells → ss ≤ slots →
    W p l e room_1 s m #[Value.ref b] below meth c H locs cs ss Q (F0 m pc ls [])
section LWL
variable {p : Program} {l : Launch} {e : Env} {R : Room} {s : State} {m : MethodId} {below : List Frame} {meth : Method} {c : Code} {H : Heap} {locs : List Loc} {cells slots : Nat} {Q : State → Prop} {b L : Nat} {xs : Nat → Int32} {D : va_G} {ar : Nat → ClassId} {ad ad2 : Nat → Nat → Nat} {r nf pc j : Nat} {N M : bn_S} {g : Nat → Int64} {ls : Array Slot} {rest : List Value}
theorem lw_ld (E : lw_E p l s m c b L xs D ar) (I : lw_I D ar ad2 r s.heap H locs ad nf N M g) (hj : j < L) (hdg : decode code pc = .ok (.iaload, 1)) (kk : W p l e R s m #[Value.ref b] below meth c H locs cells slots Q (F0 m (pc + 1) ls (.int (xs j) :: rest))) : W p l e R s m #[Value.ref b] below meth c H locs cells slots Q (F0 m pc ls (.int (nI j) :: .ref b :: rest)) := by
  have hL := E.2.2.2.2.2.2
  refine va_sld (A := lw_A s.heap) E.1.1 E.1.2.1 E.2.2.1 E.2.2.2.1 (Nat.not_le.mpr E.2.2.2.1) I.2.2.2.2 (vp_in_nI hj (by omega)) hdg ?_
  rw [nI_clamp (by omega)]
  exact kk
theorem lw_len (E : lw_E p l s m c b L xs D ar) (I : lw_I D ar ad2 r s.heap H locs ad nf N M g) (hdg : decode code pc = .ok (.arraylength, 1)) (kk : W p l e R s m #[Value.ref b] below meth c H locs cells slots Q (F0 m (pc + 1) ls (.int (nI L) :: rest))) : W p l e R s m #[Value.ref b] below meth c H locs cells slots Q (F0 m pc ls (.ref b :: rest)) :=
  va_slen (A := lw_A s.heap) E.1.1 E.1.2.1 E.2.2.1 E.2.2.2.1 (Nat.not_le.mpr E.2.2.2.1) I.2.2.2.2 hdg kk
theorem lw_out (E : lw_E p l s m c b L xs D ar) (I : lw_I D ar ad2 r s.heap H locs ad nf N M g) (hdg : decode code pc = .ok (.laload, 1)) (kk : W p l e R s m #[Value.ref b] below meth c H locs cells slots Q (F0 m (pc + 1) ls (.long (g 0) :: rest))) : W p l e R s m #[Value.ref b] below meth c H locs cells slots Q (F0 m pc ls (.int 0 :: .ref r :: rest)) := by
  have hP : va_P D bn_cl [(r, .inl (ar 1, 1, .inr (.inl g)))] H := fun i q hi => by
    have h1 : i < 1 := (List.getElem?_eq_some_iff.mp hi).1
    rw [show i = 0 by omega] at hi
    cases hi
    exact I.2.2.1.1
  exact va_lald (i := 0) E.1.1 E.1.2.1 E.1.2.2.2.2 hP 0 1 rfl rfl (show vp_in (nI 0) 1 from vp_in_nI (by omega) (by omega)) hdg kk
end LWL
theorem lw_sc (k : Nat) : rl_sc k = send_c k := by
  match k with
  | 0 => rfl
  | 1 => rfl
  | 2 => rfl
  | _ + 3 => rfl
theorem lw_dc (k : Nat) : rl_dc k = deliver_c k := by
  match k with
  | 0 => rfl
  | _ + 1 => rfl
theorem lw_sc0 {k : Nat} (h : send_c k = 0) : k = 0 := by
  match k, h with
  | 0, _ => rfl
  | 1, h => exact absurd h (by decide)
  | 2, h => exact absurd h (by decide)
  | _ + 3, h => exact absurd h (show ¬ (2 : Int32) = 0 from by decide)
theorem lw_dc0 {k : Nat} (h : deliver_c k = 0) : k = 0 := by
  match k, h with
  | 0, _ => rfl
  | _ + 1, h => exact absurd h (show ¬ (1 : Int32) = 0 from by decide)
