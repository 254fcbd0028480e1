/-! constructors: start, return, call -/
theorem rw_start {l : Launch} {y : MethodName} {rm : Room} {D : va_G} {ar : Nat → ClassId} {z q sz : Nat} {b : va_E} {av : List Value} {mc ms : Nat} {w : va_W} {cc : ByteArray} {maxL : Nat} {ws : List Cond} (hy : plainName y.cls = true) (hw : ws = Cond.code y cc maxL none :: bn_all) (hlen : (lg_sl (.ref q :: av)).length ≤ maxL)
    (body : ∀ (p : Program) (e : Env) (s : State) (m : MethodId) (args : Array Value) (below : List Frame) (meth : Method) (c : Code) (ls : Array Slot), s.heap.size = sz → bn_F p s m args c cc y.cls (rw_Y D ar) → bx_Og z s → meth.name = y.name → c.maxLocals = maxL → meth.sig.returnType = none → meth.locks = false → lv_has ls maxL (lv_args 0 (.ref q :: av)) → rw_H D (rw_A q sz) s.heap s.heap [] [(q, b)] →
      W p l e rm s m args below meth c s.heap [] 0 0 (MQ below (rw_Q D (rw_A q sz) (sz + mc) w) args s mc ms (rw_A q sz)) (F0 m 0 ls [])) : rw_C l y ws rm D ar z q sz b av mc ms w := by
  refine Met.ofW (cc := cc) (maxL := maxL) (ret := none) hy hw ?_
  intro p e s m args below meth c s₁ B hml hv
  obtain ⟨rfl, hsz, hP, hK, hO⟩ := hv
  have hts := atoms_spec (ws := ws) B.pre
  have hl := lv_entry (.ref q :: av) (n := maxL) hlen
  rw [lg_entry_eq]
  exact body p e s m _ below meth c _ hsz ⟨B.exec, B.bytes, findClass_of_methodNamed B.named, fun w h => hts w (by rw [hw]; exact List.mem_cons_of_mem _ h), hK⟩ hO (name_of_methodNamed B.named B.method).1 hml B.returns B.notSynchronized hl ⟨hP, bn_one (Or.inl rfl), va_S.rf⟩
section RAC
variable {p : Program} {l : Launch} {e : Env} {R : Room} {s : State} {m : MethodId} {args : Array Value} {below : List Frame} {meth : Method} {c : Code} {H : Heap} {locs : List Loc} {cells slots : Nat} {Q : State → Prop}
variable {cc : ByteArray} {pc n : Nat} {ls : Array Slot} {rest st0 : List Value} {Y : bn_Y} {own : String} {A : Nat → Prop} {ws0 w : va_W} {D : va_G} {ar : Nat → ClassId}
theorem rw_ret (F : bn_F p s m args c cc own Y) {sz : Nat} (hr : meth.sig.returnType = none) (hk : meth.locks = false) (h : rw_H D A s.heap H locs w) (hsz : H.size = sz) (hdg : decode cc pc = .ok (.return_, 1)) :
    W p l e R s m args below meth c H locs cells slots (MQ below (rw_Q D A sz w) args s cells slots A) (F0 m pc ls []) :=
  W.vret F.1 F.2.1 hr (fun t ht hW => ⟨rfl, by rw [ht]; exact h.1, h.2.1, by rw [ht]; exact hsz, h.2.2.F ht⟩) h.2.2.2.2 hdg hk
theorem rw_back {q mc ms : Nat} {b : va_E} {a : Array Value} (hr : va_Run p l e R s m args below meth c H locs cells slots mc ms (F0 m pc ls st0) rest (rw_Q D (rw_A q n) (n + mc) w a) (rw_A q n)) (h : rw_H D A s.heap H locs (ws0 ++ [(q, b)])) (hA : ∀ q, s.heap.size ≤ q → A q) (hn : H.size = n)
    (kk : ∀ (H1 : Heap) (locs1 : List Loc), H1.size = n + mc → rw_H D A s.heap H1 locs1 (ws0 ++ w) → W p l e R s m args below meth c H1 locs1 (cells + mc) (slots + ms) Q (F0 m (pc + 3) ls rest)) : W p l e R s m args below meth c H locs cells slots Q (F0 m pc ls st0) := by
  intro T hT X
  obtain ⟨v, st₀, t, T', L, h0, X', hL, e1, e2, ⟨hv, hP1, hD1, hz1, hF1, hF2⟩, st⟩ := hr T hT X
  cases hv
  subst hn
  obtain ⟨hP, hD, hS⟩ := h
  rw [h0] at hF1 hF2
  have hq : (ws0 ++ [(q, b)])[ws0.length]? = some (q, b) := by simp
  have hin : ∀ (i : Nat) (x : Nat × va_E), ws0[i]? = some x → (ws0 ++ [(q, b)])[i]? = some x := fun i x hi => by rw [List.getElem?_append_left (List.getElem?_eq_some_iff.mp hi).1]; exact hi
  have hap : ∀ (i : Nat) (x : Nat × va_E), ws0[i]? = some x → x.1 < H.size ∧ ¬ rw_A q H.size x.1 := fun i x hi => by
    have h1 := (hP i x (hin i x hi)).lt
    refine ⟨h1, ?_⟩
    rintro (h2 | h2)
    · have h3 := hD.1 i ws0.length x (q, b) (hin i x hi) hq h2
      have h4 := (List.getElem?_eq_some_iff.mp hi).1
      omega
    · exact absurd h1 (Nat.not_lt.mpr h2)
  have hAA : ∀ x : Nat, rw_A q H.size x → A x := fun x hx => by
    rcases hx with rfl | hx
    · exact hD.2 ws0.length (x, b) hq
    · exact hA x (Nat.le_trans hS.1 hx)
  have hR : rw_H D A s.heap T'.heap (locs ++ L) (ws0 ++ w) := by
    refine ⟨va_P.app (fun i x hi => ?_) (by rw [e1]; exact hP1), va_D.app ⟨fun i j x y hi hj hxy => hD.1 i j x y (hin i x hi) (hin j y hj) hxy, fun i x hi => hD.2 i x (hin i x hi)⟩ (hD1.weaken (fun _ x _ hx => hAA x.1 hx)) (fun i j x y hi hj hxy => ?_), ⟨Nat.le_trans hS.1 (by rw [e1]; exact hF1), fun x h1 h2 => ?_, fun x hx => ?_⟩⟩
    · exact (hP i x (hin i x hi)).kept (by rw [e1]; exact hF2 x.1 (hap i x hi).1 (hap i x hi).2)
    · exact (hap i x hi).2 (by rw [hxy]; exact hD1.2 j y hj)
    · rw [e1, hF2 x (Nat.lt_of_lt_of_le h1 hS.1) (fun h3 => h2 (hAA x h3))]
      exact hS.2.1 x h1 h2
    · rcases List.mem_append.mp hx with hx | hx
      · exact hS.2.2 x hx
      · exact hAA _ (hL x hx)
  obtain ⟨t2, a1, b1⟩ := kk T'.heap (locs ++ L) (by rw [e1]; exact hz1) hR T' rfl X'
  exact ⟨t2, st t2 a1, b1⟩
end RAC
