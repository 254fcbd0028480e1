/-! the call of the frame's constructor; how send ends -/
section BFR
variable {p : Program} {l : Launch} {e : Env} {R : Room} {s : State} {m : MethodId} {args : Array Value} {below : List Frame} {meth : Method} {c : Code} {H H1 : Heap} {locs : List Loc} {cells slots : Nat} {Q : State → Prop}
variable {cc : ByteArray} {pc nL : Nat} {ls : Array Slot} {rest : List Value} {D : va_G} {ar : Nat → ClassId} {ad : Nat → Nat → Nat} {nf k : Nat} {N : bn_S} {own : String}
theorem bn_one {A : Nat → Prop} {q : Nat} {x : va_E} (hA : A q) : va_D A [(q, x)] := by
  refine ⟨fun i j p r hi hj _ => ?_, fun i r hi => ?_⟩
  · have h1 : i < 1 := (List.getElem?_eq_some_iff.mp hi).1
    have h2 : j < 1 := (List.getElem?_eq_some_iff.mp hj).1
    omega
  · have h1 : i < 1 := (List.getElem?_eq_some_iff.mp hi).1
    rw [show i = 0 by omega] at hi
    cases hi
    exact hA
set_option maxHeartbeats 4000000 in
theorem bn_frame (F : bn_F p s m args c cc "BridgeNet" (bn_y D ar ad nf)) (hml : c.maxLocals = nL) (hsz : ls.size = nL) (h : bn_H (bn_y D ar ad nf) s.heap H1 locs N) {q : Nat} (hq : s.heap.size ≤ q) (hfr : ∀ (i : Nat) (x : Nat × va_E), (bn_ws (bn_y D ar ad nf) N)[i]? = some x → x.1 < q) (hP1 : va_P D bn_cl [(q, .inr (6, [.int 0, .int 0, .int 0, .int 0]))] H1)
    {a b v : Nat} (ha : a < 8) (hb : b < 10) (hv : v < 3) (hv0 : 1 ≤ v) {d : Int32} (hR : 2 ≤ R.frames ∧ 36 ≤ R.locals) (hW : (rest.map fun v => v.category).sum ≤ 8) (hc : cells ≤ R.cells ∧ slots ≤ R.slots) (hd : decode cc pc = .ok (.invokespecial 119, 3))
    (kk : ∀ (H2 : Heap) (locs2 : List Loc), bn_H (bn_y D ar (fr_ad ad nf q) (nf + 1)) s.heap H2 locs2 (fr_N N nf a b v d) → W p l e R s m args below meth c H2 locs2 cells slots Q (F0 m (pc + 3) ls rest)) :
    W p l e R s m args below meth c H1 locs cells slots Q (F0 m pc ls (.int d :: .int (nI v) :: .int (nI b) :: .int (nI a) :: .ref q :: rest)) := by
  have hrun := va_runI (R := R) (H := H1) (locs := locs) (cells := cells) (slots := slots) (below := below) (meth := meth) (e := e) (n := 4) (index := 119) (b := q) (As := [.int (nI a), .int (nI b), .int (nI v), .int d]) (rest := rest) (g := F0 m pc ls (.int d :: .int (nI v) :: .int (nI b) :: .int (nI a) :: .ref q :: rest)) (nL := nL) (cc := cc) (own := "BridgeNet")
    ⟨F.1, F.2.1, hml, F.2.2.1, F.2.2.2.1⟩ (c_Fr_init l D ar q fr_0 (nI a) (nI b) (nI v) d H1.size) (cwI 4 F.2.2.2.1 (bn_goodC k_591) rfl rfl rfl (F.2.2.2.1 _ k_15) (F.2.2.2.1 _ k_589) (F.2.2.2.1 _ k_590) rfl ⟨by decide, by decide, by decide⟩ ⟨hR.1, hR.2⟩)
    ⟨bn_blind _ _ _ _, fun U hU hW => ⟨rfl, by rw [hU], by rw [hU]; exact hP1, va_K.moved hW.alike F.2.2.2.2, bn_one trivial, trivial⟩⟩ rfl rfl hsz rfl (lv_room hW) hd hc
  refine va_callv hrun h.2.2.1 (fun x _ hx => ?_) (fun x hx => ?_) (fun u t H2 locs2 ht hvm hu hB hz hk hS2 => ?_)
  · rcases hx with ⟨k', x', -, rfl⟩ | hx
    · exact Or.inr hq
    · exact Or.inr (Nat.le_trans h.2.2.1.1 hx)
  · rcases hx with ⟨k', x', -, rfl⟩ | hx
    · exact Or.inr hq
    · exact Or.inr (Nat.le_trans h.2.2.1.1 hx)
  · subst hu
    have hP2 : va_P D bn_cl [(q, .inr (6, [.int (nI a), .int (nI b), .int (nI v), .int d]))] H2 := by
      have h9 := hB.1
      rw [ht] at h9
      exact h9
    refine kk H2 locs2 ⟨?_, ?_, ⟨hS2.1, fun x h1 h2 => hS2.2.1 x h1 (fun h3 => h2 (fr_A2 h3)), fun x hx => fr_A2 (hS2.2.2 x hx)⟩, fr_wf h.2.2.2 ha hb hv hv0⟩
    · rw [fr_ws h.2.2.2]
      refine (h.1.kept (fun i x hi => hk x.1 ((h.1 i x hi).lt) (fun hx => ?_))).app hP2
      have h7 := hfr i x hi
      rcases hx with ⟨k', x', -, h8⟩ | hx
      · have h8 : q = x.1 := h8
        omega
      · have := (h.1 i x hi).lt
        omega
    · rw [fr_ws h.2.2.2]
      refine va_D.app (h.2.1.weaken (fun _ _ _ h3 => fr_A2 h3)) (bn_one (Or.inr hq)) (fun i j x y hi hj hxy => ?_)
      have h7 := hfr i x hi
      have h8 : j < 1 := (List.getElem?_eq_some_iff.mp hj).1
      rw [show j = 0 by omega] at hj
      cases hj
      omega
theorem bt_retG {q : Nat} {z : Nat × Int32 × bn_S} {v : Int32} (F : bn_F p s m args c cc own (bn_y D ar ad nf)) (hr : meth.sig.returnType = some .int) (hk : meth.locks = false) (hq0 : s.heap.size ≤ q) (h : bn_H (bn_y D ar (fr_ad ad nf q) (nf + 1)) s.heap H locs N) (hq : z = (0, v, N)) (hc : cells ≤ 1) (hs : slots ≤ 6) (hdg : decode cc pc = .ok (.ireturn, 1)) :
    W p l e R s m args below meth c H locs cells slots (MQT below (bn_QT D ar ad (if z.1 = 0 then nf + 1 else nf) (bn_AY (bn_y D ar ad nf) s.heap.size) z.1 (some (.int z.2.1)) z.2.2) args s 1 6 (bn_AY (bn_y D ar ad nf) s.heap.size)) (F0 m pc ls [.int v]) := by
  subst hq
  obtain ⟨hP, hD, hS, hN⟩ := h
  have hS2 : va_S (bn_AY (bn_y D ar ad nf) s.heap.size) s.heap H locs := ⟨hS.1, fun x h1 h2 => hS.2.1 x h1 (fun h3 => h2 (fr_A hq0 h3)), fun x hx => fr_A hq0 (hS.2.2 x hx)⟩
  exact W.widen hc hs (bn_mono (fun t => MQT.of) (W.iret F.1 F.2.1 hr (fun t ht hW => bt_post (ad2 := fr_ad ad nf q) (nf2 := nf + 1) F ⟨rfl, rfl⟩ (fun _ _ hn => bn_up_c _ _ hn) hP (hD.weaken (fun _ _ _ h3 => fr_A hq0 h3)) hS2 hN rfl ht hW) hS2.2.2 hdg hk))
theorem bt_throwG {q : Nat × Int32 × bn_S} {v : Int32} (hfl : l.flags = flags0) (F : bn_F p s m args c cc "BridgeNet" (bn_y D ar ad nf)) (hml : c.maxLocals = nL) (hsz : ls.size = nL) (hk : meth.locks = false) (hex : c.exceptionTable.toList = []) (h : bn_H (bn_y D ar ad nf) s.heap s.heap [] N) (hO : bx_O s) (hq : q = (k, v, N))
    {tx : String} {ia ib ic : Nat} (hw : bx_W ia ic k) (hstr : Cond.stringRef "BridgeNet" ib tx ∈ lw_tbl)
    (d0 : decode cc pc = .ok (.new ia, 3)) (d3 : decode cc (pc + 3) = .ok (.dup, 1)) (d4 : decode cc (pc + 4) = .ok (.ldc ib, 2)) (d6 : decode cc (pc + 6) = .ok (.invokespecial ic, 3)) (d9 : decode cc (pc + 9) = .ok (.athrow, 1))
    (hR1 : 5 < R.frames) (hR2 : 100 ≤ R.locals) (hR3 : 1 ≤ R.cells) (hR4 : 6 ≤ R.slots) :
    W p l e R s m args below meth c s.heap [] 0 0 (MQT below (bn_QT D ar ad (if q.1 = 0 then nf + 1 else nf) (bn_AY (bn_y D ar ad nf) s.heap.size) q.1 (some (.int q.2.1)) q.2.2) args s 1 6 (bn_AY (bn_y D ar ad nf) s.heap.size)) (F0 m pc ls []) := by
  rw [show (if q.1 = 0 then nf + 1 else nf) = nf from if_neg (by rw [hq]; exact hw.2.2.2.2.2)]
  exact bt_throwI hfl F hml hsz hk hex h hO hq hw hstr d0 d3 d4 d6 d9 hR1 hR2 hR3 hR4
end BFR
