/-! what a throw asks: every atom of it holds at a state that came from the law's start -/
def bx_ok (a : Cond) : Bool := (goodWord a && decide (a ∈ lw_tbl)) || (match a with
  | .laysStatic _ _ _ => decide (a ∈ lw_tbl)
  | .declares _ => decide (a ∈ lw_tbl)
  | .isRef (.static O f d) => decide (Cond.laysStatic O f d ∈ lw_tbl) && decide (a ∈ flatC (Jvm.Cond.and given_1 narrow_1))
  | .castable _ _ => decide (a ∈ lw_tbl)
  | _ => false)
theorem bx_castable {U : State} (h : bx_O U) {X Z : String} (hw : Cond.castable X Z ∈ lw_tbl) (A : Array Value) : (Cond.castable X Z).before A U = true := by
  obtain ⟨s0, A0, h1, h2, h3, h4⟩ := h
  exact va_tabs rfl (rfl : (s0.setVm U.vm).vm = U.vm) (by rw [Cond.castable_setVm h3.alike]; exact h1 _ hw)
theorem bx_okh {U : State} (h : bx_O U) {a : Cond} (hk : bx_ok a = true) (A : Array Value) : a.before A U = true := by
  unfold bx_ok at hk
  rw [Bool.or_eq_true] at hk
  rcases hk with hk | hk
  · rw [Bool.and_eq_true] at hk
    exact bx_good h (List.mem_filter.mpr ⟨of_decide_eq_true hk.2, hk.1⟩) A
  · split at hk
    · exact bx_lays h (of_decide_eq_true hk) A
    · exact bx_decl h (of_decide_eq_true hk) A
    · rw [Bool.and_eq_true] at hk
      exact bx_isRef h (of_decide_eq_true hk.1) (of_decide_eq_true hk.2) A
    · exact bx_castable h (of_decide_eq_true hk) A
    · cases hk
theorem bx_ok1 : (Bundle.ownAtoms "BridgeNet" 82 "java/lang/IndexOutOfBoundsException" ["java/lang/RuntimeException", "java/lang/Exception"]).all bx_ok = true := by decide +kernel
theorem bx_ok2 : (Bundle.ownAtoms "BridgeNet" 92 "java/lang/IllegalArgumentException" ["java/lang/RuntimeException", "java/lang/Exception"]).all bx_ok = true := by decide +kernel
theorem bx_ok3 : (Bundle.ownAtoms "BridgeNet" 97 "java/lang/IllegalStateException" ["java/lang/RuntimeException", "java/lang/Exception"]).all bx_ok = true := by decide +kernel
theorem bx_at {U : State} (h : bx_O U) {L : List Cond} (hL : L.all bx_ok = true) (A : Array Value) : ∀ a ∈ L, a.before A U = true := fun a ha => bx_okh h (List.all_eq_true.mp hL a ha) A
theorem bx_str {U : State} (h : bx_O U) {k : Nat} {tx : String} (hw : Cond.stringRef "BridgeNet" k tx ∈ lw_tbl) {cur : Nat} (hc : U.vm.findClass "BridgeNet" = some cur) : ∃ q, vk_R "BridgeNet" k tx q U := by
  obtain ⟨s0, A0, h1, h2, h3, h4⟩ := h
  have hc0 : s0.vm.findClass "BridgeNet" = some cur := by rw [← h3.alike.findClass]; exact hc
  obtain ⟨kk, cf, i, a, -, -, -, -, -, hev⟩ := Cond.stringRef_spec hc0 (h1 _ hw)
  exact ⟨a, (vk_R.of (h1 _ hw) hev).warm h3⟩
theorem bx_str80 : Cond.stringRef "BridgeNet" 80 "no such station or port" ∈ lw_tbl := by decide +kernel
theorem bx_str90 : Cond.stringRef "BridgeNet" 90 "no such VLAN" ∈ lw_tbl := by decide +kernel
theorem bx_str95 : Cond.stringRef "BridgeNet" 95 "the port is not free" ∈ lw_tbl := by decide +kernel
theorem bx_str105 : Cond.stringRef "BridgeNet" 105 "no such station" ∈ lw_tbl := by decide +kernel
theorem bx_str110 : Cond.stringRef "BridgeNet" 110 "the station is nowhere" ∈ lw_tbl := by decide +kernel
theorem bx_str112 : Cond.stringRef "BridgeNet" 112 "no such destination" ∈ lw_tbl := by decide +kernel
theorem bx_str126 : Cond.stringRef "BridgeNet" 126 "no such port" ∈ lw_tbl := by decide +kernel
/-- which exception: 1, 2, 3 -/
def bx_ex : Nat → String
  | 1 => "java/lang/IndexOutOfBoundsException"
  | 2 => "java/lang/IllegalArgumentException"
  | _ => "java/lang/IllegalStateException"
/-- an exception of one kind is none of another, and is one of its own -/
theorem bx_apart {U : State} (h : bx_O U) {X Z : String} (hw : Cond.not (Cond.castable X Z) ∈ flatC (Jvm.Cond.and given_1 narrow_1)) {a b : ClassId} (ha : U.vm.findClass X = some a) (hb : U.vm.findClass Z = some b) : U.vm.assignable a b = false := by
  obtain ⟨s0, A0, h1, h2, h3, h4⟩ := h
  have h5 := flat_of_before _ h2 _ hw
  rw [h3.alike.findClass] at ha hb
  simp only [Cond.before, Cond.holds, Cond.value, ha, hb] at h5
  rw [h3.alike.assignable]
  simpa using h5
theorem bx_same {U : State} (h : bx_O U) {X : String} (hw : Cond.castable X X ∈ lw_tbl) {a : ClassId} (ha : U.vm.findClass X = some a) : U.vm.assignable a a = true := by
  obtain ⟨s0, A0, h1, h2, h3, h4⟩ := h
  obtain ⟨q, t, e1, e2, e3⟩ := Cond.castable_spec (h1 _ hw)
  rw [h3.alike.findClass] at ha
  rw [h3.alike.assignable]
  cases ha.symm.trans e1
  cases ha.symm.trans e2
  exact e3
