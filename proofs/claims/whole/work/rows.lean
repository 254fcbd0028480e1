section
-- ===== PART A: goes FIRST, ahead of the names: the tables' words, and 'selects' of the private methods out of them =====
/-- a private method of a class that the tables say can be made, by its rows of tables_1 -/
def lw_okq (q : MethodName × Nat) : Prop := (q.1.cls ≠ "java/lang/invoke/MethodHandle" ∧ q.1.cls ≠ "java/lang/invoke/VarHandle") ∧ Cond.instantiable q.1.cls q.2 ∈ tables_1 ∧ Cond.privateMethod q.1 ∈ tables_1 ∧ Cond.instanceMethod q.1 ∈ tables_1
theorem lw_p0 : lw_okq (⟨"BridgeNet$Bridge", "chooseRoot", "()V"⟩, 9) := ⟨⟨by decide +kernel, by decide +kernel⟩, List.mem_of_getElem? (i := 29) (by decide +kernel), List.mem_of_getElem? (i := 253) (by decide +kernel), List.mem_of_getElem? (i := 254) (by decide +kernel)⟩
theorem lw_p1 : lw_okq (⟨"BridgeNet$Bridge", "giveRoles", "()Z"⟩, 9) := ⟨⟨by decide +kernel, by decide +kernel⟩, List.mem_of_getElem? (i := 29) (by decide +kernel), List.mem_of_getElem? (i := 277) (by decide +kernel), List.mem_of_getElem? (i := 278) (by decide +kernel)⟩
theorem lw_p2 : lw_okq (⟨"BridgeNet$Bridge", "dueRole", "(LBridgeNet$Port;)I"⟩, 9) := ⟨⟨by decide +kernel, by decide +kernel⟩, List.mem_of_getElem? (i := 29) (by decide +kernel), List.mem_of_getElem? (i := 281) (by decide +kernel), List.mem_of_getElem? (i := 282) (by decide +kernel)⟩
theorem lw_p3 : lw_okq (⟨"BridgeNet$Bridge", "ownVector", "(LBridgeNet$Port;)J"⟩, 9) := ⟨⟨by decide +kernel, by decide +kernel⟩, List.mem_of_getElem? (i := 29) (by decide +kernel), List.mem_of_getElem? (i := 285) (by decide +kernel), List.mem_of_getElem? (i := 286) (by decide +kernel)⟩
theorem lw_p4 : lw_okq (⟨"BridgeNet$Port", "propose", "()V"⟩, 16) := ⟨⟨by decide +kernel, by decide +kernel⟩, List.mem_of_getElem? (i := 70) (by decide +kernel), List.mem_of_getElem? (i := 293) (by decide +kernel), List.mem_of_getElem? (i := 294) (by decide +kernel)⟩
theorem lw_p5 : lw_okq (⟨"BridgeNet$Bridge", "tellOn", "(LBridgeNet$Port;)V"⟩, 9) := ⟨⟨by decide +kernel, by decide +kernel⟩, List.mem_of_getElem? (i := 29) (by decide +kernel), List.mem_of_getElem? (i := 305) (by decide +kernel), List.mem_of_getElem? (i := 306) (by decide +kernel)⟩
theorem lw_p6 : lw_okq (⟨"BridgeNet$Line", "put", "(IILBridgeNet$Frame;)LBridgeNet$Message;"⟩, 3) := ⟨⟨by decide +kernel, by decide +kernel⟩, List.mem_of_getElem? (i := 76) (by decide +kernel), List.mem_of_getElem? (i := 314) (by decide +kernel), List.mem_of_getElem? (i := 315) (by decide +kernel)⟩
theorem lw_p7 : lw_okq (⟨"BridgeNet", "findPort", "(II)LBridgeNet$Port;"⟩, 3) := ⟨⟨by decide +kernel, by decide +kernel⟩, List.mem_of_getElem? (i := 18) (by decide +kernel), List.mem_of_getElem? (i := 322) (by decide +kernel), List.mem_of_getElem? (i := 323) (by decide +kernel)⟩
theorem lw_p8 : lw_okq (⟨"BridgeNet$Port", "forward", "()V"⟩, 16) := ⟨⟨by decide +kernel, by decide +kernel⟩, List.mem_of_getElem? (i := 70) (by decide +kernel), List.mem_of_getElem? (i := 376) (by decide +kernel), List.mem_of_getElem? (i := 377) (by decide +kernel)⟩
theorem lw_p9 : lw_okq (⟨"BridgeNet", "findStation", "(I)LBridgeNet$Station;"⟩, 3) := ⟨⟨by decide +kernel, by decide +kernel⟩, List.mem_of_getElem? (i := 18) (by decide +kernel), List.mem_of_getElem? (i := 417) (by decide +kernel), List.mem_of_getElem? (i := 418) (by decide +kernel)⟩
theorem lw_p10 : lw_okq (⟨"java/lang/Throwable", "fillInStackTrace", "(I)Ljava/lang/Throwable;"⟩, 6) := ⟨⟨by decide +kernel, by decide +kernel⟩, List.mem_of_getElem? (i := 506) (by decide +kernel), List.mem_of_getElem? (i := 504) (by decide +kernel), List.mem_of_getElem? (i := 505) (by decide +kernel)⟩
theorem lw_p11 : lw_okq (⟨"BridgeNet$Bridge", "learn", "(III)V"⟩, 9) := ⟨⟨by decide +kernel, by decide +kernel⟩, List.mem_of_getElem? (i := 29) (by decide +kernel), List.mem_of_getElem? (i := 621) (by decide +kernel), List.mem_of_getElem? (i := 622) (by decide +kernel)⟩
theorem lw_p12 : lw_okq (⟨"BridgeNet$Bridge", "flood", "(LBridgeNet$Port;LBridgeNet$Frame;)I"⟩, 9) := ⟨⟨by decide +kernel, by decide +kernel⟩, List.mem_of_getElem? (i := 29) (by decide +kernel), List.mem_of_getElem? (i := 626) (by decide +kernel), List.mem_of_getElem? (i := 627) (by decide +kernel)⟩
theorem lw_p13 : lw_okq (⟨"BridgeNet$Bridge", "passTo", "(ILBridgeNet$Port;LBridgeNet$Frame;)I"⟩, 9) := ⟨⟨by decide +kernel, by decide +kernel⟩, List.mem_of_getElem? (i := 29) (by decide +kernel), List.mem_of_getElem? (i := 648) (by decide +kernel), List.mem_of_getElem? (i := 649) (by decide +kernel)⟩
theorem lw_p14 : lw_okq (⟨"BridgeNet$Bridge", "answerProposal", "(LBridgeNet$Port;)V"⟩, 9) := ⟨⟨by decide +kernel, by decide +kernel⟩, List.mem_of_getElem? (i := 29) (by decide +kernel), List.mem_of_getElem? (i := 668) (by decide +kernel), List.mem_of_getElem? (i := 669) (by decide +kernel)⟩
theorem lw_p15 : lw_okq (⟨"BridgeNet$Bridge", "proposeOnOthers", "(LBridgeNet$Port;)V"⟩, 9) := ⟨⟨by decide +kernel, by decide +kernel⟩, List.mem_of_getElem? (i := 29) (by decide +kernel), List.mem_of_getElem? (i := 672) (by decide +kernel), List.mem_of_getElem? (i := 673) (by decide +kernel)⟩
def lw_privs_1 : List (MethodName × Nat) := [(⟨"BridgeNet$Bridge", "chooseRoot", "()V"⟩, 9), (⟨"BridgeNet$Bridge", "giveRoles", "()Z"⟩, 9), (⟨"BridgeNet$Bridge", "dueRole", "(LBridgeNet$Port;)I"⟩, 9), (⟨"BridgeNet$Bridge", "ownVector", "(LBridgeNet$Port;)J"⟩, 9), (⟨"BridgeNet$Port", "propose", "()V"⟩, 16), (⟨"BridgeNet$Bridge", "tellOn", "(LBridgeNet$Port;)V"⟩, 9), (⟨"BridgeNet$Line", "put", "(IILBridgeNet$Frame;)LBridgeNet$Message;"⟩, 3), (⟨"BridgeNet", "findPort", "(II)LBridgeNet$Port;"⟩, 3), (⟨"BridgeNet$Port", "forward", "()V"⟩, 16), (⟨"BridgeNet", "findStation", "(I)LBridgeNet$Station;"⟩, 3), (⟨"java/lang/Throwable", "fillInStackTrace", "(I)Ljava/lang/Throwable;"⟩, 6), (⟨"BridgeNet$Bridge", "learn", "(III)V"⟩, 9), (⟨"BridgeNet$Bridge", "flood", "(LBridgeNet$Port;LBridgeNet$Frame;)I"⟩, 9), (⟨"BridgeNet$Bridge", "passTo", "(ILBridgeNet$Port;LBridgeNet$Frame;)I"⟩, 9), (⟨"BridgeNet$Bridge", "answerProposal", "(LBridgeNet$Port;)V"⟩, 9), (⟨"BridgeNet$Bridge", "proposeOnOthers", "(LBridgeNet$Port;)V"⟩, 9)]
theorem lw_r1 : ∀ q ∈ lw_privs_1, lw_okq q := List.forall_mem_cons.mpr ⟨lw_p0, List.forall_mem_cons.mpr ⟨lw_p1, List.forall_mem_cons.mpr ⟨lw_p2, List.forall_mem_cons.mpr ⟨lw_p3, List.forall_mem_cons.mpr ⟨lw_p4, List.forall_mem_cons.mpr ⟨lw_p5, List.forall_mem_cons.mpr ⟨lw_p6, List.forall_mem_cons.mpr ⟨lw_p7, List.forall_mem_cons.mpr ⟨lw_p8, List.forall_mem_cons.mpr ⟨lw_p9, List.forall_mem_cons.mpr ⟨lw_p10, List.forall_mem_cons.mpr ⟨lw_p11, List.forall_mem_cons.mpr ⟨lw_p12, List.forall_mem_cons.mpr ⟨lw_p13, List.forall_mem_cons.mpr ⟨lw_p14, List.forall_mem_cons.mpr ⟨lw_p15, fun _ h => absurd h List.not_mem_nil⟩⟩⟩⟩⟩⟩⟩⟩⟩⟩⟩⟩⟩⟩⟩⟩
theorem lw_p16 : lw_okq (⟨"BridgeNetModel", "raise", "(I)I"⟩, 32) := ⟨⟨by decide +kernel, by decide +kernel⟩, List.mem_of_getElem? (i := 692) (by decide +kernel), List.mem_of_getElem? (i := 814) (by decide +kernel), List.mem_of_getElem? (i := 815) (by decide +kernel)⟩
theorem lw_p17 : lw_okq (⟨"BridgeNetModel", "shift", "(I)V"⟩, 32) := ⟨⟨by decide +kernel, by decide +kernel⟩, List.mem_of_getElem? (i := 692) (by decide +kernel), List.mem_of_getElem? (i := 818) (by decide +kernel), List.mem_of_getElem? (i := 819) (by decide +kernel)⟩
theorem lw_p18 : lw_okq (⟨"BridgeNetModel", "copy", "(II)V"⟩, 32) := ⟨⟨by decide +kernel, by decide +kernel⟩, List.mem_of_getElem? (i := 692) (by decide +kernel), List.mem_of_getElem? (i := 822) (by decide +kernel), List.mem_of_getElem? (i := 823) (by decide +kernel)⟩
theorem lw_p19 : lw_okq (⟨"BridgeNetModel", "toldOn", "(I)V"⟩, 32) := ⟨⟨by decide +kernel, by decide +kernel⟩, List.mem_of_getElem? (i := 692) (by decide +kernel), List.mem_of_getElem? (i := 826) (by decide +kernel), List.mem_of_getElem? (i := 827) (by decide +kernel)⟩
theorem lw_p20 : lw_okq (⟨"BridgeNetModel", "compute", "(I)V"⟩, 32) := ⟨⟨by decide +kernel, by decide +kernel⟩, List.mem_of_getElem? (i := 692) (by decide +kernel), List.mem_of_getElem? (i := 830) (by decide +kernel), List.mem_of_getElem? (i := 831) (by decide +kernel)⟩
theorem lw_p21 : lw_okq (⟨"BridgeNetModel", "choose", "(I)V"⟩, 32) := ⟨⟨by decide +kernel, by decide +kernel⟩, List.mem_of_getElem? (i := 692) (by decide +kernel), List.mem_of_getElem? (i := 841) (by decide +kernel), List.mem_of_getElem? (i := 842) (by decide +kernel)⟩
theorem lw_p22 : lw_okq (⟨"BridgeNetModel", "id", "(I)I"⟩, 32) := ⟨⟨by decide +kernel, by decide +kernel⟩, List.mem_of_getElem? (i := 692) (by decide +kernel), List.mem_of_getElem? (i := 845) (by decide +kernel), List.mem_of_getElem? (i := 846) (by decide +kernel)⟩
theorem lw_p23 : lw_okq (⟨"BridgeNetModel", "roleOf", "(I)I"⟩, 32) := ⟨⟨by decide +kernel, by decide +kernel⟩, List.mem_of_getElem? (i := 692) (by decide +kernel), List.mem_of_getElem? (i := 853) (by decide +kernel), List.mem_of_getElem? (i := 854) (by decide +kernel)⟩
theorem lw_p24 : lw_okq (⟨"BridgeNetModel", "wouldTell", "(I)J"⟩, 32) := ⟨⟨by decide +kernel, by decide +kernel⟩, List.mem_of_getElem? (i := 692) (by decide +kernel), List.mem_of_getElem? (i := 857) (by decide +kernel), List.mem_of_getElem? (i := 858) (by decide +kernel)⟩
theorem lw_p25 : lw_okq (⟨"BridgeNetModel", "take", "(II)V"⟩, 32) := ⟨⟨by decide +kernel, by decide +kernel⟩, List.mem_of_getElem? (i := 692) (by decide +kernel), List.mem_of_getElem? (i := 861) (by decide +kernel), List.mem_of_getElem? (i := 862) (by decide +kernel)⟩
theorem lw_p26 : lw_okq (⟨"BridgeNetModel", "isLinked", "(I)Z"⟩, 32) := ⟨⟨by decide +kernel, by decide +kernel⟩, List.mem_of_getElem? (i := 692) (by decide +kernel), List.mem_of_getElem? (i := 865) (by decide +kernel), List.mem_of_getElem? (i := 866) (by decide +kernel)⟩
theorem lw_p27 : lw_okq (⟨"BridgeNetModel", "tellAll", "(I)V"⟩, 32) := ⟨⟨by decide +kernel, by decide +kernel⟩, List.mem_of_getElem? (i := 692) (by decide +kernel), List.mem_of_getElem? (i := 869) (by decide +kernel), List.mem_of_getElem? (i := 870) (by decide +kernel)⟩
theorem lw_p28 : lw_okq (⟨"BridgeNetModel", "tell", "(I)V"⟩, 32) := ⟨⟨by decide +kernel, by decide +kernel⟩, List.mem_of_getElem? (i := 692) (by decide +kernel), List.mem_of_getElem? (i := 873) (by decide +kernel), List.mem_of_getElem? (i := 874) (by decide +kernel)⟩
theorem lw_p29 : lw_okq (⟨"BridgeNetModel", "post", "(II)I"⟩, 32) := ⟨⟨by decide +kernel, by decide +kernel⟩, List.mem_of_getElem? (i := 692) (by decide +kernel), List.mem_of_getElem? (i := 877) (by decide +kernel), List.mem_of_getElem? (i := 878) (by decide +kernel)⟩
theorem lw_p30 : lw_okq (⟨"BridgeNetModel", "agree", "(I)V"⟩, 32) := ⟨⟨by decide +kernel, by decide +kernel⟩, List.mem_of_getElem? (i := 692) (by decide +kernel), List.mem_of_getElem? (i := 881) (by decide +kernel), List.mem_of_getElem? (i := 882) (by decide +kernel)⟩
theorem lw_p31 : lw_okq (⟨"BridgeNetModel", "agreedOn", "(I)V"⟩, 32) := ⟨⟨by decide +kernel, by decide +kernel⟩, List.mem_of_getElem? (i := 692) (by decide +kernel), List.mem_of_getElem? (i := 885) (by decide +kernel), List.mem_of_getElem? (i := 886) (by decide +kernel)⟩
def lw_privs_2 : List (MethodName × Nat) := [(⟨"BridgeNetModel", "raise", "(I)I"⟩, 32), (⟨"BridgeNetModel", "shift", "(I)V"⟩, 32), (⟨"BridgeNetModel", "copy", "(II)V"⟩, 32), (⟨"BridgeNetModel", "toldOn", "(I)V"⟩, 32), (⟨"BridgeNetModel", "compute", "(I)V"⟩, 32), (⟨"BridgeNetModel", "choose", "(I)V"⟩, 32), (⟨"BridgeNetModel", "id", "(I)I"⟩, 32), (⟨"BridgeNetModel", "roleOf", "(I)I"⟩, 32), (⟨"BridgeNetModel", "wouldTell", "(I)J"⟩, 32), (⟨"BridgeNetModel", "take", "(II)V"⟩, 32), (⟨"BridgeNetModel", "isLinked", "(I)Z"⟩, 32), (⟨"BridgeNetModel", "tellAll", "(I)V"⟩, 32), (⟨"BridgeNetModel", "tell", "(I)V"⟩, 32), (⟨"BridgeNetModel", "post", "(II)I"⟩, 32), (⟨"BridgeNetModel", "agree", "(I)V"⟩, 32), (⟨"BridgeNetModel", "agreedOn", "(I)V"⟩, 32)]
theorem lw_r2 : ∀ q ∈ lw_privs_2, lw_okq q := List.forall_mem_cons.mpr ⟨lw_p16, List.forall_mem_cons.mpr ⟨lw_p17, List.forall_mem_cons.mpr ⟨lw_p18, List.forall_mem_cons.mpr ⟨lw_p19, List.forall_mem_cons.mpr ⟨lw_p20, List.forall_mem_cons.mpr ⟨lw_p21, List.forall_mem_cons.mpr ⟨lw_p22, List.forall_mem_cons.mpr ⟨lw_p23, List.forall_mem_cons.mpr ⟨lw_p24, List.forall_mem_cons.mpr ⟨lw_p25, List.forall_mem_cons.mpr ⟨lw_p26, List.forall_mem_cons.mpr ⟨lw_p27, List.forall_mem_cons.mpr ⟨lw_p28, List.forall_mem_cons.mpr ⟨lw_p29, List.forall_mem_cons.mpr ⟨lw_p30, List.forall_mem_cons.mpr ⟨lw_p31, fun _ h => absurd h List.not_mem_nil⟩⟩⟩⟩⟩⟩⟩⟩⟩⟩⟩⟩⟩⟩⟩⟩
theorem lw_p32 : lw_okq (⟨"BridgeNetModel", "frame", "(I)I"⟩, 32) := ⟨⟨by decide +kernel, by decide +kernel⟩, List.mem_of_getElem? (i := 692) (by decide +kernel), List.mem_of_getElem? (i := 889) (by decide +kernel), List.mem_of_getElem? (i := 890) (by decide +kernel)⟩
theorem lw_p33 : lw_okq (⟨"BridgeNetModel", "has", "(II)Z"⟩, 32) := ⟨⟨by decide +kernel, by decide +kernel⟩, List.mem_of_getElem? (i := 692) (by decide +kernel), List.mem_of_getElem? (i := 893) (by decide +kernel), List.mem_of_getElem? (i := 894) (by decide +kernel)⟩
theorem lw_p34 : lw_okq (⟨"BridgeNetModel", "out", "(I)I"⟩, 32) := ⟨⟨by decide +kernel, by decide +kernel⟩, List.mem_of_getElem? (i := 692) (by decide +kernel), List.mem_of_getElem? (i := 897) (by decide +kernel), List.mem_of_getElem? (i := 898) (by decide +kernel)⟩
theorem lw_p35 : lw_okq (⟨"BridgeNetModel", "ageOf", "(I)V"⟩, 32) := ⟨⟨by decide +kernel, by decide +kernel⟩, List.mem_of_getElem? (i := 692) (by decide +kernel), List.mem_of_getElem? (i := 910) (by decide +kernel), List.mem_of_getElem? (i := 911) (by decide +kernel)⟩
theorem lw_p36 : lw_okq (⟨"BridgeNetModel", "clear", "(I)V"⟩, 32) := ⟨⟨by decide +kernel, by decide +kernel⟩, List.mem_of_getElem? (i := 692) (by decide +kernel), List.mem_of_getElem? (i := 926) (by decide +kernel), List.mem_of_getElem? (i := 927) (by decide +kernel)⟩
def lw_privs_3 : List (MethodName × Nat) := [(⟨"BridgeNetModel", "frame", "(I)I"⟩, 32), (⟨"BridgeNetModel", "has", "(II)Z"⟩, 32), (⟨"BridgeNetModel", "out", "(I)I"⟩, 32), (⟨"BridgeNetModel", "ageOf", "(I)V"⟩, 32), (⟨"BridgeNetModel", "clear", "(I)V"⟩, 32)]
theorem lw_r3 : ∀ q ∈ lw_privs_3, lw_okq q := List.forall_mem_cons.mpr ⟨lw_p32, List.forall_mem_cons.mpr ⟨lw_p33, List.forall_mem_cons.mpr ⟨lw_p34, List.forall_mem_cons.mpr ⟨lw_p35, List.forall_mem_cons.mpr ⟨lw_p36, fun _ h => absurd h List.not_mem_nil⟩⟩⟩⟩⟩
def lw_privs : List (MethodName × Nat) := lw_privs_1 ++ (lw_privs_2 ++ (lw_privs_3))
def lw_tbl : List Cond := k2_sels lw_privs ++ tables_1
theorem lw_privs_ok : ∀ q ∈ lw_privs, lw_okq q := by
  show ∀ q ∈ lw_privs_1 ++ (lw_privs_2 ++ (lw_privs_3)), lw_okq q
  exact List.forall_mem_append.mpr ⟨lw_r1, List.forall_mem_append.mpr ⟨lw_r2, lw_r3⟩⟩
end
section
/-! names: fields in the order of their slots, methods, words: written by wip/whole/emit_names.py -/
def bn_all : List Cond := lw_tbl.filter goodWord
theorem bn_tab {w : Cond} (h : w ∈ tables_1) (hg : goodWord w = true) : w ∈ bn_all := List.mem_filter.mpr ⟨List.mem_append_right _ h, hg⟩
theorem bn_t1 {w : Cond} {i : Nat} (h0 : tables_1_1[i]? = some w) (hg : goodWord w = true) : w ∈ bn_all := bn_tab (show w ∈ tables_1 from (fun h => List.mem_append_left _ (h)) (List.mem_of_getElem? h0)) hg
theorem bn_t2 {w : Cond} {i : Nat} (h0 : tables_1_2[i]? = some w) (hg : goodWord w = true) : w ∈ bn_all := bn_tab (show w ∈ tables_1 from (fun h => List.mem_append_right _ (List.mem_append_left _ (h))) (List.mem_of_getElem? h0)) hg
theorem bn_t3 {w : Cond} {i : Nat} (h0 : tables_1_3[i]? = some w) (hg : goodWord w = true) : w ∈ bn_all := bn_tab (show w ∈ tables_1 from (fun h => List.mem_append_right _ (List.mem_append_right _ (List.mem_append_left _ (h)))) (List.mem_of_getElem? h0)) hg
theorem bn_t4 {w : Cond} {i : Nat} (h0 : tables_1_4[i]? = some w) (hg : goodWord w = true) : w ∈ bn_all := bn_tab (show w ∈ tables_1 from (fun h => List.mem_append_right _ (List.mem_append_right _ (List.mem_append_right _ (List.mem_append_left _ (h))))) (List.mem_of_getElem? h0)) hg
theorem bn_t5 {w : Cond} {i : Nat} (h0 : tables_1_5[i]? = some w) (hg : goodWord w = true) : w ∈ bn_all := bn_tab (show w ∈ tables_1 from (fun h => List.mem_append_right _ (List.mem_append_right _ (List.mem_append_right _ (List.mem_append_right _ (h))))) (List.mem_of_getElem? h0)) hg
theorem bn_sel {q : MethodName × Nat} (h : q ∈ lw_privs) : Cond.selects q.1.cls q.1 q.1 ∈ bn_all := List.mem_filter.mpr ⟨List.mem_append_left _ (List.mem_map.mpr ⟨q, h, rfl⟩), rfl⟩
theorem k_0 : (Jvm.Cond.initialized "BridgeNetLaw") ∈ bn_all := bn_t1 (i := 0) rfl rfl
theorem k_1 : (Jvm.Cond.initialized "BridgeNet") ∈ bn_all := bn_t1 (i := 1) rfl rfl
theorem k_2 : (Jvm.Cond.initialized "BridgeNet$Bridge") ∈ bn_all := bn_t1 (i := 2) rfl rfl
theorem k_3 : (Jvm.Cond.initialized "BridgeNet$Port") ∈ bn_all := bn_t1 (i := 3) rfl rfl
theorem k_4 : (Jvm.Cond.initialized "BridgeNet$Line") ∈ bn_all := bn_t1 (i := 4) rfl rfl
theorem k_5 : (Jvm.Cond.initialized "BridgeNet$Message") ∈ bn_all := bn_t1 (i := 5) rfl rfl
theorem k_6 : (Jvm.Cond.initialized "BridgeNet$Station") ∈ bn_all := bn_t1 (i := 6) rfl rfl
theorem k_7 : (Jvm.Cond.initialized "BridgeNetModel") ∈ bn_all := bn_t1 (i := 7) rfl rfl
theorem k_8 : (Jvm.Cond.initialized "BridgeNet$Vector") ∈ bn_all := bn_t1 (i := 8) rfl rfl
theorem k_9 : (Jvm.Cond.initialized "java/lang/Throwable") ∈ bn_all := bn_t1 (i := 9) rfl rfl
theorem k_10 : (Jvm.Cond.initialized "java/lang/Exception") ∈ bn_all := bn_t1 (i := 10) rfl rfl
theorem k_11 : (Jvm.Cond.initialized "java/lang/RuntimeException") ∈ bn_all := bn_t1 (i := 11) rfl rfl
theorem k_12 : (Jvm.Cond.initialized "java/lang/IndexOutOfBoundsException") ∈ bn_all := bn_t1 (i := 12) rfl rfl
theorem k_13 : (Jvm.Cond.initialized "java/lang/IllegalArgumentException") ∈ bn_all := bn_t1 (i := 13) rfl rfl
theorem k_14 : (Jvm.Cond.initialized "java/lang/IllegalStateException") ∈ bn_all := bn_t1 (i := 14) rfl rfl
theorem k_15 : (Jvm.Cond.initialized "BridgeNet$Frame") ∈ bn_all := bn_t1 (i := 15) rfl rfl
theorem k_16 : (Jvm.Cond.initialized "java/lang/Math") ∈ bn_all := bn_t1 (i := 16) rfl rfl
theorem k_17 : (Jvm.Cond.classLink "BridgeNetLaw" (8 : Nat) "BridgeNet") ∈ bn_all := bn_t1 (i := 17) rfl rfl
theorem k_18 : (Jvm.Cond.instantiable "BridgeNet" (3 : Nat)) ∈ bn_all := bn_t1 (i := 18) rfl rfl
theorem k_19 : (Jvm.Cond.methodLink "BridgeNetLaw" (27 : Nat) ({ cls := "BridgeNet", name := "<init>", desc := "()V" } : Jvm.MethodName)) ∈ bn_all := bn_t1 (i := 19) rfl rfl
theorem k_20 : (Jvm.Cond.instanceMethod ({ cls := "BridgeNet", name := "<init>", desc := "()V" } : Jvm.MethodName)) ∈ bn_all := bn_t1 (i := 20) rfl rfl
theorem k_21 : (Jvm.Cond.code ({ cls := "BridgeNet", name := "<init>", desc := "()V" } : Jvm.MethodName) prog_1_method_1_code (2 : Nat) (Option.none : Option Jvm.ClassFile.FieldType)) ∈ bn_all := bn_t1 (i := 21) rfl rfl
theorem k_22 : (Jvm.Cond.methodLink "BridgeNet" (1 : Nat) ({ cls := "java/lang/Object", name := "<init>", desc := "()V" } : Jvm.MethodName)) ∈ bn_all := bn_t1 (i := 22) rfl rfl
theorem k_23 : (Jvm.Cond.instanceMethod ({ cls := "java/lang/Object", name := "<init>", desc := "()V" } : Jvm.MethodName)) ∈ bn_all := bn_t1 (i := 23) rfl rfl
theorem k_24 : (Jvm.Cond.code ({ cls := "java/lang/Object", name := "<init>", desc := "()V" } : Jvm.MethodName) object_method_1_code (1 : Nat) (Option.none : Option Jvm.ClassFile.FieldType)) ∈ bn_all := bn_t1 (i := 24) rfl rfl
theorem k_25 : (Jvm.Cond.classLink "BridgeNet" (9 : Nat) "BridgeNet$Bridge") ∈ bn_all := bn_t1 (i := 25) rfl rfl
theorem k_27 : (Jvm.Cond.classLink "BridgeNet" (15 : Nat) "BridgeNet$Station") ∈ bn_all := bn_t1 (i := 27) rfl rfl
theorem k_29 : (Jvm.Cond.instantiable "BridgeNet$Bridge" (9 : Nat)) ∈ bn_all := bn_t1 (i := 29) rfl rfl
theorem k_30 : (Jvm.Cond.methodLink "BridgeNet" (25 : Nat) ({ cls := "BridgeNet$Bridge", name := "<init>", desc := "(I)V" } : Jvm.MethodName)) ∈ bn_all := bn_t1 (i := 30) rfl rfl
theorem k_31 : (Jvm.Cond.instanceMethod ({ cls := "BridgeNet$Bridge", name := "<init>", desc := "(I)V" } : Jvm.MethodName)) ∈ bn_all := bn_t1 (i := 31) rfl rfl
theorem k_32 : (Jvm.Cond.code ({ cls := "BridgeNet$Bridge", name := "<init>", desc := "(I)V" } : Jvm.MethodName) prog_2_method_1_code (2 : Nat) (Option.none : Option Jvm.ClassFile.FieldType)) ∈ bn_all := bn_t1 (i := 32) rfl rfl
theorem k_33 : (Jvm.Cond.methodLink "BridgeNet$Bridge" (3 : Nat) ({ cls := "java/lang/Object", name := "<init>", desc := "()V" } : Jvm.MethodName)) ∈ bn_all := bn_t1 (i := 33) rfl rfl
theorem k_34 : (Jvm.Cond.classLink "BridgeNet$Bridge" (9 : Nat) "BridgeNet$Port") ∈ bn_all := bn_t1 (i := 34) rfl rfl
theorem k_36 : (Jvm.Cond.fieldLink "BridgeNet$Bridge" (35 : Nat) "BridgeNet$Bridge" "number" "I") ∈ bn_all := bn_t1 (i := 36) rfl rfl
theorem k_37 : (Jvm.Cond.fieldLink "BridgeNet$Bridge" (38 : Nat) "BridgeNet$Bridge" "id" "I") ∈ bn_all := bn_t1 (i := 37) rfl rfl
theorem k_38 : (Jvm.Cond.fieldLink "BridgeNet$Bridge" (11 : Nat) "BridgeNet$Bridge" "ports" "[LBridgeNet$Port;") ∈ bn_all := bn_t1 (i := 38) rfl rfl
theorem k_39 : (Jvm.Cond.fieldLink "BridgeNet" (195 : Nat) "BridgeNet$Bridge" "ports" "[LBridgeNet$Port;") ∈ bn_all := bn_t1 (i := 39) rfl rfl
theorem k_40 : (Jvm.Cond.fieldLink "BridgeNet$Bridge" (41 : Nat) "BridgeNet$Bridge" "root" "I") ∈ bn_all := bn_t1 (i := 40) rfl rfl
theorem k_41 : (Jvm.Cond.fieldLink "BridgeNet$Bridge" (17 : Nat) "BridgeNet$Bridge" "cost" "I") ∈ bn_all := bn_t1 (i := 41) rfl rfl
theorem k_42 : (Jvm.Cond.fieldLink "BridgeNet$Bridge" (21 : Nat) "BridgeNet$Bridge" "hops" "I") ∈ bn_all := bn_t1 (i := 42) rfl rfl
theorem k_43 : (Jvm.Cond.fieldLink "BridgeNet$Bridge" (24 : Nat) "BridgeNet$Bridge" "rootPort" "LBridgeNet$Port;") ∈ bn_all := bn_t1 (i := 43) rfl rfl
theorem k_44 : (Jvm.Cond.fieldLink "BridgeNet$Bridge" (28 : Nat) "BridgeNet$Bridge" "places" "[I") ∈ bn_all := bn_t1 (i := 44) rfl rfl
theorem k_45 : (Jvm.Cond.fieldLink "BridgeNet$Bridge" (32 : Nat) "BridgeNet$Bridge" "placeLives" "[I") ∈ bn_all := bn_t1 (i := 45) rfl rfl
theorem k_46 : (Jvm.Cond.laysFinal "BridgeNet$Bridge" "BridgeNet$Bridge" "number" "I") ∈ bn_all := bn_t1 (i := 46) rfl rfl
theorem k_48 : (Jvm.Cond.lays "BridgeNet$Bridge" "BridgeNet$Bridge" "id" "I") ∈ bn_all := bn_t1 (i := 48) rfl rfl
theorem k_50 : (Jvm.Cond.laysFinal "BridgeNet$Bridge" "BridgeNet$Bridge" "ports" "[LBridgeNet$Port;") ∈ bn_all := bn_t1 (i := 50) rfl rfl
theorem k_52 : (Jvm.Cond.lays "BridgeNet$Bridge" "BridgeNet$Bridge" "root" "I") ∈ bn_all := bn_t1 (i := 52) rfl rfl
theorem k_54 : (Jvm.Cond.lays "BridgeNet$Bridge" "BridgeNet$Bridge" "cost" "I") ∈ bn_all := bn_t1 (i := 54) rfl rfl
theorem k_56 : (Jvm.Cond.lays "BridgeNet$Bridge" "BridgeNet$Bridge" "hops" "I") ∈ bn_all := bn_t1 (i := 56) rfl rfl
theorem k_58 : (Jvm.Cond.lays "BridgeNet$Bridge" "BridgeNet$Bridge" "rootPort" "LBridgeNet$Port;") ∈ bn_all := bn_t1 (i := 58) rfl rfl
theorem k_60 : (Jvm.Cond.laysFinal "BridgeNet$Bridge" "BridgeNet$Bridge" "places" "[I") ∈ bn_all := bn_t1 (i := 60) rfl rfl
theorem k_62 : (Jvm.Cond.laysFinal "BridgeNet$Bridge" "BridgeNet$Bridge" "placeLives" "[I") ∈ bn_all := bn_t1 (i := 62) rfl rfl
theorem k_65 : (Jvm.Cond.arrayClass Jvm.ClassFile.FieldType.int) ∈ bn_all := bn_t1 (i := 65) rfl rfl
theorem k_66 : (Jvm.Cond.methodLink "BridgeNet" (28 : Nat) ({ cls := "BridgeNet$Bridge", name := "addPorts", desc := "()V" } : Jvm.MethodName)) ∈ bn_all := bn_t1 (i := 66) rfl rfl
theorem k_67 : (Jvm.Cond.instanceMethod ({ cls := "BridgeNet$Bridge", name := "addPorts", desc := "()V" } : Jvm.MethodName)) ∈ bn_all := bn_t1 (i := 67) rfl rfl
theorem k_68 : (Jvm.Cond.selects "BridgeNet$Bridge" ({ cls := "BridgeNet$Bridge", name := "addPorts", desc := "()V" } : Jvm.MethodName) ({ cls := "BridgeNet$Bridge", name := "addPorts", desc := "()V" } : Jvm.MethodName)) ∈ bn_all := bn_t1 (i := 68) rfl rfl
theorem k_69 : (Jvm.Cond.code ({ cls := "BridgeNet$Bridge", name := "addPorts", desc := "()V" } : Jvm.MethodName) prog_2_method_2_code (2 : Nat) (Option.none : Option Jvm.ClassFile.FieldType)) ∈ bn_all := bn_t1 (i := 69) rfl rfl
theorem k_70 : (Jvm.Cond.instantiable "BridgeNet$Port" (16 : Nat)) ∈ bn_all := bn_t1 (i := 70) rfl rfl
theorem k_71 : (Jvm.Cond.methodLink "BridgeNet$Bridge" (44 : Nat) ({ cls := "BridgeNet$Port", name := "<init>", desc := "(LBridgeNet$Bridge;I)V" } : Jvm.MethodName)) ∈ bn_all := bn_t1 (i := 71) rfl rfl
theorem k_72 : (Jvm.Cond.instanceMethod ({ cls := "BridgeNet$Port", name := "<init>", desc := "(LBridgeNet$Bridge;I)V" } : Jvm.MethodName)) ∈ bn_all := bn_t1 (i := 72) rfl rfl
theorem k_73 : (Jvm.Cond.code ({ cls := "BridgeNet$Port", name := "<init>", desc := "(LBridgeNet$Bridge;I)V" } : Jvm.MethodName) prog_6_method_1_code (3 : Nat) (Option.none : Option Jvm.ClassFile.FieldType)) ∈ bn_all := bn_t1 (i := 73) rfl rfl
theorem k_74 : (Jvm.Cond.methodLink "BridgeNet$Port" (3 : Nat) ({ cls := "java/lang/Object", name := "<init>", desc := "()V" } : Jvm.MethodName)) ∈ bn_all := bn_t1 (i := 74) rfl rfl
theorem k_75 : (Jvm.Cond.classLink "BridgeNet$Port" (9 : Nat) "BridgeNet$Line") ∈ bn_all := bn_t1 (i := 75) rfl rfl
theorem k_76 : (Jvm.Cond.instantiable "BridgeNet$Line" (3 : Nat)) ∈ bn_all := bn_t1 (i := 76) rfl rfl
theorem k_77 : (Jvm.Cond.methodLink "BridgeNet$Port" (11 : Nat) ({ cls := "BridgeNet$Line", name := "<init>", desc := "()V" } : Jvm.MethodName)) ∈ bn_all := bn_t1 (i := 77) rfl rfl
theorem k_78 : (Jvm.Cond.instanceMethod ({ cls := "BridgeNet$Line", name := "<init>", desc := "()V" } : Jvm.MethodName)) ∈ bn_all := bn_t1 (i := 78) rfl rfl
theorem k_79 : (Jvm.Cond.code ({ cls := "BridgeNet$Line", name := "<init>", desc := "()V" } : Jvm.MethodName) prog_4_method_1_code (2 : Nat) (Option.none : Option Jvm.ClassFile.FieldType)) ∈ bn_all := bn_t1 (i := 79) rfl rfl
theorem k_80 : (Jvm.Cond.methodLink "BridgeNet$Line" (3 : Nat) ({ cls := "java/lang/Object", name := "<init>", desc := "()V" } : Jvm.MethodName)) ∈ bn_all := bn_t1 (i := 80) rfl rfl
theorem k_81 : (Jvm.Cond.classLink "BridgeNet$Line" (9 : Nat) "BridgeNet$Message") ∈ bn_all := bn_t1 (i := 81) rfl rfl
theorem k_83 : (Jvm.Cond.instantiable "BridgeNet$Message" (6 : Nat)) ∈ bn_all := bn_t1 (i := 83) rfl rfl
theorem k_85 : (Jvm.Cond.instanceMethod ({ cls := "BridgeNet$Message", name := "<init>", desc := "()V" } : Jvm.MethodName)) ∈ bn_all := bn_t1 (i := 85) rfl rfl
theorem k_86 : (Jvm.Cond.code ({ cls := "BridgeNet$Message", name := "<init>", desc := "()V" } : Jvm.MethodName) prog_5_method_1_code (1 : Nat) (Option.none : Option Jvm.ClassFile.FieldType)) ∈ bn_all := bn_t1 (i := 86) rfl rfl
theorem k_87 : (Jvm.Cond.methodLink "BridgeNet$Message" (3 : Nat) ({ cls := "java/lang/Object", name := "<init>", desc := "()V" } : Jvm.MethodName)) ∈ bn_all := bn_t1 (i := 87) rfl rfl
theorem k_88 : (Jvm.Cond.fieldLink "BridgeNet$Message" (9 : Nat) "BridgeNet$Message" "kind" "I") ∈ bn_all := bn_t1 (i := 88) rfl rfl
theorem k_89 : (Jvm.Cond.fieldLink "BridgeNet" (138 : Nat) "BridgeNet$Message" "kind" "I") ∈ bn_all := bn_t1 (i := 89) rfl rfl
theorem k_90 : (Jvm.Cond.fieldLink "BridgeNet$Line" (46 : Nat) "BridgeNet$Message" "kind" "I") ∈ bn_all := bn_t1 (i := 90) rfl rfl
theorem k_91 : (Jvm.Cond.fieldLink "BridgeNet$Message" (15 : Nat) "BridgeNet$Message" "root" "I") ∈ bn_all := bn_t1 (i := 91) rfl rfl
theorem k_92 : (Jvm.Cond.fieldLink "BridgeNet$Line" (49 : Nat) "BridgeNet$Message" "root" "I") ∈ bn_all := bn_t1 (i := 92) rfl rfl
theorem k_93 : (Jvm.Cond.fieldLink "BridgeNet" (147 : Nat) "BridgeNet$Message" "root" "I") ∈ bn_all := bn_t1 (i := 93) rfl rfl
theorem k_94 : (Jvm.Cond.fieldLink "BridgeNet$Message" (18 : Nat) "BridgeNet$Message" "vector" "J") ∈ bn_all := bn_t1 (i := 94) rfl rfl
theorem k_95 : (Jvm.Cond.fieldLink "BridgeNet$Line" (35 : Nat) "BridgeNet$Message" "vector" "J") ∈ bn_all := bn_t1 (i := 95) rfl rfl
theorem k_96 : (Jvm.Cond.fieldLink "BridgeNet$Bridge" (139 : Nat) "BridgeNet$Message" "vector" "J") ∈ bn_all := bn_t1 (i := 96) rfl rfl
theorem k_97 : (Jvm.Cond.fieldLink "BridgeNet$Message" (22 : Nat) "BridgeNet$Message" "hops" "I") ∈ bn_all := bn_t1 (i := 97) rfl rfl
theorem k_98 : (Jvm.Cond.fieldLink "BridgeNet$Line" (39 : Nat) "BridgeNet$Message" "hops" "I") ∈ bn_all := bn_t1 (i := 98) rfl rfl
theorem k_99 : (Jvm.Cond.fieldLink "BridgeNet$Bridge" (136 : Nat) "BridgeNet$Message" "hops" "I") ∈ bn_all := bn_t1 (i := 99) rfl rfl
theorem k_100 : (Jvm.Cond.fieldLink "BridgeNet$Message" (25 : Nat) "BridgeNet$Message" "proposing" "Z") ∈ bn_all := bn_t1 (i := 100) rfl rfl
theorem k_101 : (Jvm.Cond.fieldLink "BridgeNet$Line" (42 : Nat) "BridgeNet$Message" "proposing" "Z") ∈ bn_all := bn_t1 (i := 101) rfl rfl
theorem k_102 : (Jvm.Cond.fieldLink "BridgeNet$Bridge" (149 : Nat) "BridgeNet$Message" "proposing" "Z") ∈ bn_all := bn_t1 (i := 102) rfl rfl
theorem k_103 : (Jvm.Cond.fieldLink "BridgeNet$Message" (29 : Nat) "BridgeNet$Message" "frame" "LBridgeNet$Frame;") ∈ bn_all := bn_t1 (i := 103) rfl rfl
theorem k_104 : (Jvm.Cond.fieldLink "BridgeNet$Line" (52 : Nat) "BridgeNet$Message" "frame" "LBridgeNet$Frame;") ∈ bn_all := bn_t1 (i := 104) rfl rfl
theorem k_105 : (Jvm.Cond.fieldLink "BridgeNet" (153 : Nat) "BridgeNet$Message" "frame" "LBridgeNet$Frame;") ∈ bn_all := bn_t1 (i := 105) rfl rfl
theorem k_106 : (Jvm.Cond.lays "BridgeNet$Message" "BridgeNet$Message" "kind" "I") ∈ bn_all := bn_t1 (i := 106) rfl rfl
theorem k_108 : (Jvm.Cond.lays "BridgeNet$Message" "BridgeNet$Message" "root" "I") ∈ bn_all := bn_t1 (i := 108) rfl rfl
theorem k_110 : (Jvm.Cond.lays "BridgeNet$Message" "BridgeNet$Message" "vector" "J") ∈ bn_all := bn_t1 (i := 110) rfl rfl
theorem k_112 : (Jvm.Cond.lays "BridgeNet$Message" "BridgeNet$Message" "hops" "I") ∈ bn_all := bn_t1 (i := 112) rfl rfl
theorem k_114 : (Jvm.Cond.lays "BridgeNet$Message" "BridgeNet$Message" "proposing" "Z") ∈ bn_all := bn_t1 (i := 114) rfl rfl
theorem k_116 : (Jvm.Cond.lays "BridgeNet$Message" "BridgeNet$Message" "frame" "LBridgeNet$Frame;") ∈ bn_all := bn_t1 (i := 116) rfl rfl
theorem k_119 : (Jvm.Cond.fieldLink "BridgeNet$Line" (11 : Nat) "BridgeNet$Line" "ring" "[LBridgeNet$Message;") ∈ bn_all := bn_t1 (i := 119) rfl rfl
theorem k_120 : (Jvm.Cond.fieldLink "BridgeNet$Line" (17 : Nat) "BridgeNet$Line" "first" "I") ∈ bn_all := bn_t1 (i := 120) rfl rfl
theorem k_121 : (Jvm.Cond.fieldLink "BridgeNet$Line" (21 : Nat) "BridgeNet$Line" "count" "I") ∈ bn_all := bn_t1 (i := 121) rfl rfl
theorem k_122 : (Jvm.Cond.fieldLink "BridgeNet" (189 : Nat) "BridgeNet$Line" "count" "I") ∈ bn_all := bn_t1 (i := 122) rfl rfl
theorem k_123 : (Jvm.Cond.laysFinal "BridgeNet$Line" "BridgeNet$Line" "ring" "[LBridgeNet$Message;") ∈ bn_all := bn_t1 (i := 123) rfl rfl
theorem k_125 : (Jvm.Cond.lays "BridgeNet$Line" "BridgeNet$Line" "first" "I") ∈ bn_all := bn_t1 (i := 125) rfl rfl
theorem k_127 : (Jvm.Cond.lays "BridgeNet$Line" "BridgeNet$Line" "count" "I") ∈ bn_all := bn_t1 (i := 127) rfl rfl
theorem k_130 : (Jvm.Cond.fieldLink "BridgeNet$Port" (62 : Nat) "BridgeNet$Port" "owner" "LBridgeNet$Bridge;") ∈ bn_all := bn_t1 (i := 130) rfl rfl
theorem k_131 : (Jvm.Cond.fieldLink "BridgeNet$Station" (32 : Nat) "BridgeNet$Port" "owner" "LBridgeNet$Bridge;") ∈ bn_all := bn_t1 (i := 131) rfl rfl
theorem k_132 : (Jvm.Cond.fieldLink "BridgeNet" (59 : Nat) "BridgeNet$Port" "owner" "LBridgeNet$Bridge;") ∈ bn_all := bn_t1 (i := 132) rfl rfl
theorem k_133 : (Jvm.Cond.fieldLink "BridgeNet$Port" (66 : Nat) "BridgeNet$Port" "number" "I") ∈ bn_all := bn_t1 (i := 133) rfl rfl
theorem k_134 : (Jvm.Cond.fieldLink "BridgeNet$Bridge" (112 : Nat) "BridgeNet$Port" "number" "I") ∈ bn_all := bn_t1 (i := 134) rfl rfl
theorem k_135 : (Jvm.Cond.fieldLink "BridgeNet$Port" (12 : Nat) "BridgeNet$Port" "line" "LBridgeNet$Line;") ∈ bn_all := bn_t1 (i := 135) rfl rfl
theorem k_136 : (Jvm.Cond.fieldLink "BridgeNet" (128 : Nat) "BridgeNet$Port" "line" "LBridgeNet$Line;") ∈ bn_all := bn_t1 (i := 136) rfl rfl
theorem k_137 : (Jvm.Cond.fieldLink "BridgeNet$Bridge" (123 : Nat) "BridgeNet$Port" "line" "LBridgeNet$Line;") ∈ bn_all := bn_t1 (i := 137) rfl rfl
theorem k_138 : (Jvm.Cond.fieldLink "BridgeNet$Port" (18 : Nat) "BridgeNet$Port" "cost" "I") ∈ bn_all := bn_t1 (i := 138) rfl rfl
theorem k_139 : (Jvm.Cond.fieldLink "BridgeNet" (50 : Nat) "BridgeNet$Port" "cost" "I") ∈ bn_all := bn_t1 (i := 139) rfl rfl
theorem k_140 : (Jvm.Cond.fieldLink "BridgeNet$Bridge" (78 : Nat) "BridgeNet$Port" "cost" "I") ∈ bn_all := bn_t1 (i := 140) rfl rfl
theorem k_141 : (Jvm.Cond.fieldLink "BridgeNet$Port" (22 : Nat) "BridgeNet$Port" "vlans" "I") ∈ bn_all := bn_t1 (i := 141) rfl rfl
theorem k_142 : (Jvm.Cond.fieldLink "BridgeNet" (56 : Nat) "BridgeNet$Port" "vlans" "I") ∈ bn_all := bn_t1 (i := 142) rfl rfl
theorem k_143 : (Jvm.Cond.fieldLink "BridgeNet$Port" (25 : Nat) "BridgeNet$Port" "peer" "LBridgeNet$Port;") ∈ bn_all := bn_t1 (i := 143) rfl rfl
theorem k_144 : (Jvm.Cond.fieldLink "BridgeNet" (70 : Nat) "BridgeNet$Port" "peer" "LBridgeNet$Port;") ∈ bn_all := bn_t1 (i := 144) rfl rfl
theorem k_145 : (Jvm.Cond.fieldLink "BridgeNet$Bridge" (120 : Nat) "BridgeNet$Port" "peer" "LBridgeNet$Port;") ∈ bn_all := bn_t1 (i := 145) rfl rfl
theorem k_146 : (Jvm.Cond.fieldLink "BridgeNet$Port" (29 : Nat) "BridgeNet$Port" "station" "LBridgeNet$Station;") ∈ bn_all := bn_t1 (i := 146) rfl rfl
theorem k_147 : (Jvm.Cond.fieldLink "BridgeNet$Bridge" (104 : Nat) "BridgeNet$Port" "station" "LBridgeNet$Station;") ∈ bn_all := bn_t1 (i := 147) rfl rfl
theorem k_148 : (Jvm.Cond.fieldLink "BridgeNet$Port" (33 : Nat) "BridgeNet$Port" "hasInfo" "Z") ∈ bn_all := bn_t1 (i := 148) rfl rfl
theorem k_149 : (Jvm.Cond.fieldLink "BridgeNet$Bridge" (66 : Nat) "BridgeNet$Port" "hasInfo" "Z") ∈ bn_all := bn_t1 (i := 149) rfl rfl
theorem k_150 : (Jvm.Cond.fieldLink "BridgeNet" (172 : Nat) "BridgeNet$Port" "hasInfo" "Z") ∈ bn_all := bn_t1 (i := 150) rfl rfl
theorem k_151 : (Jvm.Cond.fieldLink "BridgeNet$Port" (37 : Nat) "BridgeNet$Port" "info" "J") ∈ bn_all := bn_t1 (i := 151) rfl rfl
theorem k_152 : (Jvm.Cond.fieldLink "BridgeNet$Bridge" (70 : Nat) "BridgeNet$Port" "info" "J") ∈ bn_all := bn_t1 (i := 152) rfl rfl
theorem k_153 : (Jvm.Cond.fieldLink "BridgeNet$Port" (41 : Nat) "BridgeNet$Port" "infoHops" "I") ∈ bn_all := bn_t1 (i := 153) rfl rfl
theorem k_154 : (Jvm.Cond.fieldLink "BridgeNet$Port" (44 : Nat) "BridgeNet$Port" "infoLife" "I") ∈ bn_all := bn_t1 (i := 154) rfl rfl
theorem k_155 : (Jvm.Cond.fieldLink "BridgeNet$Port" (47 : Nat) "BridgeNet$Port" "role" "I") ∈ bn_all := bn_t1 (i := 155) rfl rfl
theorem k_156 : (Jvm.Cond.fieldLink "BridgeNet$Bridge" (97 : Nat) "BridgeNet$Port" "role" "I") ∈ bn_all := bn_t1 (i := 156) rfl rfl
theorem k_157 : (Jvm.Cond.fieldLink "BridgeNet$Port" (50 : Nat) "BridgeNet$Port" "state" "I") ∈ bn_all := bn_t1 (i := 157) rfl rfl
theorem k_158 : (Jvm.Cond.fieldLink "BridgeNet$Bridge" (165 : Nat) "BridgeNet$Port" "state" "I") ∈ bn_all := bn_t1 (i := 158) rfl rfl
theorem k_159 : (Jvm.Cond.fieldLink "BridgeNet$Port" (53 : Nat) "BridgeNet$Port" "proposing" "Z") ∈ bn_all := bn_t1 (i := 159) rfl rfl
theorem k_160 : (Jvm.Cond.fieldLink "BridgeNet$Bridge" (127 : Nat) "BridgeNet$Port" "proposing" "Z") ∈ bn_all := bn_t1 (i := 160) rfl rfl
theorem k_161 : (Jvm.Cond.fieldLink "BridgeNet$Port" (56 : Nat) "BridgeNet$Port" "agreed" "Z") ∈ bn_all := bn_t1 (i := 161) rfl rfl
theorem k_162 : (Jvm.Cond.fieldLink "BridgeNet$Port" (59 : Nat) "BridgeNet$Port" "waits" "I") ∈ bn_all := bn_t1 (i := 162) rfl rfl
theorem k_163 : (Jvm.Cond.laysFinal "BridgeNet$Port" "BridgeNet$Port" "owner" "LBridgeNet$Bridge;") ∈ bn_all := bn_t1 (i := 163) rfl rfl
theorem k_165 : (Jvm.Cond.laysFinal "BridgeNet$Port" "BridgeNet$Port" "number" "I") ∈ bn_all := bn_t1 (i := 165) rfl rfl
theorem k_167 : (Jvm.Cond.laysFinal "BridgeNet$Port" "BridgeNet$Port" "line" "LBridgeNet$Line;") ∈ bn_all := bn_t1 (i := 167) rfl rfl
theorem k_169 : (Jvm.Cond.lays "BridgeNet$Port" "BridgeNet$Port" "cost" "I") ∈ bn_all := bn_t1 (i := 169) rfl rfl
theorem k_171 : (Jvm.Cond.lays "BridgeNet$Port" "BridgeNet$Port" "vlans" "I") ∈ bn_all := bn_t1 (i := 171) rfl rfl
theorem k_173 : (Jvm.Cond.lays "BridgeNet$Port" "BridgeNet$Port" "peer" "LBridgeNet$Port;") ∈ bn_all := bn_t1 (i := 173) rfl rfl
theorem k_175 : (Jvm.Cond.lays "BridgeNet$Port" "BridgeNet$Port" "station" "LBridgeNet$Station;") ∈ bn_all := bn_t1 (i := 175) rfl rfl
theorem k_177 : (Jvm.Cond.lays "BridgeNet$Port" "BridgeNet$Port" "hasInfo" "Z") ∈ bn_all := bn_t1 (i := 177) rfl rfl
theorem k_179 : (Jvm.Cond.lays "BridgeNet$Port" "BridgeNet$Port" "info" "J") ∈ bn_all := bn_t1 (i := 179) rfl rfl
theorem k_181 : (Jvm.Cond.lays "BridgeNet$Port" "BridgeNet$Port" "infoHops" "I") ∈ bn_all := bn_t1 (i := 181) rfl rfl
theorem k_183 : (Jvm.Cond.lays "BridgeNet$Port" "BridgeNet$Port" "infoLife" "I") ∈ bn_all := bn_t1 (i := 183) rfl rfl
theorem k_185 : (Jvm.Cond.lays "BridgeNet$Port" "BridgeNet$Port" "role" "I") ∈ bn_all := bn_t1 (i := 185) rfl rfl
theorem k_187 : (Jvm.Cond.lays "BridgeNet$Port" "BridgeNet$Port" "state" "I") ∈ bn_all := bn_t1 (i := 187) rfl rfl
theorem k_189 : (Jvm.Cond.lays "BridgeNet$Port" "BridgeNet$Port" "proposing" "Z") ∈ bn_all := bn_t1 (i := 189) rfl rfl
theorem k_191 : (Jvm.Cond.lays "BridgeNet$Port" "BridgeNet$Port" "agreed" "Z") ∈ bn_all := bn_t1 (i := 191) rfl rfl
theorem k_193 : (Jvm.Cond.lays "BridgeNet$Port" "BridgeNet$Port" "waits" "I") ∈ bn_all := bn_t1 (i := 193) rfl rfl
theorem k_196 : (Jvm.Cond.instantiable "BridgeNet$Station" (4 : Nat)) ∈ bn_all := bn_t1 (i := 196) rfl rfl
theorem k_198 : (Jvm.Cond.instanceMethod ({ cls := "BridgeNet$Station", name := "<init>", desc := "()V" } : Jvm.MethodName)) ∈ bn_all := bn_t1 (i := 198) rfl rfl
theorem k_199 : (Jvm.Cond.code ({ cls := "BridgeNet$Station", name := "<init>", desc := "()V" } : Jvm.MethodName) prog_7_method_1_code (1 : Nat) (Option.none : Option Jvm.ClassFile.FieldType)) ∈ bn_all := bn_t1 (i := 199) rfl rfl
theorem k_200 : (Jvm.Cond.methodLink "BridgeNet$Station" (3 : Nat) ({ cls := "java/lang/Object", name := "<init>", desc := "()V" } : Jvm.MethodName)) ∈ bn_all := bn_t1 (i := 200) rfl rfl
theorem k_201 : (Jvm.Cond.fieldLink "BridgeNet$Station" (9 : Nat) "BridgeNet$Station" "place" "LBridgeNet$Port;") ∈ bn_all := bn_t1 (i := 201) rfl rfl
theorem k_202 : (Jvm.Cond.fieldLink "BridgeNet" (107 : Nat) "BridgeNet$Station" "place" "LBridgeNet$Port;") ∈ bn_all := bn_t1 (i := 202) rfl rfl
theorem k_203 : (Jvm.Cond.fieldLink "BridgeNet$Station" (15 : Nat) "BridgeNet$Station" "vlan" "I") ∈ bn_all := bn_t1 (i := 203) rfl rfl
theorem k_204 : (Jvm.Cond.fieldLink "BridgeNet" (116 : Nat) "BridgeNet$Station" "vlan" "I") ∈ bn_all := bn_t1 (i := 204) rfl rfl
theorem k_205 : (Jvm.Cond.fieldLink "BridgeNet$Port" (104 : Nat) "BridgeNet$Station" "vlan" "I") ∈ bn_all := bn_t1 (i := 205) rfl rfl
theorem k_206 : (Jvm.Cond.fieldLink "BridgeNet$Station" (19 : Nat) "BridgeNet$Station" "inbox" "[J") ∈ bn_all := bn_t1 (i := 206) rfl rfl
theorem k_207 : (Jvm.Cond.fieldLink "BridgeNet$Station" (23 : Nat) "BridgeNet$Station" "count" "I") ∈ bn_all := bn_t1 (i := 207) rfl rfl
theorem k_208 : (Jvm.Cond.fieldLink "BridgeNet" (182 : Nat) "BridgeNet$Station" "count" "I") ∈ bn_all := bn_t1 (i := 208) rfl rfl
theorem k_209 : (Jvm.Cond.lays "BridgeNet$Station" "BridgeNet$Station" "place" "LBridgeNet$Port;") ∈ bn_all := bn_t1 (i := 209) rfl rfl
theorem k_211 : (Jvm.Cond.lays "BridgeNet$Station" "BridgeNet$Station" "vlan" "I") ∈ bn_all := bn_t1 (i := 211) rfl rfl
theorem k_213 : (Jvm.Cond.laysFinal "BridgeNet$Station" "BridgeNet$Station" "inbox" "[J") ∈ bn_all := bn_t1 (i := 213) rfl rfl
theorem k_215 : (Jvm.Cond.lays "BridgeNet$Station" "BridgeNet$Station" "count" "I") ∈ bn_all := bn_t1 (i := 215) rfl rfl
theorem k_218 : (Jvm.Cond.arrayClass Jvm.ClassFile.FieldType.long) ∈ bn_all := bn_t1 (i := 218) rfl rfl
theorem k_219 : (Jvm.Cond.fieldLink "BridgeNet" (11 : Nat) "BridgeNet" "bridges" "[LBridgeNet$Bridge;") ∈ bn_all := bn_t1 (i := 219) rfl rfl
theorem k_220 : (Jvm.Cond.fieldLink "BridgeNet" (17 : Nat) "BridgeNet" "stations" "[LBridgeNet$Station;") ∈ bn_all := bn_t1 (i := 220) rfl rfl
theorem k_221 : (Jvm.Cond.fieldLink "BridgeNet" (21 : Nat) "BridgeNet" "tellsAtNextTick" "Z") ∈ bn_all := bn_t1 (i := 221) rfl rfl
theorem k_222 : (Jvm.Cond.laysFinal "BridgeNet" "BridgeNet" "bridges" "[LBridgeNet$Bridge;") ∈ bn_all := bn_t1 (i := 222) rfl rfl
theorem k_224 : (Jvm.Cond.laysFinal "BridgeNet" "BridgeNet" "stations" "[LBridgeNet$Station;") ∈ bn_all := bn_t1 (i := 224) rfl rfl
theorem k_226 : (Jvm.Cond.lays "BridgeNet" "BridgeNet" "tellsAtNextTick" "Z") ∈ bn_all := bn_t1 (i := 226) rfl rfl
theorem k_229 : (Jvm.Cond.methodLink "BridgeNetLaw" (31 : Nat) ({ cls := "BridgeNet", name := "priority", desc := "(II)Z" } : Jvm.MethodName)) ∈ bn_all := bn_t1 (i := 229) rfl rfl
theorem k_230 : (Jvm.Cond.instanceMethod ({ cls := "BridgeNet", name := "priority", desc := "(II)Z" } : Jvm.MethodName)) ∈ bn_all := bn_t1 (i := 230) rfl rfl
theorem k_231 : (Jvm.Cond.selects "BridgeNet" ({ cls := "BridgeNet", name := "priority", desc := "(II)Z" } : Jvm.MethodName) ({ cls := "BridgeNet", name := "priority", desc := "(II)Z" } : Jvm.MethodName)) ∈ bn_all := bn_t1 (i := 231) rfl rfl
theorem k_232 : (Jvm.Cond.code ({ cls := "BridgeNet", name := "priority", desc := "(II)Z" } : Jvm.MethodName) prog_1_method_2_code (3 : Nat) (Option.some Jvm.ClassFile.FieldType.boolean)) ∈ bn_all := bn_t1 (i := 232) rfl rfl
theorem k_233 : (Jvm.Cond.methodLink "BridgeNet" (32 : Nat) ({ cls := "BridgeNet", name := "isBridge", desc := "(I)Z" } : Jvm.MethodName)) ∈ bn_all := bn_t1 (i := 233) rfl rfl
theorem k_234 : (Jvm.Cond.static ({ cls := "BridgeNet", name := "isBridge", desc := "(I)Z" } : Jvm.MethodName)) ∈ bn_all := bn_t1 (i := 234) rfl rfl
theorem k_235 : (Jvm.Cond.code ({ cls := "BridgeNet", name := "isBridge", desc := "(I)Z" } : Jvm.MethodName) prog_1_method_18_code (1 : Nat) (Option.some Jvm.ClassFile.FieldType.boolean)) ∈ bn_all := bn_t1 (i := 235) rfl rfl
theorem k_236 : (Jvm.Cond.methodLink "BridgeNet" (36 : Nat) ({ cls := "BridgeNet$Bridge", name := "isUnused", desc := "()Z" } : Jvm.MethodName)) ∈ bn_all := bn_t1 (i := 236) rfl rfl
theorem k_237 : (Jvm.Cond.instanceMethod ({ cls := "BridgeNet$Bridge", name := "isUnused", desc := "()Z" } : Jvm.MethodName)) ∈ bn_all := bn_t1 (i := 237) rfl rfl
theorem k_238 : (Jvm.Cond.selects "BridgeNet$Bridge" ({ cls := "BridgeNet$Bridge", name := "isUnused", desc := "()Z" } : Jvm.MethodName) ({ cls := "BridgeNet$Bridge", name := "isUnused", desc := "()Z" } : Jvm.MethodName)) ∈ bn_all := bn_t1 (i := 238) rfl rfl
theorem k_239 : (Jvm.Cond.code ({ cls := "BridgeNet$Bridge", name := "isUnused", desc := "()Z" } : Jvm.MethodName) prog_2_method_3_code (5 : Nat) (Option.some Jvm.ClassFile.FieldType.boolean)) ∈ bn_all := bn_t1 (i := 239) rfl rfl
theorem k_240 : (Jvm.Cond.methodLink "BridgeNet$Bridge" (47 : Nat) ({ cls := "BridgeNet$Port", name := "isFree", desc := "()Z" } : Jvm.MethodName)) ∈ bn_all := bn_t2 (i := 0) rfl rfl
theorem k_241 : (Jvm.Cond.instanceMethod ({ cls := "BridgeNet$Port", name := "isFree", desc := "()Z" } : Jvm.MethodName)) ∈ bn_all := bn_t2 (i := 1) rfl rfl
theorem k_242 : (Jvm.Cond.selects "BridgeNet$Port" ({ cls := "BridgeNet$Port", name := "isFree", desc := "()Z" } : Jvm.MethodName) ({ cls := "BridgeNet$Port", name := "isFree", desc := "()Z" } : Jvm.MethodName)) ∈ bn_all := bn_t2 (i := 2) rfl rfl
theorem k_243 : (Jvm.Cond.code ({ cls := "BridgeNet$Port", name := "isFree", desc := "()Z" } : Jvm.MethodName) prog_6_method_2_code (1 : Nat) (Option.some Jvm.ClassFile.FieldType.boolean)) ∈ bn_all := bn_t2 (i := 3) rfl rfl
theorem k_244 : (Jvm.Cond.methodLink "BridgeNet" (40 : Nat) ({ cls := "BridgeNet$Bridge", name := "rank", desc := "(I)V" } : Jvm.MethodName)) ∈ bn_all := bn_t2 (i := 4) rfl rfl
theorem k_245 : (Jvm.Cond.instanceMethod ({ cls := "BridgeNet$Bridge", name := "rank", desc := "(I)V" } : Jvm.MethodName)) ∈ bn_all := bn_t2 (i := 5) rfl rfl
theorem k_246 : (Jvm.Cond.selects "BridgeNet$Bridge" ({ cls := "BridgeNet$Bridge", name := "rank", desc := "(I)V" } : Jvm.MethodName) ({ cls := "BridgeNet$Bridge", name := "rank", desc := "(I)V" } : Jvm.MethodName)) ∈ bn_all := bn_t2 (i := 6) rfl rfl
theorem k_247 : (Jvm.Cond.code ({ cls := "BridgeNet$Bridge", name := "rank", desc := "(I)V" } : Jvm.MethodName) prog_2_method_4_code (2 : Nat) (Option.none : Option Jvm.ClassFile.FieldType)) ∈ bn_all := bn_t2 (i := 7) rfl rfl
theorem k_248 : (Jvm.Cond.methodLink "BridgeNet" (43 : Nat) ({ cls := "BridgeNet$Bridge", name := "compute", desc := "()V" } : Jvm.MethodName)) ∈ bn_all := bn_t2 (i := 8) rfl rfl
theorem k_249 : (Jvm.Cond.instanceMethod ({ cls := "BridgeNet$Bridge", name := "compute", desc := "()V" } : Jvm.MethodName)) ∈ bn_all := bn_t2 (i := 9) rfl rfl
theorem k_250 : (Jvm.Cond.selects "BridgeNet$Bridge" ({ cls := "BridgeNet$Bridge", name := "compute", desc := "()V" } : Jvm.MethodName) ({ cls := "BridgeNet$Bridge", name := "compute", desc := "()V" } : Jvm.MethodName)) ∈ bn_all := bn_t2 (i := 10) rfl rfl
theorem k_251 : (Jvm.Cond.code ({ cls := "BridgeNet$Bridge", name := "compute", desc := "()V" } : Jvm.MethodName) prog_2_method_6_code (5 : Nat) (Option.none : Option Jvm.ClassFile.FieldType)) ∈ bn_all := bn_t2 (i := 11) rfl rfl
theorem k_252 : (Jvm.Cond.methodLink "BridgeNet$Bridge" (51 : Nat) ({ cls := "BridgeNet$Bridge", name := "chooseRoot", desc := "()V" } : Jvm.MethodName)) ∈ bn_all := bn_t2 (i := 12) rfl rfl
theorem k_254 : (Jvm.Cond.instanceMethod ({ cls := "BridgeNet$Bridge", name := "chooseRoot", desc := "()V" } : Jvm.MethodName)) ∈ bn_all := bn_t2 (i := 14) rfl rfl
theorem k_255 : (Jvm.Cond.code ({ cls := "BridgeNet$Bridge", name := "chooseRoot", desc := "()V" } : Jvm.MethodName) prog_2_method_7_code (9 : Nat) (Option.none : Option Jvm.ClassFile.FieldType)) ∈ bn_all := bn_t2 (i := 15) rfl rfl
theorem k_256 : (Jvm.Cond.methodLink "BridgeNet$Bridge" (60 : Nat) ({ cls := "BridgeNet$Vector", name := "of", desc := "(IIII)J" } : Jvm.MethodName)) ∈ bn_all := bn_t2 (i := 16) rfl rfl
theorem k_257 : (Jvm.Cond.static ({ cls := "BridgeNet$Vector", name := "of", desc := "(IIII)J" } : Jvm.MethodName)) ∈ bn_all := bn_t2 (i := 17) rfl rfl
theorem k_258 : (Jvm.Cond.code ({ cls := "BridgeNet$Vector", name := "of", desc := "(IIII)J" } : Jvm.MethodName) prog_8_method_2_code (4 : Nat) (Option.some Jvm.ClassFile.FieldType.long)) ∈ bn_all := bn_t2 (i := 18) rfl rfl
theorem k_259 : (Jvm.Cond.methodLink "BridgeNet$Bridge" (74 : Nat) ({ cls := "BridgeNet$Vector", name := "bridgeOf", desc := "(J)I" } : Jvm.MethodName)) ∈ bn_all := bn_t2 (i := 19) rfl rfl
theorem k_260 : (Jvm.Cond.static ({ cls := "BridgeNet$Vector", name := "bridgeOf", desc := "(J)I" } : Jvm.MethodName)) ∈ bn_all := bn_t2 (i := 20) rfl rfl
theorem k_261 : (Jvm.Cond.code ({ cls := "BridgeNet$Vector", name := "bridgeOf", desc := "(J)I" } : Jvm.MethodName) prog_8_method_6_code (2 : Nat) (Option.some Jvm.ClassFile.FieldType.int)) ∈ bn_all := bn_t2 (i := 21) rfl rfl
theorem k_262 : (Jvm.Cond.methodLink "BridgeNet$Bridge" (79 : Nat) ({ cls := "BridgeNet$Vector", name := "farther", desc := "(JI)J" } : Jvm.MethodName)) ∈ bn_all := bn_t2 (i := 22) rfl rfl
theorem k_263 : (Jvm.Cond.static ({ cls := "BridgeNet$Vector", name := "farther", desc := "(JI)J" } : Jvm.MethodName)) ∈ bn_all := bn_t2 (i := 23) rfl rfl
theorem k_264 : (Jvm.Cond.code ({ cls := "BridgeNet$Vector", name := "farther", desc := "(JI)J" } : Jvm.MethodName) prog_8_method_3_code (3 : Nat) (Option.some Jvm.ClassFile.FieldType.long)) ∈ bn_all := bn_t2 (i := 24) rfl rfl
theorem k_265 : (Jvm.Cond.methodLink "BridgeNet$Bridge" (83 : Nat) ({ cls := "BridgeNet$Port", name := "hopsThrough", desc := "()I" } : Jvm.MethodName)) ∈ bn_all := bn_t2 (i := 25) rfl rfl
theorem k_266 : (Jvm.Cond.instanceMethod ({ cls := "BridgeNet$Port", name := "hopsThrough", desc := "()I" } : Jvm.MethodName)) ∈ bn_all := bn_t2 (i := 26) rfl rfl
theorem k_267 : (Jvm.Cond.selects "BridgeNet$Port" ({ cls := "BridgeNet$Port", name := "hopsThrough", desc := "()I" } : Jvm.MethodName) ({ cls := "BridgeNet$Port", name := "hopsThrough", desc := "()I" } : Jvm.MethodName)) ∈ bn_all := bn_t2 (i := 27) rfl rfl
theorem k_268 : (Jvm.Cond.code ({ cls := "BridgeNet$Port", name := "hopsThrough", desc := "()I" } : Jvm.MethodName) prog_6_method_5_code (1 : Nat) (Option.some Jvm.ClassFile.FieldType.int)) ∈ bn_all := bn_t2 (i := 28) rfl rfl
theorem k_269 : (Jvm.Cond.methodLink "BridgeNet$Bridge" (87 : Nat) ({ cls := "BridgeNet$Vector", name := "rootOf", desc := "(J)I" } : Jvm.MethodName)) ∈ bn_all := bn_t2 (i := 29) rfl rfl
theorem k_270 : (Jvm.Cond.static ({ cls := "BridgeNet$Vector", name := "rootOf", desc := "(J)I" } : Jvm.MethodName)) ∈ bn_all := bn_t2 (i := 30) rfl rfl
theorem k_271 : (Jvm.Cond.code ({ cls := "BridgeNet$Vector", name := "rootOf", desc := "(J)I" } : Jvm.MethodName) prog_8_method_4_code (2 : Nat) (Option.some Jvm.ClassFile.FieldType.int)) ∈ bn_all := bn_t2 (i := 31) rfl rfl
theorem k_272 : (Jvm.Cond.methodLink "BridgeNet$Bridge" (90 : Nat) ({ cls := "BridgeNet$Vector", name := "costOf", desc := "(J)I" } : Jvm.MethodName)) ∈ bn_all := bn_t2 (i := 32) rfl rfl
theorem k_273 : (Jvm.Cond.static ({ cls := "BridgeNet$Vector", name := "costOf", desc := "(J)I" } : Jvm.MethodName)) ∈ bn_all := bn_t2 (i := 33) rfl rfl
theorem k_274 : (Jvm.Cond.code ({ cls := "BridgeNet$Vector", name := "costOf", desc := "(J)I" } : Jvm.MethodName) prog_8_method_5_code (2 : Nat) (Option.some Jvm.ClassFile.FieldType.int)) ∈ bn_all := bn_t2 (i := 34) rfl rfl
theorem k_275 : (Jvm.Cond.constant "BridgeNet$Vector" (9 : Nat) (65535 : Int32)) ∈ bn_all := bn_t2 (i := 35) rfl rfl
theorem k_276 : (Jvm.Cond.methodLink "BridgeNet$Bridge" (54 : Nat) ({ cls := "BridgeNet$Bridge", name := "giveRoles", desc := "()Z" } : Jvm.MethodName)) ∈ bn_all := bn_t2 (i := 36) rfl rfl
theorem k_278 : (Jvm.Cond.instanceMethod ({ cls := "BridgeNet$Bridge", name := "giveRoles", desc := "()Z" } : Jvm.MethodName)) ∈ bn_all := bn_t2 (i := 38) rfl rfl
theorem k_279 : (Jvm.Cond.code ({ cls := "BridgeNet$Bridge", name := "giveRoles", desc := "()Z" } : Jvm.MethodName) prog_2_method_8_code (7 : Nat) (Option.some Jvm.ClassFile.FieldType.boolean)) ∈ bn_all := bn_t2 (i := 39) rfl rfl
theorem k_280 : (Jvm.Cond.methodLink "BridgeNet$Bridge" (93 : Nat) ({ cls := "BridgeNet$Bridge", name := "dueRole", desc := "(LBridgeNet$Port;)I" } : Jvm.MethodName)) ∈ bn_all := bn_t2 (i := 40) rfl rfl
theorem k_282 : (Jvm.Cond.instanceMethod ({ cls := "BridgeNet$Bridge", name := "dueRole", desc := "(LBridgeNet$Port;)I" } : Jvm.MethodName)) ∈ bn_all := bn_t2 (i := 42) rfl rfl
theorem k_283 : (Jvm.Cond.code ({ cls := "BridgeNet$Bridge", name := "dueRole", desc := "(LBridgeNet$Port;)I" } : Jvm.MethodName) prog_2_method_9_code (2 : Nat) (Option.some Jvm.ClassFile.FieldType.int)) ∈ bn_all := bn_t2 (i := 43) rfl rfl
theorem k_284 : (Jvm.Cond.methodLink "BridgeNet$Bridge" (108 : Nat) ({ cls := "BridgeNet$Bridge", name := "ownVector", desc := "(LBridgeNet$Port;)J" } : Jvm.MethodName)) ∈ bn_all := bn_t2 (i := 44) rfl rfl
theorem k_286 : (Jvm.Cond.instanceMethod ({ cls := "BridgeNet$Bridge", name := "ownVector", desc := "(LBridgeNet$Port;)J" } : Jvm.MethodName)) ∈ bn_all := bn_t2 (i := 46) rfl rfl
theorem k_287 : (Jvm.Cond.code ({ cls := "BridgeNet$Bridge", name := "ownVector", desc := "(LBridgeNet$Port;)J" } : Jvm.MethodName) prog_2_method_10_code (2 : Nat) (Option.some Jvm.ClassFile.FieldType.long)) ∈ bn_all := bn_t2 (i := 47) rfl rfl
theorem k_288 : (Jvm.Cond.methodLink "BridgeNet$Bridge" (100 : Nat) ({ cls := "BridgeNet$Port", name := "become", desc := "(I)V" } : Jvm.MethodName)) ∈ bn_all := bn_t2 (i := 48) rfl rfl
theorem k_289 : (Jvm.Cond.instanceMethod ({ cls := "BridgeNet$Port", name := "become", desc := "(I)V" } : Jvm.MethodName)) ∈ bn_all := bn_t2 (i := 49) rfl rfl
theorem k_290 : (Jvm.Cond.selects "BridgeNet$Port" ({ cls := "BridgeNet$Port", name := "become", desc := "(I)V" } : Jvm.MethodName) ({ cls := "BridgeNet$Port", name := "become", desc := "(I)V" } : Jvm.MethodName)) ∈ bn_all := bn_t2 (i := 50) rfl rfl
theorem k_291 : (Jvm.Cond.code ({ cls := "BridgeNet$Port", name := "become", desc := "(I)V" } : Jvm.MethodName) prog_6_method_7_code (2 : Nat) (Option.none : Option Jvm.ClassFile.FieldType)) ∈ bn_all := bn_t2 (i := 51) rfl rfl
theorem k_292 : (Jvm.Cond.methodLink "BridgeNet$Port" (81 : Nat) ({ cls := "BridgeNet$Port", name := "propose", desc := "()V" } : Jvm.MethodName)) ∈ bn_all := bn_t2 (i := 52) rfl rfl
theorem k_294 : (Jvm.Cond.instanceMethod ({ cls := "BridgeNet$Port", name := "propose", desc := "()V" } : Jvm.MethodName)) ∈ bn_all := bn_t2 (i := 54) rfl rfl
theorem k_295 : (Jvm.Cond.code ({ cls := "BridgeNet$Port", name := "propose", desc := "()V" } : Jvm.MethodName) prog_6_method_8_code (1 : Nat) (Option.none : Option Jvm.ClassFile.FieldType)) ∈ bn_all := bn_t2 (i := 55) rfl rfl
theorem k_296 : (Jvm.Cond.methodLink "BridgeNet$Bridge" (57 : Nat) ({ cls := "BridgeNet$Bridge", name := "tellOnAll", desc := "()V" } : Jvm.MethodName)) ∈ bn_all := bn_t2 (i := 56) rfl rfl
theorem k_297 : (Jvm.Cond.instanceMethod ({ cls := "BridgeNet$Bridge", name := "tellOnAll", desc := "()V" } : Jvm.MethodName)) ∈ bn_all := bn_t2 (i := 57) rfl rfl
theorem k_298 : (Jvm.Cond.selects "BridgeNet$Bridge" ({ cls := "BridgeNet$Bridge", name := "tellOnAll", desc := "()V" } : Jvm.MethodName) ({ cls := "BridgeNet$Bridge", name := "tellOnAll", desc := "()V" } : Jvm.MethodName)) ∈ bn_all := bn_t2 (i := 58) rfl rfl
theorem k_299 : (Jvm.Cond.code ({ cls := "BridgeNet$Bridge", name := "tellOnAll", desc := "()V" } : Jvm.MethodName) prog_2_method_11_code (5 : Nat) (Option.none : Option Jvm.ClassFile.FieldType)) ∈ bn_all := bn_t2 (i := 59) rfl rfl
theorem k_300 : (Jvm.Cond.methodLink "BridgeNet$Bridge" (113 : Nat) ({ cls := "BridgeNet$Port", name := "isLinkedDesignated", desc := "()Z" } : Jvm.MethodName)) ∈ bn_all := bn_t2 (i := 60) rfl rfl
theorem k_301 : (Jvm.Cond.instanceMethod ({ cls := "BridgeNet$Port", name := "isLinkedDesignated", desc := "()Z" } : Jvm.MethodName)) ∈ bn_all := bn_t2 (i := 61) rfl rfl
theorem k_302 : (Jvm.Cond.selects "BridgeNet$Port" ({ cls := "BridgeNet$Port", name := "isLinkedDesignated", desc := "()Z" } : Jvm.MethodName) ({ cls := "BridgeNet$Port", name := "isLinkedDesignated", desc := "()Z" } : Jvm.MethodName)) ∈ bn_all := bn_t2 (i := 62) rfl rfl
theorem k_303 : (Jvm.Cond.code ({ cls := "BridgeNet$Port", name := "isLinkedDesignated", desc := "()Z" } : Jvm.MethodName) prog_6_method_3_code (1 : Nat) (Option.some Jvm.ClassFile.FieldType.boolean)) ∈ bn_all := bn_t2 (i := 63) rfl rfl
theorem k_304 : (Jvm.Cond.methodLink "BridgeNet$Bridge" (116 : Nat) ({ cls := "BridgeNet$Bridge", name := "tellOn", desc := "(LBridgeNet$Port;)V" } : Jvm.MethodName)) ∈ bn_all := bn_t2 (i := 64) rfl rfl
theorem k_306 : (Jvm.Cond.instanceMethod ({ cls := "BridgeNet$Bridge", name := "tellOn", desc := "(LBridgeNet$Port;)V" } : Jvm.MethodName)) ∈ bn_all := bn_t2 (i := 66) rfl rfl
theorem k_307 : (Jvm.Cond.code ({ cls := "BridgeNet$Bridge", name := "tellOn", desc := "(LBridgeNet$Port;)V" } : Jvm.MethodName) prog_2_method_12_code (2 : Nat) (Option.none : Option Jvm.ClassFile.FieldType)) ∈ bn_all := bn_t2 (i := 67) rfl rfl
theorem k_308 : (Jvm.Cond.methodLink "BridgeNet$Bridge" (130 : Nat) ({ cls := "BridgeNet$Line", name := "putTell", desc := "(JIZ)V" } : Jvm.MethodName)) ∈ bn_all := bn_t2 (i := 68) rfl rfl
theorem k_309 : (Jvm.Cond.instanceMethod ({ cls := "BridgeNet$Line", name := "putTell", desc := "(JIZ)V" } : Jvm.MethodName)) ∈ bn_all := bn_t2 (i := 69) rfl rfl
theorem k_310 : (Jvm.Cond.selects "BridgeNet$Line" ({ cls := "BridgeNet$Line", name := "putTell", desc := "(JIZ)V" } : Jvm.MethodName) ({ cls := "BridgeNet$Line", name := "putTell", desc := "(JIZ)V" } : Jvm.MethodName)) ∈ bn_all := bn_t2 (i := 70) rfl rfl
theorem k_311 : (Jvm.Cond.code ({ cls := "BridgeNet$Line", name := "putTell", desc := "(JIZ)V" } : Jvm.MethodName) prog_4_method_5_code (6 : Nat) (Option.none : Option Jvm.ClassFile.FieldType)) ∈ bn_all := bn_t2 (i := 71) rfl rfl
theorem k_312 : (Jvm.Cond.methodLink "BridgeNet$Line" (25 : Nat) ({ cls := "BridgeNet$Vector", name := "rootOf", desc := "(J)I" } : Jvm.MethodName)) ∈ bn_all := bn_t2 (i := 72) rfl rfl
theorem k_313 : (Jvm.Cond.methodLink "BridgeNet$Line" (31 : Nat) ({ cls := "BridgeNet$Line", name := "put", desc := "(IILBridgeNet$Frame;)LBridgeNet$Message;" } : Jvm.MethodName)) ∈ bn_all := bn_t2 (i := 73) rfl rfl
theorem k_315 : (Jvm.Cond.instanceMethod ({ cls := "BridgeNet$Line", name := "put", desc := "(IILBridgeNet$Frame;)LBridgeNet$Message;" } : Jvm.MethodName)) ∈ bn_all := bn_t2 (i := 75) rfl rfl
theorem k_316 : (Jvm.Cond.code ({ cls := "BridgeNet$Line", name := "put", desc := "(IILBridgeNet$Frame;)LBridgeNet$Message;" } : Jvm.MethodName) prog_4_method_8_code (5 : Nat) (Option.some (Jvm.ClassFile.FieldType.object "BridgeNet$Message"))) ∈ bn_all := bn_t2 (i := 76) rfl rfl
theorem k_317 : (Jvm.Cond.methodLink "BridgeNetLaw" (36 : Nat) ({ cls := "BridgeNet", name := "set", desc := "(IIII)Z" } : Jvm.MethodName)) ∈ bn_all := bn_t2 (i := 77) rfl rfl
theorem k_318 : (Jvm.Cond.instanceMethod ({ cls := "BridgeNet", name := "set", desc := "(IIII)Z" } : Jvm.MethodName)) ∈ bn_all := bn_t2 (i := 78) rfl rfl
theorem k_319 : (Jvm.Cond.selects "BridgeNet" ({ cls := "BridgeNet", name := "set", desc := "(IIII)Z" } : Jvm.MethodName) ({ cls := "BridgeNet", name := "set", desc := "(IIII)Z" } : Jvm.MethodName)) ∈ bn_all := bn_t2 (i := 79) rfl rfl
theorem k_320 : (Jvm.Cond.code ({ cls := "BridgeNet", name := "set", desc := "(IIII)Z" } : Jvm.MethodName) prog_1_method_3_code (6 : Nat) (Option.some Jvm.ClassFile.FieldType.boolean)) ∈ bn_all := bn_t2 (i := 80) rfl rfl
theorem k_321 : (Jvm.Cond.methodLink "BridgeNet" (46 : Nat) ({ cls := "BridgeNet", name := "findPort", desc := "(II)LBridgeNet$Port;" } : Jvm.MethodName)) ∈ bn_all := bn_t2 (i := 81) rfl rfl
theorem k_323 : (Jvm.Cond.instanceMethod ({ cls := "BridgeNet", name := "findPort", desc := "(II)LBridgeNet$Port;" } : Jvm.MethodName)) ∈ bn_all := bn_t2 (i := 83) rfl rfl
theorem k_324 : (Jvm.Cond.code ({ cls := "BridgeNet", name := "findPort", desc := "(II)LBridgeNet$Port;" } : Jvm.MethodName) prog_1_method_20_code (3 : Nat) (Option.some (Jvm.ClassFile.FieldType.object "BridgeNet$Port"))) ∈ bn_all := bn_t2 (i := 84) rfl rfl
theorem k_325 : (Jvm.Cond.methodLink "BridgeNetLaw" (41 : Nat) ({ cls := "BridgeNet", name := "link", desc := "(IIII)Z" } : Jvm.MethodName)) ∈ bn_all := bn_t2 (i := 85) rfl rfl
theorem k_326 : (Jvm.Cond.instanceMethod ({ cls := "BridgeNet", name := "link", desc := "(IIII)Z" } : Jvm.MethodName)) ∈ bn_all := bn_t2 (i := 86) rfl rfl
theorem k_327 : (Jvm.Cond.selects "BridgeNet" ({ cls := "BridgeNet", name := "link", desc := "(IIII)Z" } : Jvm.MethodName) ({ cls := "BridgeNet", name := "link", desc := "(IIII)Z" } : Jvm.MethodName)) ∈ bn_all := bn_t2 (i := 87) rfl rfl
theorem k_328 : (Jvm.Cond.code ({ cls := "BridgeNet", name := "link", desc := "(IIII)Z" } : Jvm.MethodName) prog_1_method_4_code (7 : Nat) (Option.some Jvm.ClassFile.FieldType.boolean)) ∈ bn_all := bn_t2 (i := 88) rfl rfl
theorem k_329 : (Jvm.Cond.methodLink "BridgeNet" (63 : Nat) ({ cls := "BridgeNet$Port", name := "isFree", desc := "()Z" } : Jvm.MethodName)) ∈ bn_all := bn_t2 (i := 89) rfl rfl
theorem k_330 : (Jvm.Cond.methodLink "BridgeNet" (66 : Nat) ({ cls := "BridgeNet$Port", name := "join", desc := "(LBridgeNet$Port;LBridgeNet$Station;)V" } : Jvm.MethodName)) ∈ bn_all := bn_t2 (i := 90) rfl rfl
theorem k_331 : (Jvm.Cond.instanceMethod ({ cls := "BridgeNet$Port", name := "join", desc := "(LBridgeNet$Port;LBridgeNet$Station;)V" } : Jvm.MethodName)) ∈ bn_all := bn_t2 (i := 91) rfl rfl
theorem k_332 : (Jvm.Cond.selects "BridgeNet$Port" ({ cls := "BridgeNet$Port", name := "join", desc := "(LBridgeNet$Port;LBridgeNet$Station;)V" } : Jvm.MethodName) ({ cls := "BridgeNet$Port", name := "join", desc := "(LBridgeNet$Port;LBridgeNet$Station;)V" } : Jvm.MethodName)) ∈ bn_all := bn_t2 (i := 92) rfl rfl
theorem k_333 : (Jvm.Cond.code ({ cls := "BridgeNet$Port", name := "join", desc := "(LBridgeNet$Port;LBridgeNet$Station;)V" } : Jvm.MethodName) prog_6_method_6_code (3 : Nat) (Option.none : Option Jvm.ClassFile.FieldType)) ∈ bn_all := bn_t2 (i := 93) rfl rfl
theorem k_334 : (Jvm.Cond.methodLink "BridgeNet$Port" (69 : Nat) ({ cls := "BridgeNet$Line", name := "empty", desc := "()V" } : Jvm.MethodName)) ∈ bn_all := bn_t2 (i := 94) rfl rfl
theorem k_335 : (Jvm.Cond.instanceMethod ({ cls := "BridgeNet$Line", name := "empty", desc := "()V" } : Jvm.MethodName)) ∈ bn_all := bn_t2 (i := 95) rfl rfl
theorem k_336 : (Jvm.Cond.selects "BridgeNet$Line" ({ cls := "BridgeNet$Line", name := "empty", desc := "()V" } : Jvm.MethodName) ({ cls := "BridgeNet$Line", name := "empty", desc := "()V" } : Jvm.MethodName)) ∈ bn_all := bn_t2 (i := 96) rfl rfl
theorem k_337 : (Jvm.Cond.code ({ cls := "BridgeNet$Line", name := "empty", desc := "()V" } : Jvm.MethodName) prog_4_method_2_code (1 : Nat) (Option.none : Option Jvm.ClassFile.FieldType)) ∈ bn_all := bn_t2 (i := 97) rfl rfl
theorem k_338 : (Jvm.Cond.methodLink "BridgeNet$Port" (72 : Nat) ({ cls := "BridgeNet$Bridge", name := "forgetBehind", desc := "(I)V" } : Jvm.MethodName)) ∈ bn_all := bn_t2 (i := 98) rfl rfl
theorem k_339 : (Jvm.Cond.instanceMethod ({ cls := "BridgeNet$Bridge", name := "forgetBehind", desc := "(I)V" } : Jvm.MethodName)) ∈ bn_all := bn_t2 (i := 99) rfl rfl
theorem k_340 : (Jvm.Cond.selects "BridgeNet$Bridge" ({ cls := "BridgeNet$Bridge", name := "forgetBehind", desc := "(I)V" } : Jvm.MethodName) ({ cls := "BridgeNet$Bridge", name := "forgetBehind", desc := "(I)V" } : Jvm.MethodName)) ∈ bn_all := bn_t2 (i := 100) rfl rfl
theorem k_341 : (Jvm.Cond.code ({ cls := "BridgeNet$Bridge", name := "forgetBehind", desc := "(I)V" } : Jvm.MethodName) prog_2_method_23_code (3 : Nat) (Option.none : Option Jvm.ClassFile.FieldType)) ∈ bn_all := bn_t2 (i := 101) rfl rfl
theorem k_342 : (Jvm.Cond.methodLink "BridgeNet$Port" (78 : Nat) ({ cls := "BridgeNet$Port", name := "become", desc := "(I)V" } : Jvm.MethodName)) ∈ bn_all := bn_t2 (i := 102) rfl rfl
theorem k_343 : (Jvm.Cond.methodLink "BridgeNetLaw" (45 : Nat) ({ cls := "BridgeNet", name := "cut", desc := "(II)Z" } : Jvm.MethodName)) ∈ bn_all := bn_t2 (i := 103) rfl rfl
theorem k_344 : (Jvm.Cond.instanceMethod ({ cls := "BridgeNet", name := "cut", desc := "(II)Z" } : Jvm.MethodName)) ∈ bn_all := bn_t2 (i := 104) rfl rfl
theorem k_345 : (Jvm.Cond.selects "BridgeNet" ({ cls := "BridgeNet", name := "cut", desc := "(II)Z" } : Jvm.MethodName) ({ cls := "BridgeNet", name := "cut", desc := "(II)Z" } : Jvm.MethodName)) ∈ bn_all := bn_t2 (i := 105) rfl rfl
theorem k_346 : (Jvm.Cond.code ({ cls := "BridgeNet", name := "cut", desc := "(II)Z" } : Jvm.MethodName) prog_1_method_5_code (5 : Nat) (Option.some Jvm.ClassFile.FieldType.boolean)) ∈ bn_all := bn_t2 (i := 106) rfl rfl
theorem k_347 : (Jvm.Cond.methodLink "BridgeNetLaw" (67 : Nat) ({ cls := "BridgeNet", name := "lose", desc := "(II)Z" } : Jvm.MethodName)) ∈ bn_all := bn_t2 (i := 107) rfl rfl
theorem k_348 : (Jvm.Cond.instanceMethod ({ cls := "BridgeNet", name := "lose", desc := "(II)Z" } : Jvm.MethodName)) ∈ bn_all := bn_t2 (i := 108) rfl rfl
theorem k_349 : (Jvm.Cond.selects "BridgeNet" ({ cls := "BridgeNet", name := "lose", desc := "(II)Z" } : Jvm.MethodName) ({ cls := "BridgeNet", name := "lose", desc := "(II)Z" } : Jvm.MethodName)) ∈ bn_all := bn_t2 (i := 109) rfl rfl
theorem k_350 : (Jvm.Cond.code ({ cls := "BridgeNet", name := "lose", desc := "(II)Z" } : Jvm.MethodName) prog_1_method_9_code (4 : Nat) (Option.some Jvm.ClassFile.FieldType.boolean)) ∈ bn_all := bn_t2 (i := 110) rfl rfl
theorem k_351 : (Jvm.Cond.methodLink "BridgeNet" (132 : Nat) ({ cls := "BridgeNet$Line", name := "takeFirst", desc := "()LBridgeNet$Message;" } : Jvm.MethodName)) ∈ bn_all := bn_t2 (i := 111) rfl rfl
theorem k_352 : (Jvm.Cond.instanceMethod ({ cls := "BridgeNet$Line", name := "takeFirst", desc := "()LBridgeNet$Message;" } : Jvm.MethodName)) ∈ bn_all := bn_t2 (i := 112) rfl rfl
theorem k_353 : (Jvm.Cond.selects "BridgeNet$Line" ({ cls := "BridgeNet$Line", name := "takeFirst", desc := "()LBridgeNet$Message;" } : Jvm.MethodName) ({ cls := "BridgeNet$Line", name := "takeFirst", desc := "()LBridgeNet$Message;" } : Jvm.MethodName)) ∈ bn_all := bn_t2 (i := 113) rfl rfl
theorem k_354 : (Jvm.Cond.code ({ cls := "BridgeNet$Line", name := "takeFirst", desc := "()LBridgeNet$Message;" } : Jvm.MethodName) prog_4_method_4_code (2 : Nat) (Option.some (Jvm.ClassFile.FieldType.object "BridgeNet$Message"))) ∈ bn_all := bn_t2 (i := 114) rfl rfl
theorem k_355 : (Jvm.Cond.methodLink "BridgeNetLaw" (71 : Nat) ({ cls := "BridgeNet", name := "tick", desc := "()V" } : Jvm.MethodName)) ∈ bn_all := bn_t2 (i := 115) rfl rfl
theorem k_356 : (Jvm.Cond.instanceMethod ({ cls := "BridgeNet", name := "tick", desc := "()V" } : Jvm.MethodName)) ∈ bn_all := bn_t2 (i := 116) rfl rfl
theorem k_357 : (Jvm.Cond.selects "BridgeNet" ({ cls := "BridgeNet", name := "tick", desc := "()V" } : Jvm.MethodName) ({ cls := "BridgeNet", name := "tick", desc := "()V" } : Jvm.MethodName)) ∈ bn_all := bn_t2 (i := 117) rfl rfl
theorem k_358 : (Jvm.Cond.code ({ cls := "BridgeNet", name := "tick", desc := "()V" } : Jvm.MethodName) prog_1_method_10_code (2 : Nat) (Option.none : Option Jvm.ClassFile.FieldType)) ∈ bn_all := bn_t2 (i := 118) rfl rfl
theorem k_359 : (Jvm.Cond.methodLink "BridgeNet" (157 : Nat) ({ cls := "BridgeNet$Bridge", name := "age", desc := "()V" } : Jvm.MethodName)) ∈ bn_all := bn_t2 (i := 119) rfl rfl
theorem k_360 : (Jvm.Cond.instanceMethod ({ cls := "BridgeNet$Bridge", name := "age", desc := "()V" } : Jvm.MethodName)) ∈ bn_all := bn_t2 (i := 120) rfl rfl
theorem k_361 : (Jvm.Cond.selects "BridgeNet$Bridge" ({ cls := "BridgeNet$Bridge", name := "age", desc := "()V" } : Jvm.MethodName) ({ cls := "BridgeNet$Bridge", name := "age", desc := "()V" } : Jvm.MethodName)) ∈ bn_all := bn_t2 (i := 121) rfl rfl
theorem k_362 : (Jvm.Cond.code ({ cls := "BridgeNet$Bridge", name := "age", desc := "()V" } : Jvm.MethodName) prog_2_method_24_code (5 : Nat) (Option.none : Option Jvm.ClassFile.FieldType)) ∈ bn_all := bn_t2 (i := 122) rfl rfl
theorem k_363 : (Jvm.Cond.methodLink "BridgeNet$Bridge" (206 : Nat) ({ cls := "BridgeNet$Port", name := "ageInfo", desc := "()V" } : Jvm.MethodName)) ∈ bn_all := bn_t2 (i := 123) rfl rfl
theorem k_364 : (Jvm.Cond.instanceMethod ({ cls := "BridgeNet$Port", name := "ageInfo", desc := "()V" } : Jvm.MethodName)) ∈ bn_all := bn_t2 (i := 124) rfl rfl
theorem k_365 : (Jvm.Cond.selects "BridgeNet$Port" ({ cls := "BridgeNet$Port", name := "ageInfo", desc := "()V" } : Jvm.MethodName) ({ cls := "BridgeNet$Port", name := "ageInfo", desc := "()V" } : Jvm.MethodName)) ∈ bn_all := bn_t2 (i := 125) rfl rfl
theorem k_366 : (Jvm.Cond.code ({ cls := "BridgeNet$Port", name := "ageInfo", desc := "()V" } : Jvm.MethodName) prog_6_method_13_code (1 : Nat) (Option.none : Option Jvm.ClassFile.FieldType)) ∈ bn_all := bn_t2 (i := 126) rfl rfl
theorem k_367 : (Jvm.Cond.methodLink "BridgeNet$Bridge" (209 : Nat) ({ cls := "java/lang/Math", name := "max", desc := "(II)I" } : Jvm.MethodName)) ∈ bn_all := bn_t2 (i := 127) rfl rfl
theorem k_368 : (Jvm.Cond.static ({ cls := "java/lang/Math", name := "max", desc := "(II)I" } : Jvm.MethodName)) ∈ bn_all := bn_t2 (i := 128) rfl rfl
theorem k_369 : (Jvm.Cond.code ({ cls := "java/lang/Math", name := "max", desc := "(II)I" } : Jvm.MethodName) prog_15_method_65_code (2 : Nat) (Option.some Jvm.ClassFile.FieldType.int)) ∈ bn_all := bn_t2 (i := 129) rfl rfl
theorem k_370 : (Jvm.Cond.methodLink "BridgeNet$Bridge" (214 : Nat) ({ cls := "BridgeNet$Port", name := "ageWait", desc := "()V" } : Jvm.MethodName)) ∈ bn_all := bn_t2 (i := 130) rfl rfl
theorem k_371 : (Jvm.Cond.instanceMethod ({ cls := "BridgeNet$Port", name := "ageWait", desc := "()V" } : Jvm.MethodName)) ∈ bn_all := bn_t2 (i := 131) rfl rfl
theorem k_372 : (Jvm.Cond.selects "BridgeNet$Port" ({ cls := "BridgeNet$Port", name := "ageWait", desc := "()V" } : Jvm.MethodName) ({ cls := "BridgeNet$Port", name := "ageWait", desc := "()V" } : Jvm.MethodName)) ∈ bn_all := bn_t2 (i := 132) rfl rfl
theorem k_373 : (Jvm.Cond.code ({ cls := "BridgeNet$Port", name := "ageWait", desc := "()V" } : Jvm.MethodName) prog_6_method_14_code (1 : Nat) (Option.none : Option Jvm.ClassFile.FieldType)) ∈ bn_all := bn_t2 (i := 133) rfl rfl
theorem k_374 : (Jvm.Cond.methodLink "BridgeNet$Port" (87 : Nat) ({ cls := "BridgeNet$Port", name := "isLinkedDesignated", desc := "()Z" } : Jvm.MethodName)) ∈ bn_all := bn_t2 (i := 134) rfl rfl
theorem k_375 : (Jvm.Cond.methodLink "BridgeNet$Port" (84 : Nat) ({ cls := "BridgeNet$Port", name := "forward", desc := "()V" } : Jvm.MethodName)) ∈ bn_all := bn_t2 (i := 135) rfl rfl
theorem k_377 : (Jvm.Cond.instanceMethod ({ cls := "BridgeNet$Port", name := "forward", desc := "()V" } : Jvm.MethodName)) ∈ bn_all := bn_t2 (i := 137) rfl rfl
theorem k_378 : (Jvm.Cond.code ({ cls := "BridgeNet$Port", name := "forward", desc := "()V" } : Jvm.MethodName) prog_6_method_9_code (1 : Nat) (Option.none : Option Jvm.ClassFile.FieldType)) ∈ bn_all := bn_t2 (i := 138) rfl rfl
theorem k_379 : (Jvm.Cond.methodLink "BridgeNet$Bridge" (146 : Nat) ({ cls := "BridgeNet$Bridge", name := "compute", desc := "()V" } : Jvm.MethodName)) ∈ bn_all := bn_t2 (i := 139) rfl rfl
theorem k_380 : (Jvm.Cond.methodLink "BridgeNet" (160 : Nat) ({ cls := "BridgeNet$Bridge", name := "tellOnAll", desc := "()V" } : Jvm.MethodName)) ∈ bn_all := bn_t2 (i := 140) rfl rfl
theorem k_381 : (Jvm.Cond.methodLink "BridgeNetLaw" (75 : Nat) ({ cls := "BridgeNet", name := "port", desc := "(II)I" } : Jvm.MethodName)) ∈ bn_all := bn_t2 (i := 141) rfl rfl
theorem k_382 : (Jvm.Cond.instanceMethod ({ cls := "BridgeNet", name := "port", desc := "(II)I" } : Jvm.MethodName)) ∈ bn_all := bn_t2 (i := 142) rfl rfl
theorem k_383 : (Jvm.Cond.selects "BridgeNet" ({ cls := "BridgeNet", name := "port", desc := "(II)I" } : Jvm.MethodName) ({ cls := "BridgeNet", name := "port", desc := "(II)I" } : Jvm.MethodName)) ∈ bn_all := bn_t2 (i := 143) rfl rfl
theorem k_384 : (Jvm.Cond.code ({ cls := "BridgeNet", name := "port", desc := "(II)I" } : Jvm.MethodName) prog_1_method_11_code (4 : Nat) (Option.some Jvm.ClassFile.FieldType.int)) ∈ bn_all := bn_t2 (i := 144) rfl rfl
theorem k_385 : (Jvm.Cond.methodLink "BridgeNet" (163 : Nat) ({ cls := "BridgeNet$Port", name := "summary", desc := "()I" } : Jvm.MethodName)) ∈ bn_all := bn_t2 (i := 145) rfl rfl
theorem k_386 : (Jvm.Cond.instanceMethod ({ cls := "BridgeNet$Port", name := "summary", desc := "()I" } : Jvm.MethodName)) ∈ bn_all := bn_t2 (i := 146) rfl rfl
theorem k_387 : (Jvm.Cond.selects "BridgeNet$Port" ({ cls := "BridgeNet$Port", name := "summary", desc := "()I" } : Jvm.MethodName) ({ cls := "BridgeNet$Port", name := "summary", desc := "()I" } : Jvm.MethodName)) ∈ bn_all := bn_t2 (i := 147) rfl rfl
theorem k_388 : (Jvm.Cond.code ({ cls := "BridgeNet$Port", name := "summary", desc := "()I" } : Jvm.MethodName) prog_6_method_16_code (1 : Nat) (Option.some Jvm.ClassFile.FieldType.int)) ∈ bn_all := bn_t2 (i := 148) rfl rfl
theorem k_389 : (Jvm.Cond.methodLink "BridgeNetLaw" (79 : Nat) ({ cls := "BridgeNet", name := "root", desc := "(I)J" } : Jvm.MethodName)) ∈ bn_all := bn_t2 (i := 149) rfl rfl
theorem k_390 : (Jvm.Cond.instanceMethod ({ cls := "BridgeNet", name := "root", desc := "(I)J" } : Jvm.MethodName)) ∈ bn_all := bn_t2 (i := 150) rfl rfl
theorem k_391 : (Jvm.Cond.selects "BridgeNet" ({ cls := "BridgeNet", name := "root", desc := "(I)J" } : Jvm.MethodName) ({ cls := "BridgeNet", name := "root", desc := "(I)J" } : Jvm.MethodName)) ∈ bn_all := bn_t2 (i := 151) rfl rfl
theorem k_392 : (Jvm.Cond.code ({ cls := "BridgeNet", name := "root", desc := "(I)J" } : Jvm.MethodName) prog_1_method_12_code (2 : Nat) (Option.some Jvm.ClassFile.FieldType.long)) ∈ bn_all := bn_t2 (i := 152) rfl rfl
theorem k_393 : (Jvm.Cond.methodLink "BridgeNet" (167 : Nat) ({ cls := "BridgeNet$Bridge", name := "summary", desc := "()J" } : Jvm.MethodName)) ∈ bn_all := bn_t2 (i := 153) rfl rfl
theorem k_394 : (Jvm.Cond.instanceMethod ({ cls := "BridgeNet$Bridge", name := "summary", desc := "()J" } : Jvm.MethodName)) ∈ bn_all := bn_t2 (i := 154) rfl rfl
theorem k_395 : (Jvm.Cond.selects "BridgeNet$Bridge" ({ cls := "BridgeNet$Bridge", name := "summary", desc := "()J" } : Jvm.MethodName) ({ cls := "BridgeNet$Bridge", name := "summary", desc := "()J" } : Jvm.MethodName)) ∈ bn_all := bn_t2 (i := 155) rfl rfl
theorem k_396 : (Jvm.Cond.code ({ cls := "BridgeNet$Bridge", name := "summary", desc := "()J" } : Jvm.MethodName) prog_2_method_5_code (1 : Nat) (Option.some Jvm.ClassFile.FieldType.long)) ∈ bn_all := bn_t2 (i := 156) rfl rfl
theorem k_397 : (Jvm.Cond.constantLong "BridgeNet" (170 : Nat) (-1 : Int64)) ∈ bn_all := bn_t2 (i := 157) rfl rfl
theorem k_398 : (Jvm.Cond.methodLink "BridgeNetLaw" (84 : Nat) ({ cls := "BridgeNet", name := "info", desc := "(II)J" } : Jvm.MethodName)) ∈ bn_all := bn_t2 (i := 158) rfl rfl
theorem k_399 : (Jvm.Cond.instanceMethod ({ cls := "BridgeNet", name := "info", desc := "(II)J" } : Jvm.MethodName)) ∈ bn_all := bn_t2 (i := 159) rfl rfl
theorem k_400 : (Jvm.Cond.selects "BridgeNet" ({ cls := "BridgeNet", name := "info", desc := "(II)J" } : Jvm.MethodName) ({ cls := "BridgeNet", name := "info", desc := "(II)J" } : Jvm.MethodName)) ∈ bn_all := bn_t2 (i := 160) rfl rfl
theorem k_401 : (Jvm.Cond.code ({ cls := "BridgeNet", name := "info", desc := "(II)J" } : Jvm.MethodName) prog_1_method_13_code (4 : Nat) (Option.some Jvm.ClassFile.FieldType.long)) ∈ bn_all := bn_t2 (i := 161) rfl rfl
theorem k_402 : (Jvm.Cond.methodLink "BridgeNet" (175 : Nat) ({ cls := "BridgeNet$Port", name := "infoSummary", desc := "()J" } : Jvm.MethodName)) ∈ bn_all := bn_t2 (i := 162) rfl rfl
theorem k_403 : (Jvm.Cond.instanceMethod ({ cls := "BridgeNet$Port", name := "infoSummary", desc := "()J" } : Jvm.MethodName)) ∈ bn_all := bn_t2 (i := 163) rfl rfl
theorem k_404 : (Jvm.Cond.selects "BridgeNet$Port" ({ cls := "BridgeNet$Port", name := "infoSummary", desc := "()J" } : Jvm.MethodName) ({ cls := "BridgeNet$Port", name := "infoSummary", desc := "()J" } : Jvm.MethodName)) ∈ bn_all := bn_t2 (i := 164) rfl rfl
theorem k_405 : (Jvm.Cond.code ({ cls := "BridgeNet$Port", name := "infoSummary", desc := "()J" } : Jvm.MethodName) prog_6_method_17_code (1 : Nat) (Option.some Jvm.ClassFile.FieldType.long)) ∈ bn_all := bn_t2 (i := 165) rfl rfl
theorem k_406 : (Jvm.Cond.methodLink "BridgeNet$Port" (110 : Nat) ({ cls := "BridgeNet$Vector", name := "rootOf", desc := "(J)I" } : Jvm.MethodName)) ∈ bn_all := bn_t2 (i := 166) rfl rfl
theorem k_407 : (Jvm.Cond.methodLink "BridgeNet$Port" (116 : Nat) ({ cls := "BridgeNet$Vector", name := "costOf", desc := "(J)I" } : Jvm.MethodName)) ∈ bn_all := bn_t2 (i := 167) rfl rfl
theorem k_408 : (Jvm.Cond.methodLink "BridgeNet$Port" (119 : Nat) ({ cls := "BridgeNet$Vector", name := "bridgeOf", desc := "(J)I" } : Jvm.MethodName)) ∈ bn_all := bn_t2 (i := 168) rfl rfl
theorem k_409 : (Jvm.Cond.methodLink "BridgeNet$Port" (122 : Nat) ({ cls := "BridgeNet$Vector", name := "portOf", desc := "(J)I" } : Jvm.MethodName)) ∈ bn_all := bn_t2 (i := 169) rfl rfl
theorem k_410 : (Jvm.Cond.static ({ cls := "BridgeNet$Vector", name := "portOf", desc := "(J)I" } : Jvm.MethodName)) ∈ bn_all := bn_t2 (i := 170) rfl rfl
theorem k_411 : (Jvm.Cond.code ({ cls := "BridgeNet$Vector", name := "portOf", desc := "(J)I" } : Jvm.MethodName) prog_8_method_7_code (2 : Nat) (Option.some Jvm.ClassFile.FieldType.int)) ∈ bn_all := bn_t2 (i := 171) rfl rfl
theorem k_412 : (Jvm.Cond.methodLink "BridgeNetLaw" (89 : Nat) ({ cls := "BridgeNet", name := "learned", desc := "(III)I" } : Jvm.MethodName)) ∈ bn_all := bn_t2 (i := 172) rfl rfl
theorem k_413 : (Jvm.Cond.instanceMethod ({ cls := "BridgeNet", name := "learned", desc := "(III)I" } : Jvm.MethodName)) ∈ bn_all := bn_t2 (i := 173) rfl rfl
theorem k_414 : (Jvm.Cond.selects "BridgeNet" ({ cls := "BridgeNet", name := "learned", desc := "(III)I" } : Jvm.MethodName) ({ cls := "BridgeNet", name := "learned", desc := "(III)I" } : Jvm.MethodName)) ∈ bn_all := bn_t2 (i := 174) rfl rfl
theorem k_415 : (Jvm.Cond.code ({ cls := "BridgeNet", name := "learned", desc := "(III)I" } : Jvm.MethodName) prog_1_method_14_code (4 : Nat) (Option.some Jvm.ClassFile.FieldType.int)) ∈ bn_all := bn_t2 (i := 175) rfl rfl
theorem k_416 : (Jvm.Cond.methodLink "BridgeNet" (74 : Nat) ({ cls := "BridgeNet", name := "findStation", desc := "(I)LBridgeNet$Station;" } : Jvm.MethodName)) ∈ bn_all := bn_t2 (i := 176) rfl rfl
theorem k_418 : (Jvm.Cond.instanceMethod ({ cls := "BridgeNet", name := "findStation", desc := "(I)LBridgeNet$Station;" } : Jvm.MethodName)) ∈ bn_all := bn_t2 (i := 178) rfl rfl
theorem k_419 : (Jvm.Cond.code ({ cls := "BridgeNet", name := "findStation", desc := "(I)LBridgeNet$Station;" } : Jvm.MethodName) prog_1_method_21_code (2 : Nat) (Option.some (Jvm.ClassFile.FieldType.object "BridgeNet$Station"))) ∈ bn_all := bn_t2 (i := 179) rfl rfl
theorem k_420 : (Jvm.Cond.methodLink "BridgeNet" (85 : Nat) ({ cls := "BridgeNet", name := "isVlan", desc := "(I)Z" } : Jvm.MethodName)) ∈ bn_all := bn_t2 (i := 180) rfl rfl
theorem k_421 : (Jvm.Cond.static ({ cls := "BridgeNet", name := "isVlan", desc := "(I)Z" } : Jvm.MethodName)) ∈ bn_all := bn_t2 (i := 181) rfl rfl
theorem k_422 : (Jvm.Cond.code ({ cls := "BridgeNet", name := "isVlan", desc := "(I)Z" } : Jvm.MethodName) prog_1_method_19_code (1 : Nat) (Option.some Jvm.ClassFile.FieldType.boolean)) ∈ bn_all := bn_t2 (i := 182) rfl rfl
theorem k_423 : (Jvm.Cond.methodLink "BridgeNet" (178 : Nat) ({ cls := "BridgeNet$Bridge", name := "placeOf", desc := "(II)I" } : Jvm.MethodName)) ∈ bn_all := bn_t2 (i := 183) rfl rfl
theorem k_424 : (Jvm.Cond.instanceMethod ({ cls := "BridgeNet$Bridge", name := "placeOf", desc := "(II)I" } : Jvm.MethodName)) ∈ bn_all := bn_t2 (i := 184) rfl rfl
theorem k_425 : (Jvm.Cond.selects "BridgeNet$Bridge" ({ cls := "BridgeNet$Bridge", name := "placeOf", desc := "(II)I" } : Jvm.MethodName) ({ cls := "BridgeNet$Bridge", name := "placeOf", desc := "(II)I" } : Jvm.MethodName)) ∈ bn_all := bn_t2 (i := 185) rfl rfl
theorem k_426 : (Jvm.Cond.code ({ cls := "BridgeNet$Bridge", name := "placeOf", desc := "(II)I" } : Jvm.MethodName) prog_2_method_22_code (4 : Nat) (Option.some Jvm.ClassFile.FieldType.int)) ∈ bn_all := bn_t2 (i := 186) rfl rfl
theorem k_427 : (Jvm.Cond.methodLink "BridgeNet$Bridge" (203 : Nat) ({ cls := "BridgeNet$Bridge", name := "placeIndex", desc := "(II)I" } : Jvm.MethodName)) ∈ bn_all := bn_t2 (i := 187) rfl rfl
theorem k_428 : (Jvm.Cond.static ({ cls := "BridgeNet$Bridge", name := "placeIndex", desc := "(II)I" } : Jvm.MethodName)) ∈ bn_all := bn_t2 (i := 188) rfl rfl
theorem k_429 : (Jvm.Cond.code ({ cls := "BridgeNet$Bridge", name := "placeIndex", desc := "(II)I" } : Jvm.MethodName) prog_2_method_20_code (2 : Nat) (Option.some Jvm.ClassFile.FieldType.int)) ∈ bn_all := bn_t2 (i := 189) rfl rfl
theorem k_430 : (Jvm.Cond.methodLink "BridgeNetLaw" (93 : Nat) ({ cls := "BridgeNet", name := "inbox", desc := "(II)J" } : Jvm.MethodName)) ∈ bn_all := bn_t2 (i := 190) rfl rfl
theorem k_431 : (Jvm.Cond.instanceMethod ({ cls := "BridgeNet", name := "inbox", desc := "(II)J" } : Jvm.MethodName)) ∈ bn_all := bn_t2 (i := 191) rfl rfl
theorem k_432 : (Jvm.Cond.selects "BridgeNet" ({ cls := "BridgeNet", name := "inbox", desc := "(II)J" } : Jvm.MethodName) ({ cls := "BridgeNet", name := "inbox", desc := "(II)J" } : Jvm.MethodName)) ∈ bn_all := bn_t2 (i := 192) rfl rfl
theorem k_433 : (Jvm.Cond.code ({ cls := "BridgeNet", name := "inbox", desc := "(II)J" } : Jvm.MethodName) prog_1_method_15_code (4 : Nat) (Option.some Jvm.ClassFile.FieldType.long)) ∈ bn_all := bn_t2 (i := 193) rfl rfl
theorem k_434 : (Jvm.Cond.methodLink "BridgeNet" (185 : Nat) ({ cls := "BridgeNet$Station", name := "kept", desc := "(I)J" } : Jvm.MethodName)) ∈ bn_all := bn_t2 (i := 194) rfl rfl
theorem k_435 : (Jvm.Cond.instanceMethod ({ cls := "BridgeNet$Station", name := "kept", desc := "(I)J" } : Jvm.MethodName)) ∈ bn_all := bn_t2 (i := 195) rfl rfl
theorem k_436 : (Jvm.Cond.selects "BridgeNet$Station" ({ cls := "BridgeNet$Station", name := "kept", desc := "(I)J" } : Jvm.MethodName) ({ cls := "BridgeNet$Station", name := "kept", desc := "(I)J" } : Jvm.MethodName)) ∈ bn_all := bn_t2 (i := 196) rfl rfl
theorem k_437 : (Jvm.Cond.code ({ cls := "BridgeNet$Station", name := "kept", desc := "(I)J" } : Jvm.MethodName) prog_7_method_5_code (2 : Nat) (Option.some Jvm.ClassFile.FieldType.long)) ∈ bn_all := bn_t2 (i := 197) rfl rfl
theorem k_438 : (Jvm.Cond.constantLong "BridgeNet$Station" (47 : Nat) (-1 : Int64)) ∈ bn_all := bn_t2 (i := 198) rfl rfl
theorem k_439 : (Jvm.Cond.methodLink "BridgeNetLaw" (97 : Nat) ({ cls := "BridgeNet", name := "line", desc := "(II)I" } : Jvm.MethodName)) ∈ bn_all := bn_t2 (i := 199) rfl rfl
theorem k_440 : (Jvm.Cond.instanceMethod ({ cls := "BridgeNet", name := "line", desc := "(II)I" } : Jvm.MethodName)) ∈ bn_all := bn_t2 (i := 200) rfl rfl
theorem k_441 : (Jvm.Cond.selects "BridgeNet" ({ cls := "BridgeNet", name := "line", desc := "(II)I" } : Jvm.MethodName) ({ cls := "BridgeNet", name := "line", desc := "(II)I" } : Jvm.MethodName)) ∈ bn_all := bn_t2 (i := 201) rfl rfl
theorem k_442 : (Jvm.Cond.code ({ cls := "BridgeNet", name := "line", desc := "(II)I" } : Jvm.MethodName) prog_1_method_16_code (4 : Nat) (Option.some Jvm.ClassFile.FieldType.int)) ∈ bn_all := bn_t2 (i := 202) rfl rfl
theorem k_443 : (Jvm.Cond.methodLink "BridgeNetLaw" (101 : Nat) ({ cls := "BridgeNet", name := "message", desc := "(III)J" } : Jvm.MethodName)) ∈ bn_all := bn_t2 (i := 203) rfl rfl
theorem k_444 : (Jvm.Cond.instanceMethod ({ cls := "BridgeNet", name := "message", desc := "(III)J" } : Jvm.MethodName)) ∈ bn_all := bn_t2 (i := 204) rfl rfl
theorem k_445 : (Jvm.Cond.selects "BridgeNet" ({ cls := "BridgeNet", name := "message", desc := "(III)J" } : Jvm.MethodName) ({ cls := "BridgeNet", name := "message", desc := "(III)J" } : Jvm.MethodName)) ∈ bn_all := bn_t2 (i := 205) rfl rfl
theorem k_446 : (Jvm.Cond.code ({ cls := "BridgeNet", name := "message", desc := "(III)J" } : Jvm.MethodName) prog_1_method_17_code (6 : Nat) (Option.some Jvm.ClassFile.FieldType.long)) ∈ bn_all := bn_t2 (i := 206) rfl rfl
theorem k_447 : (Jvm.Cond.methodLink "BridgeNet" (190 : Nat) ({ cls := "BridgeNet$Line", name := "at", desc := "(I)LBridgeNet$Message;" } : Jvm.MethodName)) ∈ bn_all := bn_t2 (i := 207) rfl rfl
theorem k_448 : (Jvm.Cond.instanceMethod ({ cls := "BridgeNet$Line", name := "at", desc := "(I)LBridgeNet$Message;" } : Jvm.MethodName)) ∈ bn_all := bn_t2 (i := 208) rfl rfl
theorem k_449 : (Jvm.Cond.selects "BridgeNet$Line" ({ cls := "BridgeNet$Line", name := "at", desc := "(I)LBridgeNet$Message;" } : Jvm.MethodName) ({ cls := "BridgeNet$Line", name := "at", desc := "(I)LBridgeNet$Message;" } : Jvm.MethodName)) ∈ bn_all := bn_t2 (i := 209) rfl rfl
theorem k_450 : (Jvm.Cond.code ({ cls := "BridgeNet$Line", name := "at", desc := "(I)LBridgeNet$Message;" } : Jvm.MethodName) prog_4_method_3_code (2 : Nat) (Option.some (Jvm.ClassFile.FieldType.object "BridgeNet$Message"))) ∈ bn_all := bn_t2 (i := 210) rfl rfl
theorem k_451 : (Jvm.Cond.methodLink "BridgeNet" (194 : Nat) ({ cls := "BridgeNet$Message", name := "summary", desc := "()J" } : Jvm.MethodName)) ∈ bn_all := bn_t2 (i := 211) rfl rfl
theorem k_452 : (Jvm.Cond.instanceMethod ({ cls := "BridgeNet$Message", name := "summary", desc := "()J" } : Jvm.MethodName)) ∈ bn_all := bn_t2 (i := 212) rfl rfl
theorem k_453 : (Jvm.Cond.selects "BridgeNet$Message" ({ cls := "BridgeNet$Message", name := "summary", desc := "()J" } : Jvm.MethodName) ({ cls := "BridgeNet$Message", name := "summary", desc := "()J" } : Jvm.MethodName)) ∈ bn_all := bn_t2 (i := 213) rfl rfl
theorem k_454 : (Jvm.Cond.code ({ cls := "BridgeNet$Message", name := "summary", desc := "()J" } : Jvm.MethodName) prog_5_method_2_code (1 : Nat) (Option.some Jvm.ClassFile.FieldType.long)) ∈ bn_all := bn_t2 (i := 214) rfl rfl
theorem k_455 : (Jvm.Cond.constantLong "BridgeNet$Message" (33 : Nat) (16 : Int64)) ∈ bn_all := bn_t2 (i := 215) rfl rfl
theorem k_456 : (Jvm.Cond.constantLong "BridgeNet$Message" (40 : Nat) (256 : Int64)) ∈ bn_all := bn_t2 (i := 216) rfl rfl
theorem k_457 : (Jvm.Cond.methodLink "BridgeNetLaw" (49 : Nat) ({ cls := "BridgeNetLaw", name := "attach", desc := "(LBridgeNet;IIII)I" } : Jvm.MethodName)) ∈ bn_all := bn_t2 (i := 217) rfl rfl
theorem k_458 : (Jvm.Cond.static ({ cls := "BridgeNetLaw", name := "attach", desc := "(LBridgeNet;IIII)I" } : Jvm.MethodName)) ∈ bn_all := bn_t2 (i := 218) rfl rfl
theorem k_459 : (Jvm.Cond.codeWith ({ cls := "BridgeNetLaw", name := "attach", desc := "(LBridgeNet;IIII)I" } : Jvm.MethodName) method_3_code (6 : Nat) (Option.some Jvm.ClassFile.FieldType.int) [((0 : Nat), (9 : Nat), (12 : Nat), (13 : Nat)), ((0 : Nat), (9 : Nat), (16 : Nat), (15 : Nat)), ((0 : Nat), (9 : Nat), (20 : Nat), (17 : Nat))]) ∈ bn_all := bn_t2 (i := 219) rfl rfl
theorem k_460 : (Jvm.Cond.classLink "BridgeNetLaw" (13 : Nat) "java/lang/IndexOutOfBoundsException") ∈ bn_all := bn_t2 (i := 220) rfl rfl
theorem k_461 : (Jvm.Cond.classLink "BridgeNetLaw" (15 : Nat) "java/lang/IllegalArgumentException") ∈ bn_all := bn_t2 (i := 221) rfl rfl
theorem k_462 : (Jvm.Cond.classLink "BridgeNetLaw" (17 : Nat) "java/lang/IllegalStateException") ∈ bn_all := bn_t2 (i := 222) rfl rfl
theorem k_463 : (Jvm.Cond.methodLink "BridgeNetLaw" (7 : Nat) ({ cls := "BridgeNet", name := "attach", desc := "(IIII)V" } : Jvm.MethodName)) ∈ bn_all := bn_t2 (i := 223) rfl rfl
theorem k_464 : (Jvm.Cond.instanceMethod ({ cls := "BridgeNet", name := "attach", desc := "(IIII)V" } : Jvm.MethodName)) ∈ bn_all := bn_t2 (i := 224) rfl rfl
theorem k_465 : (Jvm.Cond.selects "BridgeNet" ({ cls := "BridgeNet", name := "attach", desc := "(IIII)V" } : Jvm.MethodName) ({ cls := "BridgeNet", name := "attach", desc := "(IIII)V" } : Jvm.MethodName)) ∈ bn_all := bn_t2 (i := 225) rfl rfl
theorem k_466 : (Jvm.Cond.code ({ cls := "BridgeNet", name := "attach", desc := "(IIII)V" } : Jvm.MethodName) prog_1_method_6_code (7 : Nat) (Option.none : Option Jvm.ClassFile.FieldType)) ∈ bn_all := bn_t2 (i := 226) rfl rfl
theorem k_467 : (Jvm.Cond.classLink "BridgeNet" (78 : Nat) "java/lang/IndexOutOfBoundsException") ∈ bn_all := bn_t2 (i := 227) rfl rfl
theorem k_468 : (Jvm.Cond.instantiable "java/lang/IndexOutOfBoundsException" (6 : Nat)) ∈ bn_all := bn_t2 (i := 228) rfl rfl
theorem k_476 : (Jvm.Cond.selects "java/lang/IndexOutOfBoundsException" ({ cls := "java/lang/Throwable", name := "fillInStackTrace", desc := "(I)Ljava/lang/Throwable;" } : Jvm.MethodName) ({ cls := "java/lang/Throwable", name := "fillInStackTrace", desc := "(I)Ljava/lang/Throwable;" } : Jvm.MethodName)) ∈ bn_all := bn_t2 (i := 236) rfl rfl
theorem k_477 : (Jvm.Cond.selects "java/lang/IndexOutOfBoundsException" ({ cls := "java/lang/Throwable", name := "fillInStackTrace", desc := "()Ljava/lang/Throwable;" } : Jvm.MethodName) ({ cls := "java/lang/Throwable", name := "fillInStackTrace", desc := "()Ljava/lang/Throwable;" } : Jvm.MethodName)) ∈ bn_all := bn_t2 (i := 237) rfl rfl
theorem k_478 : (Jvm.Cond.lays "java/lang/IndexOutOfBoundsException" "java/lang/Throwable" "cause" "Ljava/lang/Throwable;") ∈ bn_all := bn_t2 (i := 238) rfl rfl
theorem k_479 : (Jvm.Cond.lays "java/lang/Throwable" "java/lang/Throwable" "cause" "Ljava/lang/Throwable;") ∈ bn_all := bn_t2 (i := 239) rfl rfl
theorem k_480 : (Jvm.Cond.lays "java/lang/IndexOutOfBoundsException" "java/lang/Throwable" "stackTrace" "[Ljava/lang/StackTraceElement;") ∈ bn_all := bn_t3 (i := 0) rfl rfl
theorem k_481 : (Jvm.Cond.lays "java/lang/Throwable" "java/lang/Throwable" "stackTrace" "[Ljava/lang/StackTraceElement;") ∈ bn_all := bn_t3 (i := 1) rfl rfl
theorem k_482 : (Jvm.Cond.lays "java/lang/IndexOutOfBoundsException" "java/lang/Throwable" "suppressedExceptions" "Ljava/util/List;") ∈ bn_all := bn_t3 (i := 2) rfl rfl
theorem k_483 : (Jvm.Cond.lays "java/lang/Throwable" "java/lang/Throwable" "suppressedExceptions" "Ljava/util/List;") ∈ bn_all := bn_t3 (i := 3) rfl rfl
theorem k_484 : (Jvm.Cond.lays "java/lang/IndexOutOfBoundsException" "java/lang/Throwable" "detailMessage" "Ljava/lang/String;") ∈ bn_all := bn_t3 (i := 4) rfl rfl
theorem k_485 : (Jvm.Cond.lays "java/lang/Throwable" "java/lang/Throwable" "detailMessage" "Ljava/lang/String;") ∈ bn_all := bn_t3 (i := 5) rfl rfl
theorem k_486 : (Jvm.Cond.lays "java/lang/IndexOutOfBoundsException" "java/lang/Throwable" "backtrace" "Ljava/lang/Object;") ∈ bn_all := bn_t3 (i := 6) rfl rfl
theorem k_487 : (Jvm.Cond.lays "java/lang/Throwable" "java/lang/Throwable" "backtrace" "Ljava/lang/Object;") ∈ bn_all := bn_t3 (i := 7) rfl rfl
theorem k_488 : (Jvm.Cond.fieldLink "java/lang/Throwable" (198 : Nat) "java/lang/Throwable" "backtrace" "Ljava/lang/Object;") ∈ bn_all := bn_t3 (i := 8) rfl rfl
theorem k_490 : (Jvm.Cond.instanceMethod ({ cls := "java/lang/Throwable", name := "<init>", desc := "()V" } : Jvm.MethodName)) ∈ bn_all := bn_t3 (i := 10) rfl rfl
theorem k_491 : (Jvm.Cond.code ({ cls := "java/lang/Throwable", name := "<init>", desc := "()V" } : Jvm.MethodName) prog_18_method_1_code (1 : Nat) (Option.none : Option Jvm.ClassFile.FieldType)) ∈ bn_all := bn_t3 (i := 11) rfl rfl
theorem k_492 : (Jvm.Cond.methodLink "java/lang/Throwable" (1 : Nat) ({ cls := "java/lang/Object", name := "<init>", desc := "()V" } : Jvm.MethodName)) ∈ bn_all := bn_t3 (i := 12) rfl rfl
theorem k_493 : (Jvm.Cond.fieldLink "java/lang/Throwable" (13 : Nat) "java/lang/Throwable" "UNASSIGNED_STACK" "[Ljava/lang/StackTraceElement;") ∈ bn_all := bn_t3 (i := 13) rfl rfl
theorem k_495 : (Jvm.Cond.fieldLink "java/lang/Throwable" (20 : Nat) "java/lang/Throwable" "SUPPRESSED_SENTINEL" "Ljava/util/List;") ∈ bn_all := bn_t3 (i := 15) rfl rfl
theorem k_497 : (Jvm.Cond.methodLink "java/lang/Throwable" (27 : Nat) ({ cls := "java/lang/Throwable", name := "fillInStackTrace", desc := "()Ljava/lang/Throwable;" } : Jvm.MethodName)) ∈ bn_all := bn_t3 (i := 17) rfl rfl
theorem k_498 : (Jvm.Cond.instanceMethod ({ cls := "java/lang/Throwable", name := "fillInStackTrace", desc := "()Ljava/lang/Throwable;" } : Jvm.MethodName)) ∈ bn_all := bn_t3 (i := 18) rfl rfl
theorem k_500 : (Jvm.Cond.selects "java/lang/IllegalArgumentException" ({ cls := "java/lang/Throwable", name := "fillInStackTrace", desc := "()Ljava/lang/Throwable;" } : Jvm.MethodName) ({ cls := "java/lang/Throwable", name := "fillInStackTrace", desc := "()Ljava/lang/Throwable;" } : Jvm.MethodName)) ∈ bn_all := bn_t3 (i := 20) rfl rfl
theorem k_501 : (Jvm.Cond.selects "java/lang/IllegalStateException" ({ cls := "java/lang/Throwable", name := "fillInStackTrace", desc := "()Ljava/lang/Throwable;" } : Jvm.MethodName) ({ cls := "java/lang/Throwable", name := "fillInStackTrace", desc := "()Ljava/lang/Throwable;" } : Jvm.MethodName)) ∈ bn_all := bn_t3 (i := 21) rfl rfl
theorem k_503 : (Jvm.Cond.methodLink "java/lang/Throwable" (202 : Nat) ({ cls := "java/lang/Throwable", name := "fillInStackTrace", desc := "(I)Ljava/lang/Throwable;" } : Jvm.MethodName)) ∈ bn_all := bn_t3 (i := 23) rfl rfl
theorem k_505 : (Jvm.Cond.instanceMethod ({ cls := "java/lang/Throwable", name := "fillInStackTrace", desc := "(I)Ljava/lang/Throwable;" } : Jvm.MethodName)) ∈ bn_all := bn_t3 (i := 25) rfl rfl
theorem k_506 : (Jvm.Cond.instantiable "java/lang/Throwable" (6 : Nat)) ∈ bn_all := bn_t3 (i := 26) rfl rfl
theorem k_509 : (Jvm.Cond.methodLink "BridgeNet" (82 : Nat) ({ cls := "java/lang/IndexOutOfBoundsException", name := "<init>", desc := "(Ljava/lang/String;)V" } : Jvm.MethodName)) ∈ bn_all := bn_t3 (i := 29) rfl rfl
theorem k_510 : (Jvm.Cond.instanceMethod ({ cls := "java/lang/IndexOutOfBoundsException", name := "<init>", desc := "(Ljava/lang/String;)V" } : Jvm.MethodName)) ∈ bn_all := bn_t3 (i := 30) rfl rfl
theorem k_511 : (Jvm.Cond.code ({ cls := "java/lang/IndexOutOfBoundsException", name := "<init>", desc := "(Ljava/lang/String;)V" } : Jvm.MethodName) prog_14_method_2_code (2 : Nat) (Option.none : Option Jvm.ClassFile.FieldType)) ∈ bn_all := bn_t3 (i := 31) rfl rfl
theorem k_512 : (Jvm.Cond.methodLink "java/lang/IndexOutOfBoundsException" (7 : Nat) ({ cls := "java/lang/RuntimeException", name := "<init>", desc := "(Ljava/lang/String;)V" } : Jvm.MethodName)) ∈ bn_all := bn_t3 (i := 32) rfl rfl
theorem k_513 : (Jvm.Cond.instanceMethod ({ cls := "java/lang/RuntimeException", name := "<init>", desc := "(Ljava/lang/String;)V" } : Jvm.MethodName)) ∈ bn_all := bn_t3 (i := 33) rfl rfl
theorem k_514 : (Jvm.Cond.code ({ cls := "java/lang/RuntimeException", name := "<init>", desc := "(Ljava/lang/String;)V" } : Jvm.MethodName) prog_16_method_2_code (2 : Nat) (Option.none : Option Jvm.ClassFile.FieldType)) ∈ bn_all := bn_t3 (i := 34) rfl rfl
theorem k_515 : (Jvm.Cond.methodLink "java/lang/RuntimeException" (7 : Nat) ({ cls := "java/lang/Exception", name := "<init>", desc := "(Ljava/lang/String;)V" } : Jvm.MethodName)) ∈ bn_all := bn_t3 (i := 35) rfl rfl
theorem k_516 : (Jvm.Cond.instanceMethod ({ cls := "java/lang/Exception", name := "<init>", desc := "(Ljava/lang/String;)V" } : Jvm.MethodName)) ∈ bn_all := bn_t3 (i := 36) rfl rfl
theorem k_517 : (Jvm.Cond.code ({ cls := "java/lang/Exception", name := "<init>", desc := "(Ljava/lang/String;)V" } : Jvm.MethodName) prog_11_method_2_code (2 : Nat) (Option.none : Option Jvm.ClassFile.FieldType)) ∈ bn_all := bn_t3 (i := 37) rfl rfl
theorem k_518 : (Jvm.Cond.methodLink "java/lang/Exception" (7 : Nat) ({ cls := "java/lang/Throwable", name := "<init>", desc := "(Ljava/lang/String;)V" } : Jvm.MethodName)) ∈ bn_all := bn_t3 (i := 38) rfl rfl
theorem k_519 : (Jvm.Cond.instanceMethod ({ cls := "java/lang/Throwable", name := "<init>", desc := "(Ljava/lang/String;)V" } : Jvm.MethodName)) ∈ bn_all := bn_t3 (i := 39) rfl rfl
theorem k_520 : (Jvm.Cond.code ({ cls := "java/lang/Throwable", name := "<init>", desc := "(Ljava/lang/String;)V" } : Jvm.MethodName) prog_18_method_2_code (2 : Nat) (Option.none : Option Jvm.ClassFile.FieldType)) ∈ bn_all := bn_t3 (i := 40) rfl rfl
theorem k_521 : (Jvm.Cond.fieldLink "java/lang/Throwable" (198 : Nat) "java/lang/Throwable" "backtrace" "Ljava/lang/Object;") ∈ bn_all := bn_t3 (i := 41) rfl rfl
theorem k_522 : (Jvm.Cond.fieldLink "java/lang/Throwable" (31 : Nat) "java/lang/Throwable" "detailMessage" "Ljava/lang/String;") ∈ bn_all := bn_t3 (i := 42) rfl rfl
theorem k_523 : (Jvm.Cond.fieldLink "java/lang/Throwable" (7 : Nat) "java/lang/Throwable" "cause" "Ljava/lang/Throwable;") ∈ bn_all := bn_t3 (i := 43) rfl rfl
theorem k_524 : (Jvm.Cond.fieldLink "java/lang/Throwable" (17 : Nat) "java/lang/Throwable" "stackTrace" "[Ljava/lang/StackTraceElement;") ∈ bn_all := bn_t3 (i := 44) rfl rfl
theorem k_525 : (Jvm.Cond.fieldLink "java/lang/Throwable" (24 : Nat) "java/lang/Throwable" "suppressedExceptions" "Ljava/util/List;") ∈ bn_all := bn_t3 (i := 45) rfl rfl
theorem k_530 : (Jvm.Cond.lays "java/lang/IndexOutOfBoundsException" "java/lang/Throwable" "depth" "I") ∈ bn_all := bn_t3 (i := 50) rfl rfl
theorem k_534 : (Jvm.Cond.arrayClass Jvm.ClassFile.FieldType.byte) ∈ bn_all := bn_t3 (i := 54) rfl rfl
theorem k_535 : (Jvm.Cond.classLink "BridgeNet" (88 : Nat) "java/lang/IllegalArgumentException") ∈ bn_all := bn_t3 (i := 55) rfl rfl
theorem k_536 : (Jvm.Cond.instantiable "java/lang/IllegalArgumentException" (6 : Nat)) ∈ bn_all := bn_t3 (i := 56) rfl rfl
theorem k_538 : (Jvm.Cond.selects "java/lang/IllegalArgumentException" ({ cls := "java/lang/Throwable", name := "fillInStackTrace", desc := "(I)Ljava/lang/Throwable;" } : Jvm.MethodName) ({ cls := "java/lang/Throwable", name := "fillInStackTrace", desc := "(I)Ljava/lang/Throwable;" } : Jvm.MethodName)) ∈ bn_all := bn_t3 (i := 58) rfl rfl
theorem k_539 : (Jvm.Cond.lays "java/lang/IllegalArgumentException" "java/lang/Throwable" "cause" "Ljava/lang/Throwable;") ∈ bn_all := bn_t3 (i := 59) rfl rfl
theorem k_540 : (Jvm.Cond.lays "java/lang/IllegalArgumentException" "java/lang/Throwable" "stackTrace" "[Ljava/lang/StackTraceElement;") ∈ bn_all := bn_t3 (i := 60) rfl rfl
theorem k_541 : (Jvm.Cond.lays "java/lang/IllegalArgumentException" "java/lang/Throwable" "suppressedExceptions" "Ljava/util/List;") ∈ bn_all := bn_t3 (i := 61) rfl rfl
theorem k_542 : (Jvm.Cond.lays "java/lang/IllegalArgumentException" "java/lang/Throwable" "detailMessage" "Ljava/lang/String;") ∈ bn_all := bn_t3 (i := 62) rfl rfl
theorem k_543 : (Jvm.Cond.lays "java/lang/IllegalArgumentException" "java/lang/Throwable" "backtrace" "Ljava/lang/Object;") ∈ bn_all := bn_t3 (i := 63) rfl rfl
theorem k_545 : (Jvm.Cond.methodLink "BridgeNet" (92 : Nat) ({ cls := "java/lang/IllegalArgumentException", name := "<init>", desc := "(Ljava/lang/String;)V" } : Jvm.MethodName)) ∈ bn_all := bn_t3 (i := 65) rfl rfl
theorem k_546 : (Jvm.Cond.instanceMethod ({ cls := "java/lang/IllegalArgumentException", name := "<init>", desc := "(Ljava/lang/String;)V" } : Jvm.MethodName)) ∈ bn_all := bn_t3 (i := 66) rfl rfl
theorem k_547 : (Jvm.Cond.code ({ cls := "java/lang/IllegalArgumentException", name := "<init>", desc := "(Ljava/lang/String;)V" } : Jvm.MethodName) prog_12_method_2_code (2 : Nat) (Option.none : Option Jvm.ClassFile.FieldType)) ∈ bn_all := bn_t3 (i := 67) rfl rfl
theorem k_548 : (Jvm.Cond.methodLink "java/lang/IllegalArgumentException" (7 : Nat) ({ cls := "java/lang/RuntimeException", name := "<init>", desc := "(Ljava/lang/String;)V" } : Jvm.MethodName)) ∈ bn_all := bn_t3 (i := 68) rfl rfl
theorem k_549 : (Jvm.Cond.lays "java/lang/IllegalArgumentException" "java/lang/Throwable" "depth" "I") ∈ bn_all := bn_t3 (i := 69) rfl rfl
theorem k_551 : (Jvm.Cond.classLink "BridgeNet" (93 : Nat) "java/lang/IllegalStateException") ∈ bn_all := bn_t3 (i := 71) rfl rfl
theorem k_552 : (Jvm.Cond.instantiable "java/lang/IllegalStateException" (6 : Nat)) ∈ bn_all := bn_t3 (i := 72) rfl rfl
theorem k_554 : (Jvm.Cond.selects "java/lang/IllegalStateException" ({ cls := "java/lang/Throwable", name := "fillInStackTrace", desc := "(I)Ljava/lang/Throwable;" } : Jvm.MethodName) ({ cls := "java/lang/Throwable", name := "fillInStackTrace", desc := "(I)Ljava/lang/Throwable;" } : Jvm.MethodName)) ∈ bn_all := bn_t3 (i := 74) rfl rfl
theorem k_555 : (Jvm.Cond.lays "java/lang/IllegalStateException" "java/lang/Throwable" "cause" "Ljava/lang/Throwable;") ∈ bn_all := bn_t3 (i := 75) rfl rfl
theorem k_556 : (Jvm.Cond.lays "java/lang/IllegalStateException" "java/lang/Throwable" "stackTrace" "[Ljava/lang/StackTraceElement;") ∈ bn_all := bn_t3 (i := 76) rfl rfl
theorem k_557 : (Jvm.Cond.lays "java/lang/IllegalStateException" "java/lang/Throwable" "suppressedExceptions" "Ljava/util/List;") ∈ bn_all := bn_t3 (i := 77) rfl rfl
theorem k_558 : (Jvm.Cond.lays "java/lang/IllegalStateException" "java/lang/Throwable" "detailMessage" "Ljava/lang/String;") ∈ bn_all := bn_t3 (i := 78) rfl rfl
theorem k_559 : (Jvm.Cond.lays "java/lang/IllegalStateException" "java/lang/Throwable" "backtrace" "Ljava/lang/Object;") ∈ bn_all := bn_t3 (i := 79) rfl rfl
theorem k_561 : (Jvm.Cond.methodLink "BridgeNet" (97 : Nat) ({ cls := "java/lang/IllegalStateException", name := "<init>", desc := "(Ljava/lang/String;)V" } : Jvm.MethodName)) ∈ bn_all := bn_t3 (i := 81) rfl rfl
theorem k_562 : (Jvm.Cond.instanceMethod ({ cls := "java/lang/IllegalStateException", name := "<init>", desc := "(Ljava/lang/String;)V" } : Jvm.MethodName)) ∈ bn_all := bn_t3 (i := 82) rfl rfl
theorem k_563 : (Jvm.Cond.code ({ cls := "java/lang/IllegalStateException", name := "<init>", desc := "(Ljava/lang/String;)V" } : Jvm.MethodName) prog_13_method_2_code (2 : Nat) (Option.none : Option Jvm.ClassFile.FieldType)) ∈ bn_all := bn_t3 (i := 83) rfl rfl
theorem k_564 : (Jvm.Cond.methodLink "java/lang/IllegalStateException" (7 : Nat) ({ cls := "java/lang/RuntimeException", name := "<init>", desc := "(Ljava/lang/String;)V" } : Jvm.MethodName)) ∈ bn_all := bn_t3 (i := 84) rfl rfl
theorem k_565 : (Jvm.Cond.lays "java/lang/IllegalStateException" "java/lang/Throwable" "depth" "I") ∈ bn_all := bn_t3 (i := 85) rfl rfl
theorem k_567 : (Jvm.Cond.methodLink "BridgeNet" (98 : Nat) ({ cls := "BridgeNet$Station", name := "leave", desc := "()V" } : Jvm.MethodName)) ∈ bn_all := bn_t3 (i := 87) rfl rfl
theorem k_568 : (Jvm.Cond.instanceMethod ({ cls := "BridgeNet$Station", name := "leave", desc := "()V" } : Jvm.MethodName)) ∈ bn_all := bn_t3 (i := 88) rfl rfl
theorem k_569 : (Jvm.Cond.selects "BridgeNet$Station" ({ cls := "BridgeNet$Station", name := "leave", desc := "()V" } : Jvm.MethodName) ({ cls := "BridgeNet$Station", name := "leave", desc := "()V" } : Jvm.MethodName)) ∈ bn_all := bn_t3 (i := 89) rfl rfl
theorem k_570 : (Jvm.Cond.code ({ cls := "BridgeNet$Station", name := "leave", desc := "()V" } : Jvm.MethodName) prog_7_method_2_code (1 : Nat) (Option.none : Option Jvm.ClassFile.FieldType)) ∈ bn_all := bn_t3 (i := 90) rfl rfl
theorem k_571 : (Jvm.Cond.methodLink "BridgeNet$Station" (26 : Nat) ({ cls := "BridgeNet$Port", name := "join", desc := "(LBridgeNet$Port;LBridgeNet$Station;)V" } : Jvm.MethodName)) ∈ bn_all := bn_t3 (i := 91) rfl rfl
theorem k_572 : (Jvm.Cond.methodLink "BridgeNet$Station" (36 : Nat) ({ cls := "BridgeNet$Bridge", name := "compute", desc := "()V" } : Jvm.MethodName)) ∈ bn_all := bn_t3 (i := 92) rfl rfl
theorem k_573 : (Jvm.Cond.methodLink "BridgeNet" (101 : Nat) ({ cls := "BridgeNet$Station", name := "settle", desc := "(LBridgeNet$Port;I)V" } : Jvm.MethodName)) ∈ bn_all := bn_t3 (i := 93) rfl rfl
theorem k_574 : (Jvm.Cond.instanceMethod ({ cls := "BridgeNet$Station", name := "settle", desc := "(LBridgeNet$Port;I)V" } : Jvm.MethodName)) ∈ bn_all := bn_t3 (i := 94) rfl rfl
theorem k_575 : (Jvm.Cond.selects "BridgeNet$Station" ({ cls := "BridgeNet$Station", name := "settle", desc := "(LBridgeNet$Port;I)V" } : Jvm.MethodName) ({ cls := "BridgeNet$Station", name := "settle", desc := "(LBridgeNet$Port;I)V" } : Jvm.MethodName)) ∈ bn_all := bn_t3 (i := 95) rfl rfl
theorem k_576 : (Jvm.Cond.code ({ cls := "BridgeNet$Station", name := "settle", desc := "(LBridgeNet$Port;I)V" } : Jvm.MethodName) prog_7_method_3_code (3 : Nat) (Option.none : Option Jvm.ClassFile.FieldType)) ∈ bn_all := bn_t3 (i := 96) rfl rfl
theorem k_577 : (Jvm.Cond.methodLink "BridgeNetLaw" (59 : Nat) ({ cls := "BridgeNetLaw", name := "send", desc := "(LBridgeNet;III[J)I" } : Jvm.MethodName)) ∈ bn_all := bn_t3 (i := 97) rfl rfl
theorem k_578 : (Jvm.Cond.static ({ cls := "BridgeNetLaw", name := "send", desc := "(LBridgeNet;III[J)I" } : Jvm.MethodName)) ∈ bn_all := bn_t3 (i := 98) rfl rfl
theorem k_579 : (Jvm.Cond.codeWith ({ cls := "BridgeNetLaw", name := "send", desc := "(LBridgeNet;III[J)I" } : Jvm.MethodName) method_4_code (6 : Nat) (Option.some Jvm.ClassFile.FieldType.int) [((0 : Nat), (12 : Nat), (15 : Nat), (13 : Nat)), ((0 : Nat), (12 : Nat), (19 : Nat), (17 : Nat)), ((0 : Nat), (12 : Nat), (23 : Nat), (15 : Nat))]) ∈ bn_all := bn_t3 (i := 99) rfl rfl
theorem k_580 : (Jvm.Cond.methodLink "BridgeNetLaw" (19 : Nat) ({ cls := "BridgeNet", name := "send", desc := "(III)I" } : Jvm.MethodName)) ∈ bn_all := bn_t3 (i := 100) rfl rfl
theorem k_581 : (Jvm.Cond.instanceMethod ({ cls := "BridgeNet", name := "send", desc := "(III)I" } : Jvm.MethodName)) ∈ bn_all := bn_t3 (i := 101) rfl rfl
theorem k_582 : (Jvm.Cond.selects "BridgeNet" ({ cls := "BridgeNet", name := "send", desc := "(III)I" } : Jvm.MethodName) ({ cls := "BridgeNet", name := "send", desc := "(III)I" } : Jvm.MethodName)) ∈ bn_all := bn_t3 (i := 102) rfl rfl
theorem k_583 : (Jvm.Cond.code ({ cls := "BridgeNet", name := "send", desc := "(III)I" } : Jvm.MethodName) prog_1_method_7_code (6 : Nat) (Option.some Jvm.ClassFile.FieldType.int)) ∈ bn_all := bn_t3 (i := 103) rfl rfl
theorem k_587 : (Jvm.Cond.classLink "BridgeNet" (114 : Nat) "BridgeNet$Frame") ∈ bn_all := bn_t3 (i := 107) rfl rfl
theorem k_588 : (Jvm.Cond.instantiable "BridgeNet$Frame" (4 : Nat)) ∈ bn_all := bn_t3 (i := 108) rfl rfl
theorem k_589 : (Jvm.Cond.methodLink "BridgeNet" (119 : Nat) ({ cls := "BridgeNet$Frame", name := "<init>", desc := "(IIII)V" } : Jvm.MethodName)) ∈ bn_all := bn_t3 (i := 109) rfl rfl
theorem k_590 : (Jvm.Cond.instanceMethod ({ cls := "BridgeNet$Frame", name := "<init>", desc := "(IIII)V" } : Jvm.MethodName)) ∈ bn_all := bn_t3 (i := 110) rfl rfl
theorem k_591 : (Jvm.Cond.code ({ cls := "BridgeNet$Frame", name := "<init>", desc := "(IIII)V" } : Jvm.MethodName) prog_3_method_1_code (5 : Nat) (Option.none : Option Jvm.ClassFile.FieldType)) ∈ bn_all := bn_t3 (i := 111) rfl rfl
theorem k_592 : (Jvm.Cond.methodLink "BridgeNet$Frame" (1 : Nat) ({ cls := "java/lang/Object", name := "<init>", desc := "()V" } : Jvm.MethodName)) ∈ bn_all := bn_t3 (i := 112) rfl rfl
theorem k_593 : (Jvm.Cond.fieldLink "BridgeNet$Frame" (7 : Nat) "BridgeNet$Frame" "source" "I") ∈ bn_all := bn_t3 (i := 113) rfl rfl
theorem k_594 : (Jvm.Cond.fieldLink "BridgeNet$Bridge" (177 : Nat) "BridgeNet$Frame" "source" "I") ∈ bn_all := bn_t3 (i := 114) rfl rfl
theorem k_595 : (Jvm.Cond.fieldLink "BridgeNet$Frame" (13 : Nat) "BridgeNet$Frame" "destination" "I") ∈ bn_all := bn_t3 (i := 115) rfl rfl
theorem k_596 : (Jvm.Cond.fieldLink "BridgeNet$Message" (35 : Nat) "BridgeNet$Frame" "destination" "I") ∈ bn_all := bn_t3 (i := 116) rfl rfl
theorem k_597 : (Jvm.Cond.fieldLink "BridgeNet$Bridge" (184 : Nat) "BridgeNet$Frame" "destination" "I") ∈ bn_all := bn_t3 (i := 117) rfl rfl
theorem k_598 : (Jvm.Cond.fieldLink "BridgeNet$Frame" (16 : Nat) "BridgeNet$Frame" "vlan" "I") ∈ bn_all := bn_t3 (i := 118) rfl rfl
theorem k_599 : (Jvm.Cond.fieldLink "BridgeNet$Message" (42 : Nat) "BridgeNet$Frame" "vlan" "I") ∈ bn_all := bn_t3 (i := 119) rfl rfl
theorem k_600 : (Jvm.Cond.fieldLink "BridgeNet$Port" (91 : Nat) "BridgeNet$Frame" "vlan" "I") ∈ bn_all := bn_t3 (i := 120) rfl rfl
theorem k_601 : (Jvm.Cond.fieldLink "BridgeNet$Bridge" (168 : Nat) "BridgeNet$Frame" "vlan" "I") ∈ bn_all := bn_t3 (i := 121) rfl rfl
theorem k_602 : (Jvm.Cond.fieldLink "BridgeNet$Frame" (19 : Nat) "BridgeNet$Frame" "value" "I") ∈ bn_all := bn_t3 (i := 122) rfl rfl
theorem k_603 : (Jvm.Cond.laysFinal "BridgeNet$Frame" "BridgeNet$Frame" "source" "I") ∈ bn_all := bn_t3 (i := 123) rfl rfl
theorem k_605 : (Jvm.Cond.laysFinal "BridgeNet$Frame" "BridgeNet$Frame" "destination" "I") ∈ bn_all := bn_t3 (i := 125) rfl rfl
theorem k_607 : (Jvm.Cond.laysFinal "BridgeNet$Frame" "BridgeNet$Frame" "vlan" "I") ∈ bn_all := bn_t3 (i := 127) rfl rfl
theorem k_609 : (Jvm.Cond.laysFinal "BridgeNet$Frame" "BridgeNet$Frame" "value" "I") ∈ bn_all := bn_t3 (i := 129) rfl rfl
theorem k_612 : (Jvm.Cond.methodLink "BridgeNet" (122 : Nat) ({ cls := "BridgeNet$Bridge", name := "hearFrame", desc := "(LBridgeNet$Port;LBridgeNet$Frame;)I" } : Jvm.MethodName)) ∈ bn_all := bn_t3 (i := 132) rfl rfl
theorem k_613 : (Jvm.Cond.instanceMethod ({ cls := "BridgeNet$Bridge", name := "hearFrame", desc := "(LBridgeNet$Port;LBridgeNet$Frame;)I" } : Jvm.MethodName)) ∈ bn_all := bn_t3 (i := 133) rfl rfl
theorem k_614 : (Jvm.Cond.selects "BridgeNet$Bridge" ({ cls := "BridgeNet$Bridge", name := "hearFrame", desc := "(LBridgeNet$Port;LBridgeNet$Frame;)I" } : Jvm.MethodName) ({ cls := "BridgeNet$Bridge", name := "hearFrame", desc := "(LBridgeNet$Port;LBridgeNet$Frame;)I" } : Jvm.MethodName)) ∈ bn_all := bn_t3 (i := 134) rfl rfl
theorem k_615 : (Jvm.Cond.code ({ cls := "BridgeNet$Bridge", name := "hearFrame", desc := "(LBridgeNet$Port;LBridgeNet$Frame;)I" } : Jvm.MethodName) prog_2_method_17_code (4 : Nat) (Option.some Jvm.ClassFile.FieldType.int)) ∈ bn_all := bn_t3 (i := 135) rfl rfl
theorem k_616 : (Jvm.Cond.methodLink "BridgeNet$Bridge" (173 : Nat) ({ cls := "BridgeNet$Port", name := "carries", desc := "(I)Z" } : Jvm.MethodName)) ∈ bn_all := bn_t3 (i := 136) rfl rfl
theorem k_617 : (Jvm.Cond.instanceMethod ({ cls := "BridgeNet$Port", name := "carries", desc := "(I)Z" } : Jvm.MethodName)) ∈ bn_all := bn_t3 (i := 137) rfl rfl
theorem k_618 : (Jvm.Cond.selects "BridgeNet$Port" ({ cls := "BridgeNet$Port", name := "carries", desc := "(I)Z" } : Jvm.MethodName) ({ cls := "BridgeNet$Port", name := "carries", desc := "(I)Z" } : Jvm.MethodName)) ∈ bn_all := bn_t3 (i := 138) rfl rfl
theorem k_619 : (Jvm.Cond.code ({ cls := "BridgeNet$Port", name := "carries", desc := "(I)Z" } : Jvm.MethodName) prog_6_method_4_code (2 : Nat) (Option.some Jvm.ClassFile.FieldType.boolean)) ∈ bn_all := bn_t3 (i := 139) rfl rfl
theorem k_620 : (Jvm.Cond.methodLink "BridgeNet$Bridge" (180 : Nat) ({ cls := "BridgeNet$Bridge", name := "learn", desc := "(III)V" } : Jvm.MethodName)) ∈ bn_all := bn_t3 (i := 140) rfl rfl
theorem k_622 : (Jvm.Cond.instanceMethod ({ cls := "BridgeNet$Bridge", name := "learn", desc := "(III)V" } : Jvm.MethodName)) ∈ bn_all := bn_t3 (i := 142) rfl rfl
theorem k_623 : (Jvm.Cond.code ({ cls := "BridgeNet$Bridge", name := "learn", desc := "(III)V" } : Jvm.MethodName) prog_2_method_21_code (5 : Nat) (Option.none : Option Jvm.ClassFile.FieldType)) ∈ bn_all := bn_t3 (i := 143) rfl rfl
theorem k_624 : (Jvm.Cond.methodLink "BridgeNet$Bridge" (187 : Nat) ({ cls := "BridgeNet$Bridge", name := "placeOf", desc := "(II)I" } : Jvm.MethodName)) ∈ bn_all := bn_t3 (i := 144) rfl rfl
theorem k_625 : (Jvm.Cond.methodLink "BridgeNet$Bridge" (191 : Nat) ({ cls := "BridgeNet$Bridge", name := "flood", desc := "(LBridgeNet$Port;LBridgeNet$Frame;)I" } : Jvm.MethodName)) ∈ bn_all := bn_t3 (i := 145) rfl rfl
theorem k_627 : (Jvm.Cond.instanceMethod ({ cls := "BridgeNet$Bridge", name := "flood", desc := "(LBridgeNet$Port;LBridgeNet$Frame;)I" } : Jvm.MethodName)) ∈ bn_all := bn_t3 (i := 147) rfl rfl
theorem k_628 : (Jvm.Cond.code ({ cls := "BridgeNet$Bridge", name := "flood", desc := "(LBridgeNet$Port;LBridgeNet$Frame;)I" } : Jvm.MethodName) prog_2_method_19_code (8 : Nat) (Option.some Jvm.ClassFile.FieldType.int)) ∈ bn_all := bn_t3 (i := 148) rfl rfl
theorem k_629 : (Jvm.Cond.methodLink "BridgeNet$Bridge" (199 : Nat) ({ cls := "BridgeNet$Port", name := "letOut", desc := "(LBridgeNet$Frame;)Z" } : Jvm.MethodName)) ∈ bn_all := bn_t3 (i := 149) rfl rfl
theorem k_630 : (Jvm.Cond.instanceMethod ({ cls := "BridgeNet$Port", name := "letOut", desc := "(LBridgeNet$Frame;)Z" } : Jvm.MethodName)) ∈ bn_all := bn_t3 (i := 150) rfl rfl
theorem k_631 : (Jvm.Cond.selects "BridgeNet$Port" ({ cls := "BridgeNet$Port", name := "letOut", desc := "(LBridgeNet$Frame;)Z" } : Jvm.MethodName) ({ cls := "BridgeNet$Port", name := "letOut", desc := "(LBridgeNet$Frame;)Z" } : Jvm.MethodName)) ∈ bn_all := bn_t3 (i := 151) rfl rfl
theorem k_632 : (Jvm.Cond.code ({ cls := "BridgeNet$Port", name := "letOut", desc := "(LBridgeNet$Frame;)Z" } : Jvm.MethodName) prog_6_method_15_code (2 : Nat) (Option.some Jvm.ClassFile.FieldType.boolean)) ∈ bn_all := bn_t3 (i := 152) rfl rfl
theorem k_633 : (Jvm.Cond.methodLink "BridgeNet$Port" (96 : Nat) ({ cls := "BridgeNet$Port", name := "carries", desc := "(I)Z" } : Jvm.MethodName)) ∈ bn_all := bn_t3 (i := 153) rfl rfl
theorem k_634 : (Jvm.Cond.methodLink "BridgeNet$Port" (100 : Nat) ({ cls := "BridgeNet$Line", name := "putFrame", desc := "(LBridgeNet$Frame;)V" } : Jvm.MethodName)) ∈ bn_all := bn_t3 (i := 154) rfl rfl
theorem k_635 : (Jvm.Cond.instanceMethod ({ cls := "BridgeNet$Line", name := "putFrame", desc := "(LBridgeNet$Frame;)V" } : Jvm.MethodName)) ∈ bn_all := bn_t3 (i := 155) rfl rfl
theorem k_636 : (Jvm.Cond.selects "BridgeNet$Line" ({ cls := "BridgeNet$Line", name := "putFrame", desc := "(LBridgeNet$Frame;)V" } : Jvm.MethodName) ({ cls := "BridgeNet$Line", name := "putFrame", desc := "(LBridgeNet$Frame;)V" } : Jvm.MethodName)) ∈ bn_all := bn_t3 (i := 156) rfl rfl
theorem k_637 : (Jvm.Cond.code ({ cls := "BridgeNet$Line", name := "putFrame", desc := "(LBridgeNet$Frame;)V" } : Jvm.MethodName) prog_4_method_7_code (2 : Nat) (Option.none : Option Jvm.ClassFile.FieldType)) ∈ bn_all := bn_t3 (i := 157) rfl rfl
theorem k_638 : (Jvm.Cond.methodLink "BridgeNet$Port" (107 : Nat) ({ cls := "BridgeNet$Station", name := "keep", desc := "(LBridgeNet$Frame;)V" } : Jvm.MethodName)) ∈ bn_all := bn_t3 (i := 158) rfl rfl
theorem k_639 : (Jvm.Cond.instanceMethod ({ cls := "BridgeNet$Station", name := "keep", desc := "(LBridgeNet$Frame;)V" } : Jvm.MethodName)) ∈ bn_all := bn_t3 (i := 159) rfl rfl
theorem k_640 : (Jvm.Cond.selects "BridgeNet$Station" ({ cls := "BridgeNet$Station", name := "keep", desc := "(LBridgeNet$Frame;)V" } : Jvm.MethodName) ({ cls := "BridgeNet$Station", name := "keep", desc := "(LBridgeNet$Frame;)V" } : Jvm.MethodName)) ∈ bn_all := bn_t3 (i := 160) rfl rfl
theorem k_641 : (Jvm.Cond.code ({ cls := "BridgeNet$Station", name := "keep", desc := "(LBridgeNet$Frame;)V" } : Jvm.MethodName) prog_7_method_4_code (2 : Nat) (Option.none : Option Jvm.ClassFile.FieldType)) ∈ bn_all := bn_t3 (i := 161) rfl rfl
theorem k_642 : (Jvm.Cond.methodLink "BridgeNet$Station" (41 : Nat) ({ cls := "BridgeNet$Frame", name := "inboxEntry", desc := "()J" } : Jvm.MethodName)) ∈ bn_all := bn_t3 (i := 162) rfl rfl
theorem k_643 : (Jvm.Cond.instanceMethod ({ cls := "BridgeNet$Frame", name := "inboxEntry", desc := "()J" } : Jvm.MethodName)) ∈ bn_all := bn_t3 (i := 163) rfl rfl
theorem k_644 : (Jvm.Cond.selects "BridgeNet$Frame" ({ cls := "BridgeNet$Frame", name := "inboxEntry", desc := "()J" } : Jvm.MethodName) ({ cls := "BridgeNet$Frame", name := "inboxEntry", desc := "()J" } : Jvm.MethodName)) ∈ bn_all := bn_t3 (i := 164) rfl rfl
theorem k_645 : (Jvm.Cond.code ({ cls := "BridgeNet$Frame", name := "inboxEntry", desc := "()J" } : Jvm.MethodName) prog_3_method_2_code (1 : Nat) (Option.some Jvm.ClassFile.FieldType.long)) ∈ bn_all := bn_t3 (i := 165) rfl rfl
theorem k_646 : (Jvm.Cond.constantLong "BridgeNet$Frame" (22 : Nat) (4294967295 : Int64)) ∈ bn_all := bn_t3 (i := 166) rfl rfl
theorem k_647 : (Jvm.Cond.methodLink "BridgeNet$Bridge" (195 : Nat) ({ cls := "BridgeNet$Bridge", name := "passTo", desc := "(ILBridgeNet$Port;LBridgeNet$Frame;)I" } : Jvm.MethodName)) ∈ bn_all := bn_t3 (i := 167) rfl rfl
theorem k_649 : (Jvm.Cond.instanceMethod ({ cls := "BridgeNet$Bridge", name := "passTo", desc := "(ILBridgeNet$Port;LBridgeNet$Frame;)I" } : Jvm.MethodName)) ∈ bn_all := bn_t3 (i := 169) rfl rfl
theorem k_650 : (Jvm.Cond.code ({ cls := "BridgeNet$Bridge", name := "passTo", desc := "(ILBridgeNet$Port;LBridgeNet$Frame;)I" } : Jvm.MethodName) prog_2_method_18_code (4 : Nat) (Option.some Jvm.ClassFile.FieldType.int)) ∈ bn_all := bn_t3 (i := 170) rfl rfl
theorem k_651 : (Jvm.Cond.methodLink "BridgeNetLaw" (63 : Nat) ({ cls := "BridgeNetLaw", name := "deliver", desc := "(LBridgeNet;II[J)I" } : Jvm.MethodName)) ∈ bn_all := bn_t3 (i := 171) rfl rfl
theorem k_652 : (Jvm.Cond.static ({ cls := "BridgeNetLaw", name := "deliver", desc := "(LBridgeNet;II[J)I" } : Jvm.MethodName)) ∈ bn_all := bn_t3 (i := 172) rfl rfl
theorem k_653 : (Jvm.Cond.codeWith ({ cls := "BridgeNetLaw", name := "deliver", desc := "(LBridgeNet;II[J)I" } : Jvm.MethodName) method_5_code (5 : Nat) (Option.some Jvm.ClassFile.FieldType.int) [((0 : Nat), (10 : Nat), (13 : Nat), (13 : Nat))]) ∈ bn_all := bn_t3 (i := 173) rfl rfl
theorem k_654 : (Jvm.Cond.methodLink "BridgeNetLaw" (23 : Nat) ({ cls := "BridgeNet", name := "deliver", desc := "(II)I" } : Jvm.MethodName)) ∈ bn_all := bn_t3 (i := 174) rfl rfl
theorem k_655 : (Jvm.Cond.instanceMethod ({ cls := "BridgeNet", name := "deliver", desc := "(II)I" } : Jvm.MethodName)) ∈ bn_all := bn_t3 (i := 175) rfl rfl
theorem k_656 : (Jvm.Cond.selects "BridgeNet" ({ cls := "BridgeNet", name := "deliver", desc := "(II)I" } : Jvm.MethodName) ({ cls := "BridgeNet", name := "deliver", desc := "(II)I" } : Jvm.MethodName)) ∈ bn_all := bn_t3 (i := 176) rfl rfl
theorem k_657 : (Jvm.Cond.code ({ cls := "BridgeNet", name := "deliver", desc := "(II)I" } : Jvm.MethodName) prog_1_method_8_code (5 : Nat) (Option.some Jvm.ClassFile.FieldType.int)) ∈ bn_all := bn_t3 (i := 177) rfl rfl
theorem k_659 : (Jvm.Cond.methodLink "BridgeNet" (143 : Nat) ({ cls := "BridgeNet$Bridge", name := "hearTell", desc := "(LBridgeNet$Port;LBridgeNet$Message;)V" } : Jvm.MethodName)) ∈ bn_all := bn_t3 (i := 179) rfl rfl
theorem k_660 : (Jvm.Cond.instanceMethod ({ cls := "BridgeNet$Bridge", name := "hearTell", desc := "(LBridgeNet$Port;LBridgeNet$Message;)V" } : Jvm.MethodName)) ∈ bn_all := bn_t3 (i := 180) rfl rfl
theorem k_661 : (Jvm.Cond.selects "BridgeNet$Bridge" ({ cls := "BridgeNet$Bridge", name := "hearTell", desc := "(LBridgeNet$Port;LBridgeNet$Message;)V" } : Jvm.MethodName) ({ cls := "BridgeNet$Bridge", name := "hearTell", desc := "(LBridgeNet$Port;LBridgeNet$Message;)V" } : Jvm.MethodName)) ∈ bn_all := bn_t3 (i := 181) rfl rfl
theorem k_662 : (Jvm.Cond.code ({ cls := "BridgeNet$Bridge", name := "hearTell", desc := "(LBridgeNet$Port;LBridgeNet$Message;)V" } : Jvm.MethodName) prog_2_method_13_code (3 : Nat) (Option.none : Option Jvm.ClassFile.FieldType)) ∈ bn_all := bn_t3 (i := 182) rfl rfl
theorem k_663 : (Jvm.Cond.methodLink "BridgeNet$Bridge" (142 : Nat) ({ cls := "BridgeNet$Port", name := "hold", desc := "(JI)V" } : Jvm.MethodName)) ∈ bn_all := bn_t3 (i := 183) rfl rfl
theorem k_664 : (Jvm.Cond.instanceMethod ({ cls := "BridgeNet$Port", name := "hold", desc := "(JI)V" } : Jvm.MethodName)) ∈ bn_all := bn_t3 (i := 184) rfl rfl
theorem k_665 : (Jvm.Cond.selects "BridgeNet$Port" ({ cls := "BridgeNet$Port", name := "hold", desc := "(JI)V" } : Jvm.MethodName) ({ cls := "BridgeNet$Port", name := "hold", desc := "(JI)V" } : Jvm.MethodName)) ∈ bn_all := bn_t3 (i := 185) rfl rfl
theorem k_666 : (Jvm.Cond.code ({ cls := "BridgeNet$Port", name := "hold", desc := "(JI)V" } : Jvm.MethodName) prog_6_method_10_code (4 : Nat) (Option.none : Option Jvm.ClassFile.FieldType)) ∈ bn_all := bn_t3 (i := 186) rfl rfl
theorem k_667 : (Jvm.Cond.methodLink "BridgeNet$Bridge" (150 : Nat) ({ cls := "BridgeNet$Bridge", name := "answerProposal", desc := "(LBridgeNet$Port;)V" } : Jvm.MethodName)) ∈ bn_all := bn_t3 (i := 187) rfl rfl
theorem k_669 : (Jvm.Cond.instanceMethod ({ cls := "BridgeNet$Bridge", name := "answerProposal", desc := "(LBridgeNet$Port;)V" } : Jvm.MethodName)) ∈ bn_all := bn_t3 (i := 189) rfl rfl
theorem k_670 : (Jvm.Cond.code ({ cls := "BridgeNet$Bridge", name := "answerProposal", desc := "(LBridgeNet$Port;)V" } : Jvm.MethodName) prog_2_method_14_code (2 : Nat) (Option.none : Option Jvm.ClassFile.FieldType)) ∈ bn_all := bn_t3 (i := 190) rfl rfl
theorem k_671 : (Jvm.Cond.methodLink "BridgeNet$Bridge" (153 : Nat) ({ cls := "BridgeNet$Bridge", name := "proposeOnOthers", desc := "(LBridgeNet$Port;)V" } : Jvm.MethodName)) ∈ bn_all := bn_t3 (i := 191) rfl rfl
theorem k_673 : (Jvm.Cond.instanceMethod ({ cls := "BridgeNet$Bridge", name := "proposeOnOthers", desc := "(LBridgeNet$Port;)V" } : Jvm.MethodName)) ∈ bn_all := bn_t3 (i := 193) rfl rfl
theorem k_674 : (Jvm.Cond.code ({ cls := "BridgeNet$Bridge", name := "proposeOnOthers", desc := "(LBridgeNet$Port;)V" } : Jvm.MethodName) prog_2_method_15_code (6 : Nat) (Option.none : Option Jvm.ClassFile.FieldType)) ∈ bn_all := bn_t3 (i := 194) rfl rfl
theorem k_675 : (Jvm.Cond.methodLink "BridgeNet$Bridge" (159 : Nat) ({ cls := "BridgeNet$Port", name := "proposeUnlessAgreed", desc := "()Z" } : Jvm.MethodName)) ∈ bn_all := bn_t3 (i := 195) rfl rfl
theorem k_676 : (Jvm.Cond.instanceMethod ({ cls := "BridgeNet$Port", name := "proposeUnlessAgreed", desc := "()Z" } : Jvm.MethodName)) ∈ bn_all := bn_t3 (i := 196) rfl rfl
theorem k_677 : (Jvm.Cond.selects "BridgeNet$Port" ({ cls := "BridgeNet$Port", name := "proposeUnlessAgreed", desc := "()Z" } : Jvm.MethodName) ({ cls := "BridgeNet$Port", name := "proposeUnlessAgreed", desc := "()Z" } : Jvm.MethodName)) ∈ bn_all := bn_t3 (i := 197) rfl rfl
theorem k_678 : (Jvm.Cond.code ({ cls := "BridgeNet$Port", name := "proposeUnlessAgreed", desc := "()Z" } : Jvm.MethodName) prog_6_method_11_code (1 : Nat) (Option.some Jvm.ClassFile.FieldType.boolean)) ∈ bn_all := bn_t3 (i := 198) rfl rfl
theorem k_679 : (Jvm.Cond.methodLink "BridgeNet$Bridge" (156 : Nat) ({ cls := "BridgeNet$Line", name := "putAgree", desc := "(I)V" } : Jvm.MethodName)) ∈ bn_all := bn_t3 (i := 199) rfl rfl
theorem k_680 : (Jvm.Cond.instanceMethod ({ cls := "BridgeNet$Line", name := "putAgree", desc := "(I)V" } : Jvm.MethodName)) ∈ bn_all := bn_t3 (i := 200) rfl rfl
theorem k_681 : (Jvm.Cond.selects "BridgeNet$Line" ({ cls := "BridgeNet$Line", name := "putAgree", desc := "(I)V" } : Jvm.MethodName) ({ cls := "BridgeNet$Line", name := "putAgree", desc := "(I)V" } : Jvm.MethodName)) ∈ bn_all := bn_t3 (i := 201) rfl rfl
theorem k_682 : (Jvm.Cond.code ({ cls := "BridgeNet$Line", name := "putAgree", desc := "(I)V" } : Jvm.MethodName) prog_4_method_6_code (2 : Nat) (Option.none : Option Jvm.ClassFile.FieldType)) ∈ bn_all := bn_t3 (i := 202) rfl rfl
theorem k_683 : (Jvm.Cond.methodLink "BridgeNet" (150 : Nat) ({ cls := "BridgeNet$Bridge", name := "hearAgree", desc := "(LBridgeNet$Port;I)V" } : Jvm.MethodName)) ∈ bn_all := bn_t3 (i := 203) rfl rfl
theorem k_684 : (Jvm.Cond.instanceMethod ({ cls := "BridgeNet$Bridge", name := "hearAgree", desc := "(LBridgeNet$Port;I)V" } : Jvm.MethodName)) ∈ bn_all := bn_t3 (i := 204) rfl rfl
theorem k_685 : (Jvm.Cond.selects "BridgeNet$Bridge" ({ cls := "BridgeNet$Bridge", name := "hearAgree", desc := "(LBridgeNet$Port;I)V" } : Jvm.MethodName) ({ cls := "BridgeNet$Bridge", name := "hearAgree", desc := "(LBridgeNet$Port;I)V" } : Jvm.MethodName)) ∈ bn_all := bn_t3 (i := 205) rfl rfl
theorem k_686 : (Jvm.Cond.code ({ cls := "BridgeNet$Bridge", name := "hearAgree", desc := "(LBridgeNet$Port;I)V" } : Jvm.MethodName) prog_2_method_16_code (3 : Nat) (Option.none : Option Jvm.ClassFile.FieldType)) ∈ bn_all := bn_t3 (i := 206) rfl rfl
theorem k_687 : (Jvm.Cond.methodLink "BridgeNet$Bridge" (162 : Nat) ({ cls := "BridgeNet$Port", name := "takeAgreement", desc := "()V" } : Jvm.MethodName)) ∈ bn_all := bn_t3 (i := 207) rfl rfl
theorem k_688 : (Jvm.Cond.instanceMethod ({ cls := "BridgeNet$Port", name := "takeAgreement", desc := "()V" } : Jvm.MethodName)) ∈ bn_all := bn_t3 (i := 208) rfl rfl
theorem k_689 : (Jvm.Cond.selects "BridgeNet$Port" ({ cls := "BridgeNet$Port", name := "takeAgreement", desc := "()V" } : Jvm.MethodName) ({ cls := "BridgeNet$Port", name := "takeAgreement", desc := "()V" } : Jvm.MethodName)) ∈ bn_all := bn_t3 (i := 209) rfl rfl
theorem k_690 : (Jvm.Cond.code ({ cls := "BridgeNet$Port", name := "takeAgreement", desc := "()V" } : Jvm.MethodName) prog_6_method_12_code (1 : Nat) (Option.none : Option Jvm.ClassFile.FieldType)) ∈ bn_all := bn_t3 (i := 210) rfl rfl
theorem k_691 : (Jvm.Cond.classLink "BridgeNetLaw" (28 : Nat) "BridgeNetModel") ∈ bn_all := bn_t3 (i := 211) rfl rfl
theorem k_692 : (Jvm.Cond.instantiable "BridgeNetModel" (32 : Nat)) ∈ bn_all := bn_t3 (i := 212) rfl rfl
theorem k_693 : (Jvm.Cond.methodLink "BridgeNetLaw" (30 : Nat) ({ cls := "BridgeNetModel", name := "<init>", desc := "()V" } : Jvm.MethodName)) ∈ bn_all := bn_t3 (i := 213) rfl rfl
theorem k_694 : (Jvm.Cond.instanceMethod ({ cls := "BridgeNetModel", name := "<init>", desc := "()V" } : Jvm.MethodName)) ∈ bn_all := bn_t3 (i := 214) rfl rfl
theorem k_695 : (Jvm.Cond.code ({ cls := "BridgeNetModel", name := "<init>", desc := "()V" } : Jvm.MethodName) prog_10_method_1_code (2 : Nat) (Option.none : Option Jvm.ClassFile.FieldType)) ∈ bn_all := bn_t3 (i := 215) rfl rfl
theorem k_696 : (Jvm.Cond.methodLink "BridgeNetModel" (1 : Nat) ({ cls := "java/lang/Object", name := "<init>", desc := "()V" } : Jvm.MethodName)) ∈ bn_all := bn_t3 (i := 216) rfl rfl
theorem k_697 : (Jvm.Cond.constantLong "BridgeNetModel" (102 : Nat) (64 : Int64)) ∈ bn_all := bn_t3 (i := 217) rfl rfl
theorem k_698 : (Jvm.Cond.methodLink "BridgeNetModel" (104 : Nat) ({ cls := "BridgeNetModel", name := "vector", desc := "(JJJJ)J" } : Jvm.MethodName)) ∈ bn_all := bn_t3 (i := 218) rfl rfl
theorem k_699 : (Jvm.Cond.static ({ cls := "BridgeNetModel", name := "vector", desc := "(JJJJ)J" } : Jvm.MethodName)) ∈ bn_all := bn_t3 (i := 219) rfl rfl
theorem k_700 : (Jvm.Cond.code ({ cls := "BridgeNetModel", name := "vector", desc := "(JJJJ)J" } : Jvm.MethodName) prog_10_method_8_code (8 : Nat) (Option.some Jvm.ClassFile.FieldType.long)) ∈ bn_all := bn_t3 (i := 220) rfl rfl
theorem k_701 : (Jvm.Cond.fieldLink "BridgeNetModel" (108 : Nat) "BridgeNetModel" "thrown" "I") ∈ bn_all := bn_t3 (i := 221) rfl rfl
theorem k_702 : (Jvm.Cond.fieldLink "BridgeNetModel" (196 : Nat) "BridgeNetModel" "ticks" "I") ∈ bn_all := bn_t3 (i := 222) rfl rfl
theorem k_703 : (Jvm.Cond.fieldLink "BridgeNetModel" (7 : Nat) "BridgeNetModel" "priority" "[I") ∈ bn_all := bn_t3 (i := 223) rfl rfl
theorem k_704 : (Jvm.Cond.fieldLink "BridgeNetModel" (13 : Nat) "BridgeNetModel" "cost" "[I") ∈ bn_all := bn_t3 (i := 224) rfl rfl
theorem k_705 : (Jvm.Cond.fieldLink "BridgeNetModel" (16 : Nat) "BridgeNetModel" "vlans" "[I") ∈ bn_all := bn_t3 (i := 225) rfl rfl
theorem k_706 : (Jvm.Cond.fieldLink "BridgeNetModel" (19 : Nat) "BridgeNetModel" "joined" "[I") ∈ bn_all := bn_t3 (i := 226) rfl rfl
theorem k_707 : (Jvm.Cond.fieldLink "BridgeNetModel" (22 : Nat) "BridgeNetModel" "role" "[I") ∈ bn_all := bn_t3 (i := 227) rfl rfl
theorem k_708 : (Jvm.Cond.fieldLink "BridgeNetModel" (25 : Nat) "BridgeNetModel" "state" "[I") ∈ bn_all := bn_t3 (i := 228) rfl rfl
theorem k_709 : (Jvm.Cond.fieldLink "BridgeNetModel" (28 : Nat) "BridgeNetModel" "proposing" "[Z") ∈ bn_all := bn_t3 (i := 229) rfl rfl
theorem k_710 : (Jvm.Cond.fieldLink "BridgeNetModel" (32 : Nat) "BridgeNetModel" "agreed" "[Z") ∈ bn_all := bn_t3 (i := 230) rfl rfl
theorem k_711 : (Jvm.Cond.fieldLink "BridgeNetModel" (35 : Nat) "BridgeNetModel" "waits" "[I") ∈ bn_all := bn_t3 (i := 231) rfl rfl
theorem k_712 : (Jvm.Cond.fieldLink "BridgeNetModel" (38 : Nat) "BridgeNetModel" "info" "[J") ∈ bn_all := bn_t3 (i := 232) rfl rfl
theorem k_713 : (Jvm.Cond.fieldLink "BridgeNetModel" (42 : Nat) "BridgeNetModel" "infoHops" "[I") ∈ bn_all := bn_t3 (i := 233) rfl rfl
theorem k_714 : (Jvm.Cond.fieldLink "BridgeNetModel" (45 : Nat) "BridgeNetModel" "life" "[I") ∈ bn_all := bn_t3 (i := 234) rfl rfl
theorem k_715 : (Jvm.Cond.fieldLink "BridgeNetModel" (48 : Nat) "BridgeNetModel" "lines" "[I") ∈ bn_all := bn_t3 (i := 235) rfl rfl
theorem k_716 : (Jvm.Cond.fieldLink "BridgeNetModel" (51 : Nat) "BridgeNetModel" "kind" "[I") ∈ bn_all := bn_t3 (i := 236) rfl rfl
theorem k_717 : (Jvm.Cond.fieldLink "BridgeNetModel" (54 : Nat) "BridgeNetModel" "told" "[J") ∈ bn_all := bn_t3 (i := 237) rfl rfl
theorem k_718 : (Jvm.Cond.fieldLink "BridgeNetModel" (57 : Nat) "BridgeNetModel" "hop" "[I") ∈ bn_all := bn_t3 (i := 238) rfl rfl
theorem k_719 : (Jvm.Cond.fieldLink "BridgeNetModel" (60 : Nat) "BridgeNetModel" "asks" "[Z") ∈ bn_all := bn_t3 (i := 239) rfl rfl
theorem k_720 : (Jvm.Cond.fieldLink "BridgeNetModel" (63 : Nat) "BridgeNetModel" "source" "[I") ∈ bn_all := bn_t4 (i := 0) rfl rfl
theorem k_721 : (Jvm.Cond.fieldLink "BridgeNetModel" (66 : Nat) "BridgeNetModel" "destination" "[I") ∈ bn_all := bn_t4 (i := 1) rfl rfl
theorem k_722 : (Jvm.Cond.fieldLink "BridgeNetModel" (69 : Nat) "BridgeNetModel" "vlan" "[I") ∈ bn_all := bn_t4 (i := 2) rfl rfl
theorem k_723 : (Jvm.Cond.fieldLink "BridgeNetModel" (72 : Nat) "BridgeNetModel" "value" "[I") ∈ bn_all := bn_t4 (i := 3) rfl rfl
theorem k_724 : (Jvm.Cond.fieldLink "BridgeNetModel" (75 : Nat) "BridgeNetModel" "best" "[J") ∈ bn_all := bn_t4 (i := 4) rfl rfl
theorem k_725 : (Jvm.Cond.fieldLink "BridgeNetModel" (78 : Nat) "BridgeNetModel" "hops" "[I") ∈ bn_all := bn_t4 (i := 5) rfl rfl
theorem k_726 : (Jvm.Cond.fieldLink "BridgeNetModel" (81 : Nat) "BridgeNetModel" "rootPort" "[I") ∈ bn_all := bn_t4 (i := 6) rfl rfl
theorem k_727 : (Jvm.Cond.fieldLink "BridgeNetModel" (84 : Nat) "BridgeNetModel" "known" "[I") ∈ bn_all := bn_t4 (i := 7) rfl rfl
theorem k_728 : (Jvm.Cond.fieldLink "BridgeNetModel" (87 : Nat) "BridgeNetModel" "behind" "[I") ∈ bn_all := bn_t4 (i := 8) rfl rfl
theorem k_729 : (Jvm.Cond.fieldLink "BridgeNetModel" (90 : Nat) "BridgeNetModel" "at" "[I") ∈ bn_all := bn_t4 (i := 9) rfl rfl
theorem k_730 : (Jvm.Cond.fieldLink "BridgeNetModel" (93 : Nat) "BridgeNetModel" "in" "[I") ∈ bn_all := bn_t4 (i := 10) rfl rfl
theorem k_731 : (Jvm.Cond.fieldLink "BridgeNetModel" (96 : Nat) "BridgeNetModel" "got" "[I") ∈ bn_all := bn_t4 (i := 11) rfl rfl
theorem k_732 : (Jvm.Cond.fieldLink "BridgeNetModel" (99 : Nat) "BridgeNetModel" "inbox" "[J") ∈ bn_all := bn_t4 (i := 12) rfl rfl
theorem k_733 : (Jvm.Cond.lays "BridgeNetModel" "BridgeNetModel" "thrown" "I") ∈ bn_all := bn_t4 (i := 13) rfl rfl
theorem k_735 : (Jvm.Cond.lays "BridgeNetModel" "BridgeNetModel" "ticks" "I") ∈ bn_all := bn_t4 (i := 15) rfl rfl
theorem k_737 : (Jvm.Cond.laysFinal "BridgeNetModel" "BridgeNetModel" "priority" "[I") ∈ bn_all := bn_t4 (i := 17) rfl rfl
theorem k_739 : (Jvm.Cond.laysFinal "BridgeNetModel" "BridgeNetModel" "cost" "[I") ∈ bn_all := bn_t4 (i := 19) rfl rfl
theorem k_741 : (Jvm.Cond.laysFinal "BridgeNetModel" "BridgeNetModel" "vlans" "[I") ∈ bn_all := bn_t4 (i := 21) rfl rfl
theorem k_743 : (Jvm.Cond.laysFinal "BridgeNetModel" "BridgeNetModel" "joined" "[I") ∈ bn_all := bn_t4 (i := 23) rfl rfl
theorem k_745 : (Jvm.Cond.laysFinal "BridgeNetModel" "BridgeNetModel" "role" "[I") ∈ bn_all := bn_t4 (i := 25) rfl rfl
theorem k_747 : (Jvm.Cond.laysFinal "BridgeNetModel" "BridgeNetModel" "state" "[I") ∈ bn_all := bn_t4 (i := 27) rfl rfl
theorem k_749 : (Jvm.Cond.laysFinal "BridgeNetModel" "BridgeNetModel" "proposing" "[Z") ∈ bn_all := bn_t4 (i := 29) rfl rfl
theorem k_751 : (Jvm.Cond.laysFinal "BridgeNetModel" "BridgeNetModel" "agreed" "[Z") ∈ bn_all := bn_t4 (i := 31) rfl rfl
theorem k_753 : (Jvm.Cond.laysFinal "BridgeNetModel" "BridgeNetModel" "waits" "[I") ∈ bn_all := bn_t4 (i := 33) rfl rfl
theorem k_755 : (Jvm.Cond.laysFinal "BridgeNetModel" "BridgeNetModel" "info" "[J") ∈ bn_all := bn_t4 (i := 35) rfl rfl
theorem k_757 : (Jvm.Cond.laysFinal "BridgeNetModel" "BridgeNetModel" "infoHops" "[I") ∈ bn_all := bn_t4 (i := 37) rfl rfl
theorem k_759 : (Jvm.Cond.laysFinal "BridgeNetModel" "BridgeNetModel" "life" "[I") ∈ bn_all := bn_t4 (i := 39) rfl rfl
theorem k_761 : (Jvm.Cond.laysFinal "BridgeNetModel" "BridgeNetModel" "lines" "[I") ∈ bn_all := bn_t4 (i := 41) rfl rfl
theorem k_763 : (Jvm.Cond.laysFinal "BridgeNetModel" "BridgeNetModel" "kind" "[I") ∈ bn_all := bn_t4 (i := 43) rfl rfl
theorem k_765 : (Jvm.Cond.laysFinal "BridgeNetModel" "BridgeNetModel" "told" "[J") ∈ bn_all := bn_t4 (i := 45) rfl rfl
theorem k_767 : (Jvm.Cond.laysFinal "BridgeNetModel" "BridgeNetModel" "hop" "[I") ∈ bn_all := bn_t4 (i := 47) rfl rfl
theorem k_769 : (Jvm.Cond.laysFinal "BridgeNetModel" "BridgeNetModel" "asks" "[Z") ∈ bn_all := bn_t4 (i := 49) rfl rfl
theorem k_771 : (Jvm.Cond.laysFinal "BridgeNetModel" "BridgeNetModel" "source" "[I") ∈ bn_all := bn_t4 (i := 51) rfl rfl
theorem k_773 : (Jvm.Cond.laysFinal "BridgeNetModel" "BridgeNetModel" "destination" "[I") ∈ bn_all := bn_t4 (i := 53) rfl rfl
theorem k_775 : (Jvm.Cond.laysFinal "BridgeNetModel" "BridgeNetModel" "vlan" "[I") ∈ bn_all := bn_t4 (i := 55) rfl rfl
theorem k_777 : (Jvm.Cond.laysFinal "BridgeNetModel" "BridgeNetModel" "value" "[I") ∈ bn_all := bn_t4 (i := 57) rfl rfl
theorem k_779 : (Jvm.Cond.laysFinal "BridgeNetModel" "BridgeNetModel" "best" "[J") ∈ bn_all := bn_t4 (i := 59) rfl rfl
theorem k_781 : (Jvm.Cond.laysFinal "BridgeNetModel" "BridgeNetModel" "hops" "[I") ∈ bn_all := bn_t4 (i := 61) rfl rfl
theorem k_783 : (Jvm.Cond.laysFinal "BridgeNetModel" "BridgeNetModel" "rootPort" "[I") ∈ bn_all := bn_t4 (i := 63) rfl rfl
theorem k_785 : (Jvm.Cond.laysFinal "BridgeNetModel" "BridgeNetModel" "known" "[I") ∈ bn_all := bn_t4 (i := 65) rfl rfl
theorem k_787 : (Jvm.Cond.laysFinal "BridgeNetModel" "BridgeNetModel" "behind" "[I") ∈ bn_all := bn_t4 (i := 67) rfl rfl
theorem k_789 : (Jvm.Cond.laysFinal "BridgeNetModel" "BridgeNetModel" "at" "[I") ∈ bn_all := bn_t4 (i := 69) rfl rfl
theorem k_791 : (Jvm.Cond.laysFinal "BridgeNetModel" "BridgeNetModel" "in" "[I") ∈ bn_all := bn_t4 (i := 71) rfl rfl
theorem k_793 : (Jvm.Cond.laysFinal "BridgeNetModel" "BridgeNetModel" "got" "[I") ∈ bn_all := bn_t4 (i := 73) rfl rfl
theorem k_795 : (Jvm.Cond.laysFinal "BridgeNetModel" "BridgeNetModel" "inbox" "[J") ∈ bn_all := bn_t4 (i := 75) rfl rfl
theorem k_798 : (Jvm.Cond.arrayClass Jvm.ClassFile.FieldType.boolean) ∈ bn_all := bn_t4 (i := 78) rfl rfl
theorem k_799 : (Jvm.Cond.methodLink "BridgeNetLaw" (55 : Nat) ({ cls := "BridgeNetModel", name := "thrown", desc := "()I" } : Jvm.MethodName)) ∈ bn_all := bn_t4 (i := 79) rfl rfl
theorem k_800 : (Jvm.Cond.instanceMethod ({ cls := "BridgeNetModel", name := "thrown", desc := "()I" } : Jvm.MethodName)) ∈ bn_all := bn_t4 (i := 80) rfl rfl
theorem k_801 : (Jvm.Cond.selects "BridgeNetModel" ({ cls := "BridgeNetModel", name := "thrown", desc := "()I" } : Jvm.MethodName) ({ cls := "BridgeNetModel", name := "thrown", desc := "()I" } : Jvm.MethodName)) ∈ bn_all := bn_t4 (i := 81) rfl rfl
theorem k_802 : (Jvm.Cond.code ({ cls := "BridgeNetModel", name := "thrown", desc := "()I" } : Jvm.MethodName) prog_10_method_2_code (1 : Nat) (Option.some Jvm.ClassFile.FieldType.int)) ∈ bn_all := bn_t4 (i := 82) rfl rfl
theorem k_803 : (Jvm.Cond.methodLink "BridgeNetLaw" (66 : Nat) ({ cls := "BridgeNetModel", name := "deliver", desc := "(II)I" } : Jvm.MethodName)) ∈ bn_all := bn_t4 (i := 83) rfl rfl
theorem k_804 : (Jvm.Cond.instanceMethod ({ cls := "BridgeNetModel", name := "deliver", desc := "(II)I" } : Jvm.MethodName)) ∈ bn_all := bn_t4 (i := 84) rfl rfl
theorem k_805 : (Jvm.Cond.selects "BridgeNetModel" ({ cls := "BridgeNetModel", name := "deliver", desc := "(II)I" } : Jvm.MethodName) ({ cls := "BridgeNetModel", name := "deliver", desc := "(II)I" } : Jvm.MethodName)) ∈ bn_all := bn_t4 (i := 85) rfl rfl
theorem k_806 : (Jvm.Cond.code ({ cls := "BridgeNetModel", name := "deliver", desc := "(II)I" } : Jvm.MethodName) prog_10_method_29_code (6 : Nat) (Option.some Jvm.ClassFile.FieldType.int)) ∈ bn_all := bn_t4 (i := 86) rfl rfl
theorem k_807 : (Jvm.Cond.methodLink "BridgeNetModel" (178 : Nat) ({ cls := "BridgeNetModel", name := "isPort", desc := "(II)Z" } : Jvm.MethodName)) ∈ bn_all := bn_t4 (i := 87) rfl rfl
theorem k_808 : (Jvm.Cond.static ({ cls := "BridgeNetModel", name := "isPort", desc := "(II)Z" } : Jvm.MethodName)) ∈ bn_all := bn_t4 (i := 88) rfl rfl
theorem k_809 : (Jvm.Cond.code ({ cls := "BridgeNetModel", name := "isPort", desc := "(II)Z" } : Jvm.MethodName) prog_10_method_5_code (2 : Nat) (Option.some Jvm.ClassFile.FieldType.boolean)) ∈ bn_all := bn_t4 (i := 89) rfl rfl
theorem k_810 : (Jvm.Cond.methodLink "BridgeNetModel" (112 : Nat) ({ cls := "BridgeNetModel", name := "isBridge", desc := "(I)Z" } : Jvm.MethodName)) ∈ bn_all := bn_t4 (i := 90) rfl rfl
theorem k_811 : (Jvm.Cond.static ({ cls := "BridgeNetModel", name := "isBridge", desc := "(I)Z" } : Jvm.MethodName)) ∈ bn_all := bn_t4 (i := 91) rfl rfl
theorem k_812 : (Jvm.Cond.code ({ cls := "BridgeNetModel", name := "isBridge", desc := "(I)Z" } : Jvm.MethodName) prog_10_method_4_code (1 : Nat) (Option.some Jvm.ClassFile.FieldType.boolean)) ∈ bn_all := bn_t4 (i := 92) rfl rfl
theorem k_813 : (Jvm.Cond.methodLink "BridgeNetModel" (181 : Nat) ({ cls := "BridgeNetModel", name := "raise", desc := "(I)I" } : Jvm.MethodName)) ∈ bn_all := bn_t4 (i := 93) rfl rfl
theorem k_815 : (Jvm.Cond.instanceMethod ({ cls := "BridgeNetModel", name := "raise", desc := "(I)I" } : Jvm.MethodName)) ∈ bn_all := bn_t4 (i := 95) rfl rfl
theorem k_816 : (Jvm.Cond.code ({ cls := "BridgeNetModel", name := "raise", desc := "(I)I" } : Jvm.MethodName) prog_10_method_3_code (2 : Nat) (Option.some Jvm.ClassFile.FieldType.int)) ∈ bn_all := bn_t4 (i := 96) rfl rfl
theorem k_817 : (Jvm.Cond.methodLink "BridgeNetModel" (184 : Nat) ({ cls := "BridgeNetModel", name := "shift", desc := "(I)V" } : Jvm.MethodName)) ∈ bn_all := bn_t4 (i := 97) rfl rfl
theorem k_819 : (Jvm.Cond.instanceMethod ({ cls := "BridgeNetModel", name := "shift", desc := "(I)V" } : Jvm.MethodName)) ∈ bn_all := bn_t4 (i := 99) rfl rfl
theorem k_820 : (Jvm.Cond.code ({ cls := "BridgeNetModel", name := "shift", desc := "(I)V" } : Jvm.MethodName) prog_10_method_17_code (3 : Nat) (Option.none : Option Jvm.ClassFile.FieldType)) ∈ bn_all := bn_t4 (i := 100) rfl rfl
theorem k_821 : (Jvm.Cond.methodLink "BridgeNetModel" (144 : Nat) ({ cls := "BridgeNetModel", name := "copy", desc := "(II)V" } : Jvm.MethodName)) ∈ bn_all := bn_t4 (i := 101) rfl rfl
theorem k_823 : (Jvm.Cond.instanceMethod ({ cls := "BridgeNetModel", name := "copy", desc := "(II)V" } : Jvm.MethodName)) ∈ bn_all := bn_t4 (i := 103) rfl rfl
theorem k_824 : (Jvm.Cond.code ({ cls := "BridgeNetModel", name := "copy", desc := "(II)V" } : Jvm.MethodName) prog_10_method_16_code (3 : Nat) (Option.none : Option Jvm.ClassFile.FieldType)) ∈ bn_all := bn_t4 (i := 104) rfl rfl
theorem k_825 : (Jvm.Cond.methodLink "BridgeNetModel" (187 : Nat) ({ cls := "BridgeNetModel", name := "toldOn", desc := "(I)V" } : Jvm.MethodName)) ∈ bn_all := bn_t4 (i := 105) rfl rfl
theorem k_827 : (Jvm.Cond.instanceMethod ({ cls := "BridgeNetModel", name := "toldOn", desc := "(I)V" } : Jvm.MethodName)) ∈ bn_all := bn_t4 (i := 107) rfl rfl
theorem k_828 : (Jvm.Cond.code ({ cls := "BridgeNetModel", name := "toldOn", desc := "(I)V" } : Jvm.MethodName) prog_10_method_23_code (2 : Nat) (Option.none : Option Jvm.ClassFile.FieldType)) ∈ bn_all := bn_t4 (i := 108) rfl rfl
theorem k_829 : (Jvm.Cond.methodLink "BridgeNetModel" (163 : Nat) ({ cls := "BridgeNetModel", name := "compute", desc := "(I)V" } : Jvm.MethodName)) ∈ bn_all := bn_t4 (i := 109) rfl rfl
theorem k_831 : (Jvm.Cond.instanceMethod ({ cls := "BridgeNetModel", name := "compute", desc := "(I)V" } : Jvm.MethodName)) ∈ bn_all := bn_t4 (i := 111) rfl rfl
theorem k_832 : (Jvm.Cond.code ({ cls := "BridgeNetModel", name := "compute", desc := "(I)V" } : Jvm.MethodName) prog_10_method_21_code (8 : Nat) (Option.none : Option Jvm.ClassFile.FieldType)) ∈ bn_all := bn_t4 (i := 112) rfl rfl
theorem k_833 : (Jvm.Cond.methodLink "BridgeNetModel" (118 : Nat) ({ cls := "BridgeNetModel", name := "rootOf", desc := "(J)I" } : Jvm.MethodName)) ∈ bn_all := bn_t4 (i := 113) rfl rfl
theorem k_834 : (Jvm.Cond.static ({ cls := "BridgeNetModel", name := "rootOf", desc := "(J)I" } : Jvm.MethodName)) ∈ bn_all := bn_t4 (i := 114) rfl rfl
theorem k_835 : (Jvm.Cond.code ({ cls := "BridgeNetModel", name := "rootOf", desc := "(J)I" } : Jvm.MethodName) prog_10_method_9_code (2 : Nat) (Option.some Jvm.ClassFile.FieldType.int)) ∈ bn_all := bn_t4 (i := 115) rfl rfl
theorem k_836 : (Jvm.Cond.methodLink "BridgeNetModel" (122 : Nat) ({ cls := "BridgeNetModel", name := "costOf", desc := "(J)I" } : Jvm.MethodName)) ∈ bn_all := bn_t4 (i := 116) rfl rfl
theorem k_837 : (Jvm.Cond.static ({ cls := "BridgeNetModel", name := "costOf", desc := "(J)I" } : Jvm.MethodName)) ∈ bn_all := bn_t4 (i := 117) rfl rfl
theorem k_838 : (Jvm.Cond.code ({ cls := "BridgeNetModel", name := "costOf", desc := "(J)I" } : Jvm.MethodName) prog_10_method_10_code (2 : Nat) (Option.some Jvm.ClassFile.FieldType.int)) ∈ bn_all := bn_t4 (i := 118) rfl rfl
theorem k_839 : (Jvm.Cond.constant "BridgeNetModel" (116 : Nat) (65535 : Int32)) ∈ bn_all := bn_t4 (i := 119) rfl rfl
theorem k_840 : (Jvm.Cond.methodLink "BridgeNetModel" (151 : Nat) ({ cls := "BridgeNetModel", name := "choose", desc := "(I)V" } : Jvm.MethodName)) ∈ bn_all := bn_t4 (i := 120) rfl rfl
theorem k_842 : (Jvm.Cond.instanceMethod ({ cls := "BridgeNetModel", name := "choose", desc := "(I)V" } : Jvm.MethodName)) ∈ bn_all := bn_t4 (i := 122) rfl rfl
theorem k_843 : (Jvm.Cond.code ({ cls := "BridgeNetModel", name := "choose", desc := "(I)V" } : Jvm.MethodName) prog_10_method_18_code (5 : Nat) (Option.none : Option Jvm.ClassFile.FieldType)) ∈ bn_all := bn_t4 (i := 123) rfl rfl
theorem k_844 : (Jvm.Cond.methodLink "BridgeNetModel" (125 : Nat) ({ cls := "BridgeNetModel", name := "id", desc := "(I)I" } : Jvm.MethodName)) ∈ bn_all := bn_t4 (i := 124) rfl rfl
theorem k_846 : (Jvm.Cond.instanceMethod ({ cls := "BridgeNetModel", name := "id", desc := "(I)I" } : Jvm.MethodName)) ∈ bn_all := bn_t4 (i := 126) rfl rfl
theorem k_847 : (Jvm.Cond.code ({ cls := "BridgeNetModel", name := "id", desc := "(I)I" } : Jvm.MethodName) prog_10_method_6_code (2 : Nat) (Option.some Jvm.ClassFile.FieldType.int)) ∈ bn_all := bn_t4 (i := 127) rfl rfl
theorem k_848 : (Jvm.Cond.methodLink "BridgeNetModel" (148 : Nat) ({ cls := "BridgeNetModel", name := "teller", desc := "(J)I" } : Jvm.MethodName)) ∈ bn_all := bn_t4 (i := 128) rfl rfl
theorem k_849 : (Jvm.Cond.static ({ cls := "BridgeNetModel", name := "teller", desc := "(J)I" } : Jvm.MethodName)) ∈ bn_all := bn_t4 (i := 129) rfl rfl
theorem k_850 : (Jvm.Cond.code ({ cls := "BridgeNetModel", name := "teller", desc := "(J)I" } : Jvm.MethodName) prog_10_method_11_code (2 : Nat) (Option.some Jvm.ClassFile.FieldType.int)) ∈ bn_all := bn_t4 (i := 130) rfl rfl
theorem k_851 : (Jvm.Cond.constant "BridgeNetModel" (117 : Nat) (16777215 : Int32)) ∈ bn_all := bn_t4 (i := 131) rfl rfl
theorem k_852 : (Jvm.Cond.methodLink "BridgeNetModel" (154 : Nat) ({ cls := "BridgeNetModel", name := "roleOf", desc := "(I)I" } : Jvm.MethodName)) ∈ bn_all := bn_t4 (i := 132) rfl rfl
theorem k_854 : (Jvm.Cond.instanceMethod ({ cls := "BridgeNetModel", name := "roleOf", desc := "(I)I" } : Jvm.MethodName)) ∈ bn_all := bn_t4 (i := 134) rfl rfl
theorem k_855 : (Jvm.Cond.code ({ cls := "BridgeNetModel", name := "roleOf", desc := "(I)I" } : Jvm.MethodName) prog_10_method_19_code (2 : Nat) (Option.some Jvm.ClassFile.FieldType.int)) ∈ bn_all := bn_t4 (i := 135) rfl rfl
theorem k_856 : (Jvm.Cond.methodLink "BridgeNetModel" (133 : Nat) ({ cls := "BridgeNetModel", name := "wouldTell", desc := "(I)J" } : Jvm.MethodName)) ∈ bn_all := bn_t4 (i := 136) rfl rfl
theorem k_858 : (Jvm.Cond.instanceMethod ({ cls := "BridgeNetModel", name := "wouldTell", desc := "(I)J" } : Jvm.MethodName)) ∈ bn_all := bn_t4 (i := 138) rfl rfl
theorem k_859 : (Jvm.Cond.code ({ cls := "BridgeNetModel", name := "wouldTell", desc := "(I)J" } : Jvm.MethodName) prog_10_method_12_code (3 : Nat) (Option.some Jvm.ClassFile.FieldType.long)) ∈ bn_all := bn_t4 (i := 139) rfl rfl
theorem k_860 : (Jvm.Cond.methodLink "BridgeNetModel" (157 : Nat) ({ cls := "BridgeNetModel", name := "take", desc := "(II)V" } : Jvm.MethodName)) ∈ bn_all := bn_t4 (i := 140) rfl rfl
theorem k_862 : (Jvm.Cond.instanceMethod ({ cls := "BridgeNetModel", name := "take", desc := "(II)V" } : Jvm.MethodName)) ∈ bn_all := bn_t4 (i := 142) rfl rfl
theorem k_863 : (Jvm.Cond.code ({ cls := "BridgeNetModel", name := "take", desc := "(II)V" } : Jvm.MethodName) prog_10_method_20_code (3 : Nat) (Option.none : Option Jvm.ClassFile.FieldType)) ∈ bn_all := bn_t4 (i := 143) rfl rfl
theorem k_864 : (Jvm.Cond.methodLink "BridgeNetModel" (137 : Nat) ({ cls := "BridgeNetModel", name := "isLinked", desc := "(I)Z" } : Jvm.MethodName)) ∈ bn_all := bn_t4 (i := 144) rfl rfl
theorem k_866 : (Jvm.Cond.instanceMethod ({ cls := "BridgeNetModel", name := "isLinked", desc := "(I)Z" } : Jvm.MethodName)) ∈ bn_all := bn_t4 (i := 146) rfl rfl
theorem k_867 : (Jvm.Cond.code ({ cls := "BridgeNetModel", name := "isLinked", desc := "(I)Z" } : Jvm.MethodName) prog_10_method_7_code (2 : Nat) (Option.some Jvm.ClassFile.FieldType.boolean)) ∈ bn_all := bn_t4 (i := 147) rfl rfl
theorem k_868 : (Jvm.Cond.methodLink "BridgeNetModel" (160 : Nat) ({ cls := "BridgeNetModel", name := "tellAll", desc := "(I)V" } : Jvm.MethodName)) ∈ bn_all := bn_t4 (i := 148) rfl rfl
theorem k_870 : (Jvm.Cond.instanceMethod ({ cls := "BridgeNetModel", name := "tellAll", desc := "(I)V" } : Jvm.MethodName)) ∈ bn_all := bn_t4 (i := 150) rfl rfl
theorem k_871 : (Jvm.Cond.code ({ cls := "BridgeNetModel", name := "tellAll", desc := "(I)V" } : Jvm.MethodName) prog_10_method_15_code (3 : Nat) (Option.none : Option Jvm.ClassFile.FieldType)) ∈ bn_all := bn_t4 (i := 151) rfl rfl
theorem k_872 : (Jvm.Cond.methodLink "BridgeNetModel" (140 : Nat) ({ cls := "BridgeNetModel", name := "tell", desc := "(I)V" } : Jvm.MethodName)) ∈ bn_all := bn_t4 (i := 152) rfl rfl
theorem k_874 : (Jvm.Cond.instanceMethod ({ cls := "BridgeNetModel", name := "tell", desc := "(I)V" } : Jvm.MethodName)) ∈ bn_all := bn_t4 (i := 154) rfl rfl
theorem k_875 : (Jvm.Cond.code ({ cls := "BridgeNetModel", name := "tell", desc := "(I)V" } : Jvm.MethodName) prog_10_method_14_code (3 : Nat) (Option.none : Option Jvm.ClassFile.FieldType)) ∈ bn_all := bn_t4 (i := 155) rfl rfl
theorem k_876 : (Jvm.Cond.methodLink "BridgeNetModel" (129 : Nat) ({ cls := "BridgeNetModel", name := "post", desc := "(II)I" } : Jvm.MethodName)) ∈ bn_all := bn_t4 (i := 156) rfl rfl
theorem k_878 : (Jvm.Cond.instanceMethod ({ cls := "BridgeNetModel", name := "post", desc := "(II)I" } : Jvm.MethodName)) ∈ bn_all := bn_t4 (i := 158) rfl rfl
theorem k_879 : (Jvm.Cond.code ({ cls := "BridgeNetModel", name := "post", desc := "(II)I" } : Jvm.MethodName) prog_10_method_13_code (5 : Nat) (Option.some Jvm.ClassFile.FieldType.int)) ∈ bn_all := bn_t4 (i := 159) rfl rfl
theorem k_880 : (Jvm.Cond.methodLink "BridgeNetModel" (166 : Nat) ({ cls := "BridgeNetModel", name := "agree", desc := "(I)V" } : Jvm.MethodName)) ∈ bn_all := bn_t4 (i := 160) rfl rfl
theorem k_882 : (Jvm.Cond.instanceMethod ({ cls := "BridgeNetModel", name := "agree", desc := "(I)V" } : Jvm.MethodName)) ∈ bn_all := bn_t4 (i := 162) rfl rfl
theorem k_883 : (Jvm.Cond.code ({ cls := "BridgeNetModel", name := "agree", desc := "(I)V" } : Jvm.MethodName) prog_10_method_24_code (4 : Nat) (Option.none : Option Jvm.ClassFile.FieldType)) ∈ bn_all := bn_t4 (i := 163) rfl rfl
theorem k_884 : (Jvm.Cond.methodLink "BridgeNetModel" (190 : Nat) ({ cls := "BridgeNetModel", name := "agreedOn", desc := "(I)V" } : Jvm.MethodName)) ∈ bn_all := bn_t4 (i := 164) rfl rfl
theorem k_886 : (Jvm.Cond.instanceMethod ({ cls := "BridgeNetModel", name := "agreedOn", desc := "(I)V" } : Jvm.MethodName)) ∈ bn_all := bn_t4 (i := 166) rfl rfl
theorem k_887 : (Jvm.Cond.code ({ cls := "BridgeNetModel", name := "agreedOn", desc := "(I)V" } : Jvm.MethodName) prog_10_method_25_code (2 : Nat) (Option.none : Option Jvm.ClassFile.FieldType)) ∈ bn_all := bn_t4 (i := 167) rfl rfl
theorem k_888 : (Jvm.Cond.methodLink "BridgeNetModel" (193 : Nat) ({ cls := "BridgeNetModel", name := "frame", desc := "(I)I" } : Jvm.MethodName)) ∈ bn_all := bn_t4 (i := 168) rfl rfl
theorem k_890 : (Jvm.Cond.instanceMethod ({ cls := "BridgeNetModel", name := "frame", desc := "(I)I" } : Jvm.MethodName)) ∈ bn_all := bn_t4 (i := 170) rfl rfl
theorem k_891 : (Jvm.Cond.code ({ cls := "BridgeNetModel", name := "frame", desc := "(I)I" } : Jvm.MethodName) prog_10_method_28_code (11 : Nat) (Option.some Jvm.ClassFile.FieldType.int)) ∈ bn_all := bn_t4 (i := 171) rfl rfl
theorem k_892 : (Jvm.Cond.methodLink "BridgeNetModel" (169 : Nat) ({ cls := "BridgeNetModel", name := "has", desc := "(II)Z" } : Jvm.MethodName)) ∈ bn_all := bn_t4 (i := 172) rfl rfl
theorem k_894 : (Jvm.Cond.instanceMethod ({ cls := "BridgeNetModel", name := "has", desc := "(II)Z" } : Jvm.MethodName)) ∈ bn_all := bn_t4 (i := 174) rfl rfl
theorem k_895 : (Jvm.Cond.code ({ cls := "BridgeNetModel", name := "has", desc := "(II)Z" } : Jvm.MethodName) prog_10_method_26_code (3 : Nat) (Option.some Jvm.ClassFile.FieldType.boolean)) ∈ bn_all := bn_t4 (i := 175) rfl rfl
theorem k_896 : (Jvm.Cond.methodLink "BridgeNetModel" (175 : Nat) ({ cls := "BridgeNetModel", name := "out", desc := "(I)I" } : Jvm.MethodName)) ∈ bn_all := bn_t4 (i := 176) rfl rfl
theorem k_898 : (Jvm.Cond.instanceMethod ({ cls := "BridgeNetModel", name := "out", desc := "(I)I" } : Jvm.MethodName)) ∈ bn_all := bn_t4 (i := 178) rfl rfl
theorem k_899 : (Jvm.Cond.code ({ cls := "BridgeNetModel", name := "out", desc := "(I)I" } : Jvm.MethodName) prog_10_method_27_code (4 : Nat) (Option.some Jvm.ClassFile.FieldType.int)) ∈ bn_all := bn_t4 (i := 179) rfl rfl
theorem k_900 : (Jvm.Cond.constantLong "BridgeNetModel" (173 : Nat) (4294967295 : Int64)) ∈ bn_all := bn_t4 (i := 180) rfl rfl
theorem k_901 : (Jvm.Cond.methodLink "BridgeNetLaw" (70 : Nat) ({ cls := "BridgeNetModel", name := "lose", desc := "(II)Z" } : Jvm.MethodName)) ∈ bn_all := bn_t4 (i := 181) rfl rfl
theorem k_902 : (Jvm.Cond.instanceMethod ({ cls := "BridgeNetModel", name := "lose", desc := "(II)Z" } : Jvm.MethodName)) ∈ bn_all := bn_t4 (i := 182) rfl rfl
theorem k_903 : (Jvm.Cond.selects "BridgeNetModel" ({ cls := "BridgeNetModel", name := "lose", desc := "(II)Z" } : Jvm.MethodName) ({ cls := "BridgeNetModel", name := "lose", desc := "(II)Z" } : Jvm.MethodName)) ∈ bn_all := bn_t4 (i := 183) rfl rfl
theorem k_904 : (Jvm.Cond.code ({ cls := "BridgeNetModel", name := "lose", desc := "(II)Z" } : Jvm.MethodName) prog_10_method_30_code (3 : Nat) (Option.some Jvm.ClassFile.FieldType.boolean)) ∈ bn_all := bn_t4 (i := 184) rfl rfl
theorem k_905 : (Jvm.Cond.methodLink "BridgeNetLaw" (74 : Nat) ({ cls := "BridgeNetModel", name := "tick", desc := "()V" } : Jvm.MethodName)) ∈ bn_all := bn_t4 (i := 185) rfl rfl
theorem k_906 : (Jvm.Cond.instanceMethod ({ cls := "BridgeNetModel", name := "tick", desc := "()V" } : Jvm.MethodName)) ∈ bn_all := bn_t4 (i := 186) rfl rfl
theorem k_907 : (Jvm.Cond.selects "BridgeNetModel" ({ cls := "BridgeNetModel", name := "tick", desc := "()V" } : Jvm.MethodName) ({ cls := "BridgeNetModel", name := "tick", desc := "()V" } : Jvm.MethodName)) ∈ bn_all := bn_t4 (i := 187) rfl rfl
theorem k_908 : (Jvm.Cond.code ({ cls := "BridgeNetModel", name := "tick", desc := "()V" } : Jvm.MethodName) prog_10_method_32_code (2 : Nat) (Option.none : Option Jvm.ClassFile.FieldType)) ∈ bn_all := bn_t4 (i := 188) rfl rfl
theorem k_909 : (Jvm.Cond.methodLink "BridgeNetModel" (199 : Nat) ({ cls := "BridgeNetModel", name := "ageOf", desc := "(I)V" } : Jvm.MethodName)) ∈ bn_all := bn_t4 (i := 189) rfl rfl
theorem k_911 : (Jvm.Cond.instanceMethod ({ cls := "BridgeNetModel", name := "ageOf", desc := "(I)V" } : Jvm.MethodName)) ∈ bn_all := bn_t4 (i := 191) rfl rfl
theorem k_912 : (Jvm.Cond.code ({ cls := "BridgeNetModel", name := "ageOf", desc := "(I)V" } : Jvm.MethodName) prog_10_method_31_code (3 : Nat) (Option.none : Option Jvm.ClassFile.FieldType)) ∈ bn_all := bn_t4 (i := 192) rfl rfl
theorem k_913 : (Jvm.Cond.methodLink "BridgeNetLaw" (35 : Nat) ({ cls := "BridgeNetModel", name := "priority", desc := "(II)Z" } : Jvm.MethodName)) ∈ bn_all := bn_t4 (i := 193) rfl rfl
theorem k_914 : (Jvm.Cond.instanceMethod ({ cls := "BridgeNetModel", name := "priority", desc := "(II)Z" } : Jvm.MethodName)) ∈ bn_all := bn_t4 (i := 194) rfl rfl
theorem k_915 : (Jvm.Cond.selects "BridgeNetModel" ({ cls := "BridgeNetModel", name := "priority", desc := "(II)Z" } : Jvm.MethodName) ({ cls := "BridgeNetModel", name := "priority", desc := "(II)Z" } : Jvm.MethodName)) ∈ bn_all := bn_t4 (i := 195) rfl rfl
theorem k_916 : (Jvm.Cond.code ({ cls := "BridgeNetModel", name := "priority", desc := "(II)Z" } : Jvm.MethodName) prog_10_method_33_code (4 : Nat) (Option.some Jvm.ClassFile.FieldType.boolean)) ∈ bn_all := bn_t4 (i := 196) rfl rfl
theorem k_917 : (Jvm.Cond.methodLink "BridgeNetLaw" (40 : Nat) ({ cls := "BridgeNetModel", name := "set", desc := "(IIII)Z" } : Jvm.MethodName)) ∈ bn_all := bn_t4 (i := 197) rfl rfl
theorem k_918 : (Jvm.Cond.instanceMethod ({ cls := "BridgeNetModel", name := "set", desc := "(IIII)Z" } : Jvm.MethodName)) ∈ bn_all := bn_t4 (i := 198) rfl rfl
theorem k_919 : (Jvm.Cond.selects "BridgeNetModel" ({ cls := "BridgeNetModel", name := "set", desc := "(IIII)Z" } : Jvm.MethodName) ({ cls := "BridgeNetModel", name := "set", desc := "(IIII)Z" } : Jvm.MethodName)) ∈ bn_all := bn_t4 (i := 199) rfl rfl
theorem k_920 : (Jvm.Cond.code ({ cls := "BridgeNetModel", name := "set", desc := "(IIII)Z" } : Jvm.MethodName) prog_10_method_34_code (5 : Nat) (Option.some Jvm.ClassFile.FieldType.boolean)) ∈ bn_all := bn_t4 (i := 200) rfl rfl
theorem k_921 : (Jvm.Cond.methodLink "BridgeNetLaw" (44 : Nat) ({ cls := "BridgeNetModel", name := "link", desc := "(IIII)Z" } : Jvm.MethodName)) ∈ bn_all := bn_t4 (i := 201) rfl rfl
theorem k_922 : (Jvm.Cond.instanceMethod ({ cls := "BridgeNetModel", name := "link", desc := "(IIII)Z" } : Jvm.MethodName)) ∈ bn_all := bn_t4 (i := 202) rfl rfl
theorem k_923 : (Jvm.Cond.selects "BridgeNetModel" ({ cls := "BridgeNetModel", name := "link", desc := "(IIII)Z" } : Jvm.MethodName) ({ cls := "BridgeNetModel", name := "link", desc := "(IIII)Z" } : Jvm.MethodName)) ∈ bn_all := bn_t4 (i := 203) rfl rfl
theorem k_924 : (Jvm.Cond.code ({ cls := "BridgeNetModel", name := "link", desc := "(IIII)Z" } : Jvm.MethodName) prog_10_method_35_code (5 : Nat) (Option.some Jvm.ClassFile.FieldType.boolean)) ∈ bn_all := bn_t4 (i := 204) rfl rfl
theorem k_925 : (Jvm.Cond.methodLink "BridgeNetModel" (202 : Nat) ({ cls := "BridgeNetModel", name := "clear", desc := "(I)V" } : Jvm.MethodName)) ∈ bn_all := bn_t4 (i := 205) rfl rfl
theorem k_927 : (Jvm.Cond.instanceMethod ({ cls := "BridgeNetModel", name := "clear", desc := "(I)V" } : Jvm.MethodName)) ∈ bn_all := bn_t4 (i := 207) rfl rfl
theorem k_928 : (Jvm.Cond.code ({ cls := "BridgeNetModel", name := "clear", desc := "(I)V" } : Jvm.MethodName) prog_10_method_22_code (3 : Nat) (Option.none : Option Jvm.ClassFile.FieldType)) ∈ bn_all := bn_t4 (i := 208) rfl rfl
theorem k_929 : (Jvm.Cond.methodLink "BridgeNetLaw" (48 : Nat) ({ cls := "BridgeNetModel", name := "cut", desc := "(II)Z" } : Jvm.MethodName)) ∈ bn_all := bn_t4 (i := 209) rfl rfl
theorem k_930 : (Jvm.Cond.instanceMethod ({ cls := "BridgeNetModel", name := "cut", desc := "(II)Z" } : Jvm.MethodName)) ∈ bn_all := bn_t4 (i := 210) rfl rfl
theorem k_931 : (Jvm.Cond.selects "BridgeNetModel" ({ cls := "BridgeNetModel", name := "cut", desc := "(II)Z" } : Jvm.MethodName) ({ cls := "BridgeNetModel", name := "cut", desc := "(II)Z" } : Jvm.MethodName)) ∈ bn_all := bn_t4 (i := 211) rfl rfl
theorem k_932 : (Jvm.Cond.code ({ cls := "BridgeNetModel", name := "cut", desc := "(II)Z" } : Jvm.MethodName) prog_10_method_36_code (5 : Nat) (Option.some Jvm.ClassFile.FieldType.boolean)) ∈ bn_all := bn_t4 (i := 212) rfl rfl
theorem k_933 : (Jvm.Cond.methodLink "BridgeNetLaw" (54 : Nat) ({ cls := "BridgeNetModel", name := "attach", desc := "(IIII)V" } : Jvm.MethodName)) ∈ bn_all := bn_t4 (i := 213) rfl rfl
theorem k_934 : (Jvm.Cond.instanceMethod ({ cls := "BridgeNetModel", name := "attach", desc := "(IIII)V" } : Jvm.MethodName)) ∈ bn_all := bn_t4 (i := 214) rfl rfl
theorem k_935 : (Jvm.Cond.selects "BridgeNetModel" ({ cls := "BridgeNetModel", name := "attach", desc := "(IIII)V" } : Jvm.MethodName) ({ cls := "BridgeNetModel", name := "attach", desc := "(IIII)V" } : Jvm.MethodName)) ∈ bn_all := bn_t4 (i := 215) rfl rfl
theorem k_936 : (Jvm.Cond.code ({ cls := "BridgeNetModel", name := "attach", desc := "(IIII)V" } : Jvm.MethodName) prog_10_method_37_code (7 : Nat) (Option.none : Option Jvm.ClassFile.FieldType)) ∈ bn_all := bn_t4 (i := 216) rfl rfl
theorem k_937 : (Jvm.Cond.methodLink "BridgeNetLaw" (62 : Nat) ({ cls := "BridgeNetModel", name := "send", desc := "(III)I" } : Jvm.MethodName)) ∈ bn_all := bn_t4 (i := 217) rfl rfl
theorem k_938 : (Jvm.Cond.instanceMethod ({ cls := "BridgeNetModel", name := "send", desc := "(III)I" } : Jvm.MethodName)) ∈ bn_all := bn_t4 (i := 218) rfl rfl
theorem k_939 : (Jvm.Cond.selects "BridgeNetModel" ({ cls := "BridgeNetModel", name := "send", desc := "(III)I" } : Jvm.MethodName) ({ cls := "BridgeNetModel", name := "send", desc := "(III)I" } : Jvm.MethodName)) ∈ bn_all := bn_t4 (i := 219) rfl rfl
theorem k_940 : (Jvm.Cond.code ({ cls := "BridgeNetModel", name := "send", desc := "(III)I" } : Jvm.MethodName) prog_10_method_38_code (4 : Nat) (Option.some Jvm.ClassFile.FieldType.int)) ∈ bn_all := bn_t4 (i := 220) rfl rfl
theorem k_941 : (Jvm.Cond.methodLink "BridgeNetLaw" (78 : Nat) ({ cls := "BridgeNetModel", name := "port", desc := "(II)I" } : Jvm.MethodName)) ∈ bn_all := bn_t4 (i := 221) rfl rfl
theorem k_942 : (Jvm.Cond.instanceMethod ({ cls := "BridgeNetModel", name := "port", desc := "(II)I" } : Jvm.MethodName)) ∈ bn_all := bn_t4 (i := 222) rfl rfl
theorem k_943 : (Jvm.Cond.selects "BridgeNetModel" ({ cls := "BridgeNetModel", name := "port", desc := "(II)I" } : Jvm.MethodName) ({ cls := "BridgeNetModel", name := "port", desc := "(II)I" } : Jvm.MethodName)) ∈ bn_all := bn_t4 (i := 223) rfl rfl
theorem k_944 : (Jvm.Cond.code ({ cls := "BridgeNetModel", name := "port", desc := "(II)I" } : Jvm.MethodName) prog_10_method_39_code (4 : Nat) (Option.some Jvm.ClassFile.FieldType.int)) ∈ bn_all := bn_t4 (i := 224) rfl rfl
theorem k_945 : (Jvm.Cond.methodLink "BridgeNetLaw" (83 : Nat) ({ cls := "BridgeNetModel", name := "root", desc := "(I)J" } : Jvm.MethodName)) ∈ bn_all := bn_t4 (i := 225) rfl rfl
theorem k_946 : (Jvm.Cond.instanceMethod ({ cls := "BridgeNetModel", name := "root", desc := "(I)J" } : Jvm.MethodName)) ∈ bn_all := bn_t4 (i := 226) rfl rfl
theorem k_947 : (Jvm.Cond.selects "BridgeNetModel" ({ cls := "BridgeNetModel", name := "root", desc := "(I)J" } : Jvm.MethodName) ({ cls := "BridgeNetModel", name := "root", desc := "(I)J" } : Jvm.MethodName)) ∈ bn_all := bn_t4 (i := 227) rfl rfl
theorem k_948 : (Jvm.Cond.code ({ cls := "BridgeNetModel", name := "root", desc := "(I)J" } : Jvm.MethodName) prog_10_method_40_code (2 : Nat) (Option.some Jvm.ClassFile.FieldType.long)) ∈ bn_all := bn_t4 (i := 228) rfl rfl
theorem k_949 : (Jvm.Cond.constantLong "BridgeNetModel" (205 : Nat) (256 : Int64)) ∈ bn_all := bn_t4 (i := 229) rfl rfl
theorem k_950 : (Jvm.Cond.constantLong "BridgeNetModel" (207 : Nat) (16777216 : Int64)) ∈ bn_all := bn_t4 (i := 230) rfl rfl
theorem k_951 : (Jvm.Cond.constantLong "BridgeNetModel" (209 : Nat) (-1 : Int64)) ∈ bn_all := bn_t4 (i := 231) rfl rfl
theorem k_952 : (Jvm.Cond.methodLink "BridgeNetLaw" (88 : Nat) ({ cls := "BridgeNetModel", name := "info", desc := "(II)J" } : Jvm.MethodName)) ∈ bn_all := bn_t4 (i := 232) rfl rfl
theorem k_953 : (Jvm.Cond.instanceMethod ({ cls := "BridgeNetModel", name := "info", desc := "(II)J" } : Jvm.MethodName)) ∈ bn_all := bn_t4 (i := 233) rfl rfl
theorem k_954 : (Jvm.Cond.selects "BridgeNetModel" ({ cls := "BridgeNetModel", name := "info", desc := "(II)J" } : Jvm.MethodName) ({ cls := "BridgeNetModel", name := "info", desc := "(II)J" } : Jvm.MethodName)) ∈ bn_all := bn_t4 (i := 234) rfl rfl
theorem k_955 : (Jvm.Cond.code ({ cls := "BridgeNetModel", name := "info", desc := "(II)J" } : Jvm.MethodName) prog_10_method_41_code (8 : Nat) (Option.some Jvm.ClassFile.FieldType.long)) ∈ bn_all := bn_t4 (i := 235) rfl rfl
theorem k_956 : (Jvm.Cond.constantLong "BridgeNetModel" (211 : Nat) (255 : Int64)) ∈ bn_all := bn_t4 (i := 236) rfl rfl
theorem k_957 : (Jvm.Cond.methodLink "BridgeNetLaw" (92 : Nat) ({ cls := "BridgeNetModel", name := "learned", desc := "(III)I" } : Jvm.MethodName)) ∈ bn_all := bn_t4 (i := 237) rfl rfl
theorem k_958 : (Jvm.Cond.instanceMethod ({ cls := "BridgeNetModel", name := "learned", desc := "(III)I" } : Jvm.MethodName)) ∈ bn_all := bn_t4 (i := 238) rfl rfl
theorem k_959 : (Jvm.Cond.selects "BridgeNetModel" ({ cls := "BridgeNetModel", name := "learned", desc := "(III)I" } : Jvm.MethodName) ({ cls := "BridgeNetModel", name := "learned", desc := "(III)I" } : Jvm.MethodName)) ∈ bn_all := bn_t4 (i := 239) rfl rfl
theorem k_960 : (Jvm.Cond.code ({ cls := "BridgeNetModel", name := "learned", desc := "(III)I" } : Jvm.MethodName) prog_10_method_42_code (5 : Nat) (Option.some Jvm.ClassFile.FieldType.int)) ∈ bn_all := bn_t5 (i := 0) rfl rfl
theorem k_961 : (Jvm.Cond.methodLink "BridgeNetLaw" (96 : Nat) ({ cls := "BridgeNetModel", name := "inbox", desc := "(II)J" } : Jvm.MethodName)) ∈ bn_all := bn_t5 (i := 1) rfl rfl
theorem k_962 : (Jvm.Cond.instanceMethod ({ cls := "BridgeNetModel", name := "inbox", desc := "(II)J" } : Jvm.MethodName)) ∈ bn_all := bn_t5 (i := 2) rfl rfl
theorem k_963 : (Jvm.Cond.selects "BridgeNetModel" ({ cls := "BridgeNetModel", name := "inbox", desc := "(II)J" } : Jvm.MethodName) ({ cls := "BridgeNetModel", name := "inbox", desc := "(II)J" } : Jvm.MethodName)) ∈ bn_all := bn_t5 (i := 3) rfl rfl
theorem k_964 : (Jvm.Cond.code ({ cls := "BridgeNetModel", name := "inbox", desc := "(II)J" } : Jvm.MethodName) prog_10_method_43_code (3 : Nat) (Option.some Jvm.ClassFile.FieldType.long)) ∈ bn_all := bn_t5 (i := 4) rfl rfl
theorem k_965 : (Jvm.Cond.methodLink "BridgeNetLaw" (100 : Nat) ({ cls := "BridgeNetModel", name := "line", desc := "(II)I" } : Jvm.MethodName)) ∈ bn_all := bn_t5 (i := 5) rfl rfl
theorem k_966 : (Jvm.Cond.instanceMethod ({ cls := "BridgeNetModel", name := "line", desc := "(II)I" } : Jvm.MethodName)) ∈ bn_all := bn_t5 (i := 6) rfl rfl
theorem k_967 : (Jvm.Cond.selects "BridgeNetModel" ({ cls := "BridgeNetModel", name := "line", desc := "(II)I" } : Jvm.MethodName) ({ cls := "BridgeNetModel", name := "line", desc := "(II)I" } : Jvm.MethodName)) ∈ bn_all := bn_t5 (i := 7) rfl rfl
theorem k_968 : (Jvm.Cond.code ({ cls := "BridgeNetModel", name := "line", desc := "(II)I" } : Jvm.MethodName) prog_10_method_44_code (3 : Nat) (Option.some Jvm.ClassFile.FieldType.int)) ∈ bn_all := bn_t5 (i := 8) rfl rfl
theorem k_969 : (Jvm.Cond.methodLink "BridgeNetLaw" (105 : Nat) ({ cls := "BridgeNetModel", name := "message", desc := "(III)J" } : Jvm.MethodName)) ∈ bn_all := bn_t5 (i := 9) rfl rfl
theorem k_970 : (Jvm.Cond.instanceMethod ({ cls := "BridgeNetModel", name := "message", desc := "(III)J" } : Jvm.MethodName)) ∈ bn_all := bn_t5 (i := 10) rfl rfl
theorem k_971 : (Jvm.Cond.selects "BridgeNetModel" ({ cls := "BridgeNetModel", name := "message", desc := "(III)J" } : Jvm.MethodName) ({ cls := "BridgeNetModel", name := "message", desc := "(III)J" } : Jvm.MethodName)) ∈ bn_all := bn_t5 (i := 11) rfl rfl
theorem k_972 : (Jvm.Cond.code ({ cls := "BridgeNetModel", name := "message", desc := "(III)J" } : Jvm.MethodName) prog_10_method_45_code (5 : Nat) (Option.some Jvm.ClassFile.FieldType.long)) ∈ bn_all := bn_t5 (i := 12) rfl rfl
theorem k_973 : (Jvm.Cond.constantLong "BridgeNetModel" (213 : Nat) (3 : Int64)) ∈ bn_all := bn_t5 (i := 13) rfl rfl
theorem k_974 : (Jvm.Cond.constantLong "BridgeNetModel" (215 : Nat) (16 : Int64)) ∈ bn_all := bn_t5 (i := 14) rfl rfl
end
section
/-! names: classes and methods: written by wip/whole/emit_names.py -/
abbrev R_Ne : String := "BridgeNet"
def T_Ne : u_T := fun k => match k with
  | 0 => ("BridgeNet", "bridges", "[LBridgeNet$Bridge;", true)
  | 1 => ("BridgeNet", "stations", "[LBridgeNet$Station;", true)
  | _ => ("BridgeNet", "tellsAtNextTick", "Z", false)
def t_Ne : Nat → FieldType := fun k => match k with
  | 0 => .array (.object "BridgeNet$Bridge")
  | 1 => .array (.object "BridgeNet$Station")
  | _ => .boolean
theorem n_Ne : ∀ a, a < 3 → ∀ b, b < 3 → a ≠ b → (T_Ne a).2.1 ≠ (T_Ne b).2.1 := by decide +kernel
theorem t_Ne_ok : ∀ k, k < 3 → parseFieldDescriptor (T_Ne k).2.2.1 = some (t_Ne k) := by decide +kernel
theorem i_Ne : ∀ w ∈ u_ws R_Ne T_Ne 3, w ∈ bn_all := List.forall_mem_cons.mpr ⟨k_222, List.forall_mem_cons.mpr ⟨k_224, List.forall_mem_cons.mpr ⟨k_226, fun _ h => absurd h List.not_mem_nil⟩⟩⟩
abbrev R_Br : String := "BridgeNet$Bridge"
def T_Br : u_T := fun k => match k with
  | 0 => ("BridgeNet$Bridge", "number", "I", true)
  | 1 => ("BridgeNet$Bridge", "id", "I", false)
  | 2 => ("BridgeNet$Bridge", "ports", "[LBridgeNet$Port;", true)
  | 3 => ("BridgeNet$Bridge", "root", "I", false)
  | 4 => ("BridgeNet$Bridge", "cost", "I", false)
  | 5 => ("BridgeNet$Bridge", "hops", "I", false)
  | 6 => ("BridgeNet$Bridge", "rootPort", "LBridgeNet$Port;", false)
  | 7 => ("BridgeNet$Bridge", "places", "[I", true)
  | _ => ("BridgeNet$Bridge", "placeLives", "[I", true)
def t_Br : Nat → FieldType := fun k => match k with
  | 0 => .int
  | 1 => .int
  | 2 => .array (.object "BridgeNet$Port")
  | 3 => .int
  | 4 => .int
  | 5 => .int
  | 6 => .object "BridgeNet$Port"
  | 7 => .array .int
  | _ => .array .int
theorem n_Br : ∀ a, a < 9 → ∀ b, b < 9 → a ≠ b → (T_Br a).2.1 ≠ (T_Br b).2.1 := by decide +kernel
theorem t_Br_ok : ∀ k, k < 9 → parseFieldDescriptor (T_Br k).2.2.1 = some (t_Br k) := by decide +kernel
theorem i_Br : ∀ w ∈ u_ws R_Br T_Br 9, w ∈ bn_all := List.forall_mem_cons.mpr ⟨k_46, List.forall_mem_cons.mpr ⟨k_48, List.forall_mem_cons.mpr ⟨k_50, List.forall_mem_cons.mpr ⟨k_52, List.forall_mem_cons.mpr ⟨k_54, List.forall_mem_cons.mpr ⟨k_56, List.forall_mem_cons.mpr ⟨k_58, List.forall_mem_cons.mpr ⟨k_60, List.forall_mem_cons.mpr ⟨k_62, fun _ h => absurd h List.not_mem_nil⟩⟩⟩⟩⟩⟩⟩⟩⟩
abbrev R_Po : String := "BridgeNet$Port"
def T_Po : u_T := fun k => match k with
  | 0 => ("BridgeNet$Port", "owner", "LBridgeNet$Bridge;", true)
  | 1 => ("BridgeNet$Port", "number", "I", true)
  | 2 => ("BridgeNet$Port", "line", "LBridgeNet$Line;", true)
  | 3 => ("BridgeNet$Port", "cost", "I", false)
  | 4 => ("BridgeNet$Port", "vlans", "I", false)
  | 5 => ("BridgeNet$Port", "peer", "LBridgeNet$Port;", false)
  | 6 => ("BridgeNet$Port", "station", "LBridgeNet$Station;", false)
  | 7 => ("BridgeNet$Port", "hasInfo", "Z", false)
  | 8 => ("BridgeNet$Port", "info", "J", false)
  | 9 => ("BridgeNet$Port", "infoHops", "I", false)
  | 10 => ("BridgeNet$Port", "infoLife", "I", false)
  | 11 => ("BridgeNet$Port", "role", "I", false)
  | 12 => ("BridgeNet$Port", "state", "I", false)
  | 13 => ("BridgeNet$Port", "proposing", "Z", false)
  | 14 => ("BridgeNet$Port", "agreed", "Z", false)
  | _ => ("BridgeNet$Port", "waits", "I", false)
def t_Po : Nat → FieldType := fun k => match k with
  | 0 => .object "BridgeNet$Bridge"
  | 1 => .int
  | 2 => .object "BridgeNet$Line"
  | 3 => .int
  | 4 => .int
  | 5 => .object "BridgeNet$Port"
  | 6 => .object "BridgeNet$Station"
  | 7 => .boolean
  | 8 => .long
  | 9 => .int
  | 10 => .int
  | 11 => .int
  | 12 => .int
  | 13 => .boolean
  | 14 => .boolean
  | _ => .int
theorem n_Po : ∀ a, a < 16 → ∀ b, b < 16 → a ≠ b → (T_Po a).2.1 ≠ (T_Po b).2.1 := by decide +kernel
theorem t_Po_ok : ∀ k, k < 16 → parseFieldDescriptor (T_Po k).2.2.1 = some (t_Po k) := by decide +kernel
theorem i_Po : ∀ w ∈ u_ws R_Po T_Po 16, w ∈ bn_all := List.forall_mem_cons.mpr ⟨k_163, List.forall_mem_cons.mpr ⟨k_165, List.forall_mem_cons.mpr ⟨k_167, List.forall_mem_cons.mpr ⟨k_169, List.forall_mem_cons.mpr ⟨k_171, List.forall_mem_cons.mpr ⟨k_173, List.forall_mem_cons.mpr ⟨k_175, List.forall_mem_cons.mpr ⟨k_177, List.forall_mem_cons.mpr ⟨k_179, List.forall_mem_cons.mpr ⟨k_181, List.forall_mem_cons.mpr ⟨k_183, List.forall_mem_cons.mpr ⟨k_185, List.forall_mem_cons.mpr ⟨k_187, List.forall_mem_cons.mpr ⟨k_189, List.forall_mem_cons.mpr ⟨k_191, List.forall_mem_cons.mpr ⟨k_193, fun _ h => absurd h List.not_mem_nil⟩⟩⟩⟩⟩⟩⟩⟩⟩⟩⟩⟩⟩⟩⟩⟩
abbrev R_Li : String := "BridgeNet$Line"
def T_Li : u_T := fun k => match k with
  | 0 => ("BridgeNet$Line", "ring", "[LBridgeNet$Message;", true)
  | 1 => ("BridgeNet$Line", "first", "I", false)
  | _ => ("BridgeNet$Line", "count", "I", false)
def t_Li : Nat → FieldType := fun k => match k with
  | 0 => .array (.object "BridgeNet$Message")
  | 1 => .int
  | _ => .int
theorem n_Li : ∀ a, a < 3 → ∀ b, b < 3 → a ≠ b → (T_Li a).2.1 ≠ (T_Li b).2.1 := by decide +kernel
theorem t_Li_ok : ∀ k, k < 3 → parseFieldDescriptor (T_Li k).2.2.1 = some (t_Li k) := by decide +kernel
theorem i_Li : ∀ w ∈ u_ws R_Li T_Li 3, w ∈ bn_all := List.forall_mem_cons.mpr ⟨k_123, List.forall_mem_cons.mpr ⟨k_125, List.forall_mem_cons.mpr ⟨k_127, fun _ h => absurd h List.not_mem_nil⟩⟩⟩
abbrev R_Ms : String := "BridgeNet$Message"
def T_Ms : u_T := fun k => match k with
  | 0 => ("BridgeNet$Message", "kind", "I", false)
  | 1 => ("BridgeNet$Message", "root", "I", false)
  | 2 => ("BridgeNet$Message", "vector", "J", false)
  | 3 => ("BridgeNet$Message", "hops", "I", false)
  | 4 => ("BridgeNet$Message", "proposing", "Z", false)
  | _ => ("BridgeNet$Message", "frame", "LBridgeNet$Frame;", false)
def t_Ms : Nat → FieldType := fun k => match k with
  | 0 => .int
  | 1 => .int
  | 2 => .long
  | 3 => .int
  | 4 => .boolean
  | _ => .object "BridgeNet$Frame"
theorem n_Ms : ∀ a, a < 6 → ∀ b, b < 6 → a ≠ b → (T_Ms a).2.1 ≠ (T_Ms b).2.1 := by decide +kernel
theorem t_Ms_ok : ∀ k, k < 6 → parseFieldDescriptor (T_Ms k).2.2.1 = some (t_Ms k) := by decide +kernel
theorem i_Ms : ∀ w ∈ u_ws R_Ms T_Ms 6, w ∈ bn_all := List.forall_mem_cons.mpr ⟨k_106, List.forall_mem_cons.mpr ⟨k_108, List.forall_mem_cons.mpr ⟨k_110, List.forall_mem_cons.mpr ⟨k_112, List.forall_mem_cons.mpr ⟨k_114, List.forall_mem_cons.mpr ⟨k_116, fun _ h => absurd h List.not_mem_nil⟩⟩⟩⟩⟩⟩
abbrev R_St : String := "BridgeNet$Station"
def T_St : u_T := fun k => match k with
  | 0 => ("BridgeNet$Station", "place", "LBridgeNet$Port;", false)
  | 1 => ("BridgeNet$Station", "vlan", "I", false)
  | 2 => ("BridgeNet$Station", "inbox", "[J", true)
  | _ => ("BridgeNet$Station", "count", "I", false)
def t_St : Nat → FieldType := fun k => match k with
  | 0 => .object "BridgeNet$Port"
  | 1 => .int
  | 2 => .array .long
  | _ => .int
theorem n_St : ∀ a, a < 4 → ∀ b, b < 4 → a ≠ b → (T_St a).2.1 ≠ (T_St b).2.1 := by decide +kernel
theorem t_St_ok : ∀ k, k < 4 → parseFieldDescriptor (T_St k).2.2.1 = some (t_St k) := by decide +kernel
theorem i_St : ∀ w ∈ u_ws R_St T_St 4, w ∈ bn_all := List.forall_mem_cons.mpr ⟨k_209, List.forall_mem_cons.mpr ⟨k_211, List.forall_mem_cons.mpr ⟨k_213, List.forall_mem_cons.mpr ⟨k_215, fun _ h => absurd h List.not_mem_nil⟩⟩⟩⟩
abbrev R_Fr : String := "BridgeNet$Frame"
def T_Fr : u_T := fun k => match k with
  | 0 => ("BridgeNet$Frame", "source", "I", true)
  | 1 => ("BridgeNet$Frame", "destination", "I", true)
  | 2 => ("BridgeNet$Frame", "vlan", "I", true)
  | _ => ("BridgeNet$Frame", "value", "I", true)
def t_Fr : Nat → FieldType := fun k => match k with
  | 0 => .int
  | 1 => .int
  | 2 => .int
  | _ => .int
theorem n_Fr : ∀ a, a < 4 → ∀ b, b < 4 → a ≠ b → (T_Fr a).2.1 ≠ (T_Fr b).2.1 := by decide +kernel
theorem t_Fr_ok : ∀ k, k < 4 → parseFieldDescriptor (T_Fr k).2.2.1 = some (t_Fr k) := by decide +kernel
theorem i_Fr : ∀ w ∈ u_ws R_Fr T_Fr 4, w ∈ bn_all := List.forall_mem_cons.mpr ⟨k_603, List.forall_mem_cons.mpr ⟨k_605, List.forall_mem_cons.mpr ⟨k_607, List.forall_mem_cons.mpr ⟨k_609, fun _ h => absurd h List.not_mem_nil⟩⟩⟩⟩
abbrev R_Mo : String := "BridgeNetModel"
def T_Mo : u_T := fun k => match k with
  | 0 => ("BridgeNetModel", "thrown", "I", false)
  | 1 => ("BridgeNetModel", "ticks", "I", false)
  | 2 => ("BridgeNetModel", "priority", "[I", true)
  | 3 => ("BridgeNetModel", "cost", "[I", true)
  | 4 => ("BridgeNetModel", "vlans", "[I", true)
  | 5 => ("BridgeNetModel", "joined", "[I", true)
  | 6 => ("BridgeNetModel", "role", "[I", true)
  | 7 => ("BridgeNetModel", "state", "[I", true)
  | 8 => ("BridgeNetModel", "proposing", "[Z", true)
  | 9 => ("BridgeNetModel", "agreed", "[Z", true)
  | 10 => ("BridgeNetModel", "waits", "[I", true)
  | 11 => ("BridgeNetModel", "info", "[J", true)
  | 12 => ("BridgeNetModel", "infoHops", "[I", true)
  | 13 => ("BridgeNetModel", "life", "[I", true)
  | 14 => ("BridgeNetModel", "lines", "[I", true)
  | 15 => ("BridgeNetModel", "kind", "[I", true)
  | 16 => ("BridgeNetModel", "told", "[J", true)
  | 17 => ("BridgeNetModel", "hop", "[I", true)
  | 18 => ("BridgeNetModel", "asks", "[Z", true)
  | 19 => ("BridgeNetModel", "source", "[I", true)
  | 20 => ("BridgeNetModel", "destination", "[I", true)
  | 21 => ("BridgeNetModel", "vlan", "[I", true)
  | 22 => ("BridgeNetModel", "value", "[I", true)
  | 23 => ("BridgeNetModel", "best", "[J", true)
  | 24 => ("BridgeNetModel", "hops", "[I", true)
  | 25 => ("BridgeNetModel", "rootPort", "[I", true)
  | 26 => ("BridgeNetModel", "known", "[I", true)
  | 27 => ("BridgeNetModel", "behind", "[I", true)
  | 28 => ("BridgeNetModel", "at", "[I", true)
  | 29 => ("BridgeNetModel", "in", "[I", true)
  | 30 => ("BridgeNetModel", "got", "[I", true)
  | _ => ("BridgeNetModel", "inbox", "[J", true)
def t_Mo : Nat → FieldType := fun k => match k with
  | 0 => .int
  | 1 => .int
  | 2 => .array .int
  | 3 => .array .int
  | 4 => .array .int
  | 5 => .array .int
  | 6 => .array .int
  | 7 => .array .int
  | 8 => .array .boolean
  | 9 => .array .boolean
  | 10 => .array .int
  | 11 => .array .long
  | 12 => .array .int
  | 13 => .array .int
  | 14 => .array .int
  | 15 => .array .int
  | 16 => .array .long
  | 17 => .array .int
  | 18 => .array .boolean
  | 19 => .array .int
  | 20 => .array .int
  | 21 => .array .int
  | 22 => .array .int
  | 23 => .array .long
  | 24 => .array .int
  | 25 => .array .int
  | 26 => .array .int
  | 27 => .array .int
  | 28 => .array .int
  | 29 => .array .int
  | 30 => .array .int
  | _ => .array .long
theorem n_Mo : ∀ a, a < 32 → ∀ b, b < 32 → a ≠ b → (T_Mo a).2.1 ≠ (T_Mo b).2.1 := by decide +kernel
theorem t_Mo_ok : ∀ k, k < 32 → parseFieldDescriptor (T_Mo k).2.2.1 = some (t_Mo k) := by decide +kernel
theorem i_Mo : ∀ w ∈ u_ws R_Mo T_Mo 32, w ∈ bn_all := List.forall_mem_cons.mpr ⟨k_733, List.forall_mem_cons.mpr ⟨k_735, List.forall_mem_cons.mpr ⟨k_737, List.forall_mem_cons.mpr ⟨k_739, List.forall_mem_cons.mpr ⟨k_741, List.forall_mem_cons.mpr ⟨k_743, List.forall_mem_cons.mpr ⟨k_745, List.forall_mem_cons.mpr ⟨k_747, List.forall_mem_cons.mpr ⟨k_749, List.forall_mem_cons.mpr ⟨k_751, List.forall_mem_cons.mpr ⟨k_753, List.forall_mem_cons.mpr ⟨k_755, List.forall_mem_cons.mpr ⟨k_757, List.forall_mem_cons.mpr ⟨k_759, List.forall_mem_cons.mpr ⟨k_761, List.forall_mem_cons.mpr ⟨k_763, List.forall_mem_cons.mpr ⟨k_765, List.forall_mem_cons.mpr ⟨k_767, List.forall_mem_cons.mpr ⟨k_769, List.forall_mem_cons.mpr ⟨k_771, List.forall_mem_cons.mpr ⟨k_773, List.forall_mem_cons.mpr ⟨k_775, List.forall_mem_cons.mpr ⟨k_777, List.forall_mem_cons.mpr ⟨k_779, List.forall_mem_cons.mpr ⟨k_781, List.forall_mem_cons.mpr ⟨k_783, List.forall_mem_cons.mpr ⟨k_785, List.forall_mem_cons.mpr ⟨k_787, List.forall_mem_cons.mpr ⟨k_789, List.forall_mem_cons.mpr ⟨k_791, List.forall_mem_cons.mpr ⟨k_793, List.forall_mem_cons.mpr ⟨k_795, fun _ h => absurd h List.not_mem_nil⟩⟩⟩⟩⟩⟩⟩⟩⟩⟩⟩⟩⟩⟩⟩⟩⟩⟩⟩⟩⟩⟩⟩⟩⟩⟩⟩⟩⟩⟩⟩⟩
abbrev bn_cl : List vw_C := [(R_Ne, T_Ne, 3), (R_Br, T_Br, 9), (R_Po, T_Po, 16), (R_Li, T_Li, 3), (R_Ms, T_Ms, 6), (R_St, T_St, 4), (R_Fr, T_Fr, 4), (R_Mo, T_Mo, 32)]
abbrev y_Ne_init : MethodName := { cls := "BridgeNet", name := "<init>", desc := "()V" }
abbrev b_Ne_init : ByteArray := prog_1_method_1_code
abbrev w_Ne_init : List Cond := Jvm.Cond.code y_Ne_init b_Ne_init 2 (Option.none : Option Jvm.ClassFile.FieldType) :: bn_all
abbrev y_Br_init : MethodName := { cls := "BridgeNet$Bridge", name := "<init>", desc := "(I)V" }
abbrev b_Br_init : ByteArray := prog_2_method_1_code
abbrev w_Br_init : List Cond := Jvm.Cond.code y_Br_init b_Br_init 2 (Option.none : Option Jvm.ClassFile.FieldType) :: bn_all
abbrev y_Br_addPorts : MethodName := { cls := "BridgeNet$Bridge", name := "addPorts", desc := "()V" }
abbrev b_Br_addPorts : ByteArray := prog_2_method_2_code
abbrev w_Br_addPorts : List Cond := Jvm.Cond.code y_Br_addPorts b_Br_addPorts 2 (Option.none : Option Jvm.ClassFile.FieldType) :: bn_all
abbrev y_Po_init : MethodName := { cls := "BridgeNet$Port", name := "<init>", desc := "(LBridgeNet$Bridge;I)V" }
abbrev b_Po_init : ByteArray := prog_6_method_1_code
abbrev w_Po_init : List Cond := Jvm.Cond.code y_Po_init b_Po_init 3 (Option.none : Option Jvm.ClassFile.FieldType) :: bn_all
abbrev y_Li_init : MethodName := { cls := "BridgeNet$Line", name := "<init>", desc := "()V" }
abbrev b_Li_init : ByteArray := prog_4_method_1_code
abbrev w_Li_init : List Cond := Jvm.Cond.code y_Li_init b_Li_init 2 (Option.none : Option Jvm.ClassFile.FieldType) :: bn_all
abbrev y_Ms_init : MethodName := { cls := "BridgeNet$Message", name := "<init>", desc := "()V" }
abbrev b_Ms_init : ByteArray := prog_5_method_1_code
abbrev w_Ms_init : List Cond := Jvm.Cond.code y_Ms_init b_Ms_init 1 (Option.none : Option Jvm.ClassFile.FieldType) :: bn_all
abbrev y_St_init : MethodName := { cls := "BridgeNet$Station", name := "<init>", desc := "()V" }
abbrev b_St_init : ByteArray := prog_7_method_1_code
abbrev w_St_init : List Cond := Jvm.Cond.code y_St_init b_St_init 1 (Option.none : Option Jvm.ClassFile.FieldType) :: bn_all
abbrev y_Ne_priority : MethodName := { cls := "BridgeNet", name := "priority", desc := "(II)Z" }
abbrev b_Ne_priority : ByteArray := prog_1_method_2_code
abbrev w_Ne_priority : List Cond := Jvm.Cond.code y_Ne_priority b_Ne_priority 3 (Option.some Jvm.ClassFile.FieldType.boolean) :: bn_all
abbrev y_Ne_isBridge : MethodName := { cls := "BridgeNet", name := "isBridge", desc := "(I)Z" }
abbrev b_Ne_isBridge : ByteArray := prog_1_method_18_code
abbrev w_Ne_isBridge : List Cond := Jvm.Cond.code y_Ne_isBridge b_Ne_isBridge 1 (Option.some Jvm.ClassFile.FieldType.boolean) :: bn_all
abbrev y_Br_isUnused : MethodName := { cls := "BridgeNet$Bridge", name := "isUnused", desc := "()Z" }
abbrev b_Br_isUnused : ByteArray := prog_2_method_3_code
abbrev w_Br_isUnused : List Cond := Jvm.Cond.code y_Br_isUnused b_Br_isUnused 5 (Option.some Jvm.ClassFile.FieldType.boolean) :: bn_all
abbrev y_Po_isFree : MethodName := { cls := "BridgeNet$Port", name := "isFree", desc := "()Z" }
abbrev b_Po_isFree : ByteArray := prog_6_method_2_code
abbrev w_Po_isFree : List Cond := Jvm.Cond.code y_Po_isFree b_Po_isFree 1 (Option.some Jvm.ClassFile.FieldType.boolean) :: bn_all
abbrev y_Br_rank : MethodName := { cls := "BridgeNet$Bridge", name := "rank", desc := "(I)V" }
abbrev b_Br_rank : ByteArray := prog_2_method_4_code
abbrev w_Br_rank : List Cond := Jvm.Cond.code y_Br_rank b_Br_rank 2 (Option.none : Option Jvm.ClassFile.FieldType) :: bn_all
abbrev y_Br_compute : MethodName := { cls := "BridgeNet$Bridge", name := "compute", desc := "()V" }
abbrev b_Br_compute : ByteArray := prog_2_method_6_code
abbrev w_Br_compute : List Cond := Jvm.Cond.code y_Br_compute b_Br_compute 5 (Option.none : Option Jvm.ClassFile.FieldType) :: bn_all
abbrev y_Br_chooseRoot : MethodName := { cls := "BridgeNet$Bridge", name := "chooseRoot", desc := "()V" }
abbrev b_Br_chooseRoot : ByteArray := prog_2_method_7_code
abbrev w_Br_chooseRoot : List Cond := Jvm.Cond.code y_Br_chooseRoot b_Br_chooseRoot 9 (Option.none : Option Jvm.ClassFile.FieldType) :: bn_all
abbrev y_Ve_of : MethodName := { cls := "BridgeNet$Vector", name := "of", desc := "(IIII)J" }
abbrev b_Ve_of : ByteArray := prog_8_method_2_code
abbrev w_Ve_of : List Cond := Jvm.Cond.code y_Ve_of b_Ve_of 4 (Option.some Jvm.ClassFile.FieldType.long) :: bn_all
abbrev y_Ve_bridgeOf : MethodName := { cls := "BridgeNet$Vector", name := "bridgeOf", desc := "(J)I" }
abbrev b_Ve_bridgeOf : ByteArray := prog_8_method_6_code
abbrev w_Ve_bridgeOf : List Cond := Jvm.Cond.code y_Ve_bridgeOf b_Ve_bridgeOf 2 (Option.some Jvm.ClassFile.FieldType.int) :: bn_all
abbrev y_Ve_farther : MethodName := { cls := "BridgeNet$Vector", name := "farther", desc := "(JI)J" }
abbrev b_Ve_farther : ByteArray := prog_8_method_3_code
abbrev w_Ve_farther : List Cond := Jvm.Cond.code y_Ve_farther b_Ve_farther 3 (Option.some Jvm.ClassFile.FieldType.long) :: bn_all
abbrev y_Po_hopsThrough : MethodName := { cls := "BridgeNet$Port", name := "hopsThrough", desc := "()I" }
abbrev b_Po_hopsThrough : ByteArray := prog_6_method_5_code
abbrev w_Po_hopsThrough : List Cond := Jvm.Cond.code y_Po_hopsThrough b_Po_hopsThrough 1 (Option.some Jvm.ClassFile.FieldType.int) :: bn_all
abbrev y_Ve_rootOf : MethodName := { cls := "BridgeNet$Vector", name := "rootOf", desc := "(J)I" }
abbrev b_Ve_rootOf : ByteArray := prog_8_method_4_code
abbrev w_Ve_rootOf : List Cond := Jvm.Cond.code y_Ve_rootOf b_Ve_rootOf 2 (Option.some Jvm.ClassFile.FieldType.int) :: bn_all
abbrev y_Ve_costOf : MethodName := { cls := "BridgeNet$Vector", name := "costOf", desc := "(J)I" }
abbrev b_Ve_costOf : ByteArray := prog_8_method_5_code
abbrev w_Ve_costOf : List Cond := Jvm.Cond.code y_Ve_costOf b_Ve_costOf 2 (Option.some Jvm.ClassFile.FieldType.int) :: bn_all
abbrev y_Br_giveRoles : MethodName := { cls := "BridgeNet$Bridge", name := "giveRoles", desc := "()Z" }
abbrev b_Br_giveRoles : ByteArray := prog_2_method_8_code
abbrev w_Br_giveRoles : List Cond := Jvm.Cond.code y_Br_giveRoles b_Br_giveRoles 7 (Option.some Jvm.ClassFile.FieldType.boolean) :: bn_all
abbrev y_Br_dueRole : MethodName := { cls := "BridgeNet$Bridge", name := "dueRole", desc := "(LBridgeNet$Port;)I" }
abbrev b_Br_dueRole : ByteArray := prog_2_method_9_code
abbrev w_Br_dueRole : List Cond := Jvm.Cond.code y_Br_dueRole b_Br_dueRole 2 (Option.some Jvm.ClassFile.FieldType.int) :: bn_all
abbrev y_Br_ownVector : MethodName := { cls := "BridgeNet$Bridge", name := "ownVector", desc := "(LBridgeNet$Port;)J" }
abbrev b_Br_ownVector : ByteArray := prog_2_method_10_code
abbrev w_Br_ownVector : List Cond := Jvm.Cond.code y_Br_ownVector b_Br_ownVector 2 (Option.some Jvm.ClassFile.FieldType.long) :: bn_all
abbrev y_Po_become : MethodName := { cls := "BridgeNet$Port", name := "become", desc := "(I)V" }
abbrev b_Po_become : ByteArray := prog_6_method_7_code
abbrev w_Po_become : List Cond := Jvm.Cond.code y_Po_become b_Po_become 2 (Option.none : Option Jvm.ClassFile.FieldType) :: bn_all
abbrev y_Po_propose : MethodName := { cls := "BridgeNet$Port", name := "propose", desc := "()V" }
abbrev b_Po_propose : ByteArray := prog_6_method_8_code
abbrev w_Po_propose : List Cond := Jvm.Cond.code y_Po_propose b_Po_propose 1 (Option.none : Option Jvm.ClassFile.FieldType) :: bn_all
abbrev y_Br_tellOnAll : MethodName := { cls := "BridgeNet$Bridge", name := "tellOnAll", desc := "()V" }
abbrev b_Br_tellOnAll : ByteArray := prog_2_method_11_code
abbrev w_Br_tellOnAll : List Cond := Jvm.Cond.code y_Br_tellOnAll b_Br_tellOnAll 5 (Option.none : Option Jvm.ClassFile.FieldType) :: bn_all
abbrev y_Po_isLinkedDesignated : MethodName := { cls := "BridgeNet$Port", name := "isLinkedDesignated", desc := "()Z" }
abbrev b_Po_isLinkedDesignated : ByteArray := prog_6_method_3_code
abbrev w_Po_isLinkedDesignated : List Cond := Jvm.Cond.code y_Po_isLinkedDesignated b_Po_isLinkedDesignated 1 (Option.some Jvm.ClassFile.FieldType.boolean) :: bn_all
abbrev y_Br_tellOn : MethodName := { cls := "BridgeNet$Bridge", name := "tellOn", desc := "(LBridgeNet$Port;)V" }
abbrev b_Br_tellOn : ByteArray := prog_2_method_12_code
abbrev w_Br_tellOn : List Cond := Jvm.Cond.code y_Br_tellOn b_Br_tellOn 2 (Option.none : Option Jvm.ClassFile.FieldType) :: bn_all
abbrev y_Li_putTell : MethodName := { cls := "BridgeNet$Line", name := "putTell", desc := "(JIZ)V" }
abbrev b_Li_putTell : ByteArray := prog_4_method_5_code
abbrev w_Li_putTell : List Cond := Jvm.Cond.code y_Li_putTell b_Li_putTell 6 (Option.none : Option Jvm.ClassFile.FieldType) :: bn_all
abbrev y_Li_put : MethodName := { cls := "BridgeNet$Line", name := "put", desc := "(IILBridgeNet$Frame;)LBridgeNet$Message;" }
abbrev b_Li_put : ByteArray := prog_4_method_8_code
abbrev w_Li_put : List Cond := Jvm.Cond.code y_Li_put b_Li_put 5 (Option.some (Jvm.ClassFile.FieldType.object "BridgeNet$Message")) :: bn_all
abbrev y_Ne_set : MethodName := { cls := "BridgeNet", name := "set", desc := "(IIII)Z" }
abbrev b_Ne_set : ByteArray := prog_1_method_3_code
abbrev w_Ne_set : List Cond := Jvm.Cond.code y_Ne_set b_Ne_set 6 (Option.some Jvm.ClassFile.FieldType.boolean) :: bn_all
abbrev y_Ne_findPort : MethodName := { cls := "BridgeNet", name := "findPort", desc := "(II)LBridgeNet$Port;" }
abbrev b_Ne_findPort : ByteArray := prog_1_method_20_code
abbrev w_Ne_findPort : List Cond := Jvm.Cond.code y_Ne_findPort b_Ne_findPort 3 (Option.some (Jvm.ClassFile.FieldType.object "BridgeNet$Port")) :: bn_all
abbrev y_Ne_link : MethodName := { cls := "BridgeNet", name := "link", desc := "(IIII)Z" }
abbrev b_Ne_link : ByteArray := prog_1_method_4_code
abbrev w_Ne_link : List Cond := Jvm.Cond.code y_Ne_link b_Ne_link 7 (Option.some Jvm.ClassFile.FieldType.boolean) :: bn_all
abbrev y_Po_join : MethodName := { cls := "BridgeNet$Port", name := "join", desc := "(LBridgeNet$Port;LBridgeNet$Station;)V" }
abbrev b_Po_join : ByteArray := prog_6_method_6_code
abbrev w_Po_join : List Cond := Jvm.Cond.code y_Po_join b_Po_join 3 (Option.none : Option Jvm.ClassFile.FieldType) :: bn_all
abbrev y_Li_empty : MethodName := { cls := "BridgeNet$Line", name := "empty", desc := "()V" }
abbrev b_Li_empty : ByteArray := prog_4_method_2_code
abbrev w_Li_empty : List Cond := Jvm.Cond.code y_Li_empty b_Li_empty 1 (Option.none : Option Jvm.ClassFile.FieldType) :: bn_all
abbrev y_Br_forgetBehind : MethodName := { cls := "BridgeNet$Bridge", name := "forgetBehind", desc := "(I)V" }
abbrev b_Br_forgetBehind : ByteArray := prog_2_method_23_code
abbrev w_Br_forgetBehind : List Cond := Jvm.Cond.code y_Br_forgetBehind b_Br_forgetBehind 3 (Option.none : Option Jvm.ClassFile.FieldType) :: bn_all
abbrev y_Ne_cut : MethodName := { cls := "BridgeNet", name := "cut", desc := "(II)Z" }
abbrev b_Ne_cut : ByteArray := prog_1_method_5_code
abbrev w_Ne_cut : List Cond := Jvm.Cond.code y_Ne_cut b_Ne_cut 5 (Option.some Jvm.ClassFile.FieldType.boolean) :: bn_all
abbrev y_Ne_lose : MethodName := { cls := "BridgeNet", name := "lose", desc := "(II)Z" }
abbrev b_Ne_lose : ByteArray := prog_1_method_9_code
abbrev w_Ne_lose : List Cond := Jvm.Cond.code y_Ne_lose b_Ne_lose 4 (Option.some Jvm.ClassFile.FieldType.boolean) :: bn_all
abbrev y_Li_takeFirst : MethodName := { cls := "BridgeNet$Line", name := "takeFirst", desc := "()LBridgeNet$Message;" }
abbrev b_Li_takeFirst : ByteArray := prog_4_method_4_code
abbrev w_Li_takeFirst : List Cond := Jvm.Cond.code y_Li_takeFirst b_Li_takeFirst 2 (Option.some (Jvm.ClassFile.FieldType.object "BridgeNet$Message")) :: bn_all
abbrev y_Ne_tick : MethodName := { cls := "BridgeNet", name := "tick", desc := "()V" }
abbrev b_Ne_tick : ByteArray := prog_1_method_10_code
abbrev w_Ne_tick : List Cond := Jvm.Cond.code y_Ne_tick b_Ne_tick 2 (Option.none : Option Jvm.ClassFile.FieldType) :: bn_all
abbrev y_Br_age : MethodName := { cls := "BridgeNet$Bridge", name := "age", desc := "()V" }
abbrev b_Br_age : ByteArray := prog_2_method_24_code
abbrev w_Br_age : List Cond := Jvm.Cond.code y_Br_age b_Br_age 5 (Option.none : Option Jvm.ClassFile.FieldType) :: bn_all
abbrev y_Po_ageInfo : MethodName := { cls := "BridgeNet$Port", name := "ageInfo", desc := "()V" }
abbrev b_Po_ageInfo : ByteArray := prog_6_method_13_code
abbrev w_Po_ageInfo : List Cond := Jvm.Cond.code y_Po_ageInfo b_Po_ageInfo 1 (Option.none : Option Jvm.ClassFile.FieldType) :: bn_all
abbrev y_Po_ageWait : MethodName := { cls := "BridgeNet$Port", name := "ageWait", desc := "()V" }
abbrev b_Po_ageWait : ByteArray := prog_6_method_14_code
abbrev w_Po_ageWait : List Cond := Jvm.Cond.code y_Po_ageWait b_Po_ageWait 1 (Option.none : Option Jvm.ClassFile.FieldType) :: bn_all
abbrev y_Po_forward : MethodName := { cls := "BridgeNet$Port", name := "forward", desc := "()V" }
abbrev b_Po_forward : ByteArray := prog_6_method_9_code
abbrev w_Po_forward : List Cond := Jvm.Cond.code y_Po_forward b_Po_forward 1 (Option.none : Option Jvm.ClassFile.FieldType) :: bn_all
abbrev y_Ne_port : MethodName := { cls := "BridgeNet", name := "port", desc := "(II)I" }
abbrev b_Ne_port : ByteArray := prog_1_method_11_code
abbrev w_Ne_port : List Cond := Jvm.Cond.code y_Ne_port b_Ne_port 4 (Option.some Jvm.ClassFile.FieldType.int) :: bn_all
abbrev y_Po_summary : MethodName := { cls := "BridgeNet$Port", name := "summary", desc := "()I" }
abbrev b_Po_summary : ByteArray := prog_6_method_16_code
abbrev w_Po_summary : List Cond := Jvm.Cond.code y_Po_summary b_Po_summary 1 (Option.some Jvm.ClassFile.FieldType.int) :: bn_all
abbrev y_Ne_root : MethodName := { cls := "BridgeNet", name := "root", desc := "(I)J" }
abbrev b_Ne_root : ByteArray := prog_1_method_12_code
abbrev w_Ne_root : List Cond := Jvm.Cond.code y_Ne_root b_Ne_root 2 (Option.some Jvm.ClassFile.FieldType.long) :: bn_all
abbrev y_Br_summary : MethodName := { cls := "BridgeNet$Bridge", name := "summary", desc := "()J" }
abbrev b_Br_summary : ByteArray := prog_2_method_5_code
abbrev w_Br_summary : List Cond := Jvm.Cond.code y_Br_summary b_Br_summary 1 (Option.some Jvm.ClassFile.FieldType.long) :: bn_all
abbrev y_Ne_info : MethodName := { cls := "BridgeNet", name := "info", desc := "(II)J" }
abbrev b_Ne_info : ByteArray := prog_1_method_13_code
abbrev w_Ne_info : List Cond := Jvm.Cond.code y_Ne_info b_Ne_info 4 (Option.some Jvm.ClassFile.FieldType.long) :: bn_all
abbrev y_Po_infoSummary : MethodName := { cls := "BridgeNet$Port", name := "infoSummary", desc := "()J" }
abbrev b_Po_infoSummary : ByteArray := prog_6_method_17_code
abbrev w_Po_infoSummary : List Cond := Jvm.Cond.code y_Po_infoSummary b_Po_infoSummary 1 (Option.some Jvm.ClassFile.FieldType.long) :: bn_all
abbrev y_Ve_portOf : MethodName := { cls := "BridgeNet$Vector", name := "portOf", desc := "(J)I" }
abbrev b_Ve_portOf : ByteArray := prog_8_method_7_code
abbrev w_Ve_portOf : List Cond := Jvm.Cond.code y_Ve_portOf b_Ve_portOf 2 (Option.some Jvm.ClassFile.FieldType.int) :: bn_all
abbrev y_Ne_learned : MethodName := { cls := "BridgeNet", name := "learned", desc := "(III)I" }
abbrev b_Ne_learned : ByteArray := prog_1_method_14_code
abbrev w_Ne_learned : List Cond := Jvm.Cond.code y_Ne_learned b_Ne_learned 4 (Option.some Jvm.ClassFile.FieldType.int) :: bn_all
abbrev y_Ne_findStation : MethodName := { cls := "BridgeNet", name := "findStation", desc := "(I)LBridgeNet$Station;" }
abbrev b_Ne_findStation : ByteArray := prog_1_method_21_code
abbrev w_Ne_findStation : List Cond := Jvm.Cond.code y_Ne_findStation b_Ne_findStation 2 (Option.some (Jvm.ClassFile.FieldType.object "BridgeNet$Station")) :: bn_all
abbrev y_Ne_isVlan : MethodName := { cls := "BridgeNet", name := "isVlan", desc := "(I)Z" }
abbrev b_Ne_isVlan : ByteArray := prog_1_method_19_code
abbrev w_Ne_isVlan : List Cond := Jvm.Cond.code y_Ne_isVlan b_Ne_isVlan 1 (Option.some Jvm.ClassFile.FieldType.boolean) :: bn_all
abbrev y_Br_placeOf : MethodName := { cls := "BridgeNet$Bridge", name := "placeOf", desc := "(II)I" }
abbrev b_Br_placeOf : ByteArray := prog_2_method_22_code
abbrev w_Br_placeOf : List Cond := Jvm.Cond.code y_Br_placeOf b_Br_placeOf 4 (Option.some Jvm.ClassFile.FieldType.int) :: bn_all
abbrev y_Br_placeIndex : MethodName := { cls := "BridgeNet$Bridge", name := "placeIndex", desc := "(II)I" }
abbrev b_Br_placeIndex : ByteArray := prog_2_method_20_code
abbrev w_Br_placeIndex : List Cond := Jvm.Cond.code y_Br_placeIndex b_Br_placeIndex 2 (Option.some Jvm.ClassFile.FieldType.int) :: bn_all
abbrev y_Ne_inbox : MethodName := { cls := "BridgeNet", name := "inbox", desc := "(II)J" }
abbrev b_Ne_inbox : ByteArray := prog_1_method_15_code
abbrev w_Ne_inbox : List Cond := Jvm.Cond.code y_Ne_inbox b_Ne_inbox 4 (Option.some Jvm.ClassFile.FieldType.long) :: bn_all
abbrev y_St_kept : MethodName := { cls := "BridgeNet$Station", name := "kept", desc := "(I)J" }
abbrev b_St_kept : ByteArray := prog_7_method_5_code
abbrev w_St_kept : List Cond := Jvm.Cond.code y_St_kept b_St_kept 2 (Option.some Jvm.ClassFile.FieldType.long) :: bn_all
abbrev y_Ne_line : MethodName := { cls := "BridgeNet", name := "line", desc := "(II)I" }
abbrev b_Ne_line : ByteArray := prog_1_method_16_code
abbrev w_Ne_line : List Cond := Jvm.Cond.code y_Ne_line b_Ne_line 4 (Option.some Jvm.ClassFile.FieldType.int) :: bn_all
abbrev y_Ne_message : MethodName := { cls := "BridgeNet", name := "message", desc := "(III)J" }
abbrev b_Ne_message : ByteArray := prog_1_method_17_code
abbrev w_Ne_message : List Cond := Jvm.Cond.code y_Ne_message b_Ne_message 6 (Option.some Jvm.ClassFile.FieldType.long) :: bn_all
abbrev y_Li_at : MethodName := { cls := "BridgeNet$Line", name := "at", desc := "(I)LBridgeNet$Message;" }
abbrev b_Li_at : ByteArray := prog_4_method_3_code
abbrev w_Li_at : List Cond := Jvm.Cond.code y_Li_at b_Li_at 2 (Option.some (Jvm.ClassFile.FieldType.object "BridgeNet$Message")) :: bn_all
abbrev y_Ms_summary : MethodName := { cls := "BridgeNet$Message", name := "summary", desc := "()J" }
abbrev b_Ms_summary : ByteArray := prog_5_method_2_code
abbrev w_Ms_summary : List Cond := Jvm.Cond.code y_Ms_summary b_Ms_summary 1 (Option.some Jvm.ClassFile.FieldType.long) :: bn_all
abbrev y_La_attach : MethodName := { cls := "BridgeNetLaw", name := "attach", desc := "(LBridgeNet;IIII)I" }
abbrev b_La_attach : ByteArray := method_3_code
abbrev y_Ne_attach : MethodName := { cls := "BridgeNet", name := "attach", desc := "(IIII)V" }
abbrev b_Ne_attach : ByteArray := prog_1_method_6_code
abbrev w_Ne_attach : List Cond := Jvm.Cond.code y_Ne_attach b_Ne_attach 7 (Option.none : Option Jvm.ClassFile.FieldType) :: bn_all
abbrev y_St_leave : MethodName := { cls := "BridgeNet$Station", name := "leave", desc := "()V" }
abbrev b_St_leave : ByteArray := prog_7_method_2_code
abbrev w_St_leave : List Cond := Jvm.Cond.code y_St_leave b_St_leave 1 (Option.none : Option Jvm.ClassFile.FieldType) :: bn_all
abbrev y_St_settle : MethodName := { cls := "BridgeNet$Station", name := "settle", desc := "(LBridgeNet$Port;I)V" }
abbrev b_St_settle : ByteArray := prog_7_method_3_code
abbrev w_St_settle : List Cond := Jvm.Cond.code y_St_settle b_St_settle 3 (Option.none : Option Jvm.ClassFile.FieldType) :: bn_all
abbrev y_La_send : MethodName := { cls := "BridgeNetLaw", name := "send", desc := "(LBridgeNet;III[J)I" }
abbrev b_La_send : ByteArray := method_4_code
abbrev y_Ne_send : MethodName := { cls := "BridgeNet", name := "send", desc := "(III)I" }
abbrev b_Ne_send : ByteArray := prog_1_method_7_code
abbrev w_Ne_send : List Cond := Jvm.Cond.code y_Ne_send b_Ne_send 6 (Option.some Jvm.ClassFile.FieldType.int) :: bn_all
abbrev y_Fr_init : MethodName := { cls := "BridgeNet$Frame", name := "<init>", desc := "(IIII)V" }
abbrev b_Fr_init : ByteArray := prog_3_method_1_code
abbrev w_Fr_init : List Cond := Jvm.Cond.code y_Fr_init b_Fr_init 5 (Option.none : Option Jvm.ClassFile.FieldType) :: bn_all
abbrev y_Br_hearFrame : MethodName := { cls := "BridgeNet$Bridge", name := "hearFrame", desc := "(LBridgeNet$Port;LBridgeNet$Frame;)I" }
abbrev b_Br_hearFrame : ByteArray := prog_2_method_17_code
abbrev w_Br_hearFrame : List Cond := Jvm.Cond.code y_Br_hearFrame b_Br_hearFrame 4 (Option.some Jvm.ClassFile.FieldType.int) :: bn_all
abbrev y_Po_carries : MethodName := { cls := "BridgeNet$Port", name := "carries", desc := "(I)Z" }
abbrev b_Po_carries : ByteArray := prog_6_method_4_code
abbrev w_Po_carries : List Cond := Jvm.Cond.code y_Po_carries b_Po_carries 2 (Option.some Jvm.ClassFile.FieldType.boolean) :: bn_all
abbrev y_Br_learn : MethodName := { cls := "BridgeNet$Bridge", name := "learn", desc := "(III)V" }
abbrev b_Br_learn : ByteArray := prog_2_method_21_code
abbrev w_Br_learn : List Cond := Jvm.Cond.code y_Br_learn b_Br_learn 5 (Option.none : Option Jvm.ClassFile.FieldType) :: bn_all
abbrev y_Br_flood : MethodName := { cls := "BridgeNet$Bridge", name := "flood", desc := "(LBridgeNet$Port;LBridgeNet$Frame;)I" }
abbrev b_Br_flood : ByteArray := prog_2_method_19_code
abbrev w_Br_flood : List Cond := Jvm.Cond.code y_Br_flood b_Br_flood 8 (Option.some Jvm.ClassFile.FieldType.int) :: bn_all
abbrev y_Po_letOut : MethodName := { cls := "BridgeNet$Port", name := "letOut", desc := "(LBridgeNet$Frame;)Z" }
abbrev b_Po_letOut : ByteArray := prog_6_method_15_code
abbrev w_Po_letOut : List Cond := Jvm.Cond.code y_Po_letOut b_Po_letOut 2 (Option.some Jvm.ClassFile.FieldType.boolean) :: bn_all
abbrev y_Li_putFrame : MethodName := { cls := "BridgeNet$Line", name := "putFrame", desc := "(LBridgeNet$Frame;)V" }
abbrev b_Li_putFrame : ByteArray := prog_4_method_7_code
abbrev w_Li_putFrame : List Cond := Jvm.Cond.code y_Li_putFrame b_Li_putFrame 2 (Option.none : Option Jvm.ClassFile.FieldType) :: bn_all
abbrev y_St_keep : MethodName := { cls := "BridgeNet$Station", name := "keep", desc := "(LBridgeNet$Frame;)V" }
abbrev b_St_keep : ByteArray := prog_7_method_4_code
abbrev w_St_keep : List Cond := Jvm.Cond.code y_St_keep b_St_keep 2 (Option.none : Option Jvm.ClassFile.FieldType) :: bn_all
abbrev y_Fr_inboxEntry : MethodName := { cls := "BridgeNet$Frame", name := "inboxEntry", desc := "()J" }
abbrev b_Fr_inboxEntry : ByteArray := prog_3_method_2_code
abbrev w_Fr_inboxEntry : List Cond := Jvm.Cond.code y_Fr_inboxEntry b_Fr_inboxEntry 1 (Option.some Jvm.ClassFile.FieldType.long) :: bn_all
abbrev y_Br_passTo : MethodName := { cls := "BridgeNet$Bridge", name := "passTo", desc := "(ILBridgeNet$Port;LBridgeNet$Frame;)I" }
abbrev b_Br_passTo : ByteArray := prog_2_method_18_code
abbrev w_Br_passTo : List Cond := Jvm.Cond.code y_Br_passTo b_Br_passTo 4 (Option.some Jvm.ClassFile.FieldType.int) :: bn_all
abbrev y_La_deliver : MethodName := { cls := "BridgeNetLaw", name := "deliver", desc := "(LBridgeNet;II[J)I" }
abbrev b_La_deliver : ByteArray := method_5_code
abbrev y_Ne_deliver : MethodName := { cls := "BridgeNet", name := "deliver", desc := "(II)I" }
abbrev b_Ne_deliver : ByteArray := prog_1_method_8_code
abbrev w_Ne_deliver : List Cond := Jvm.Cond.code y_Ne_deliver b_Ne_deliver 5 (Option.some Jvm.ClassFile.FieldType.int) :: bn_all
abbrev y_Br_hearTell : MethodName := { cls := "BridgeNet$Bridge", name := "hearTell", desc := "(LBridgeNet$Port;LBridgeNet$Message;)V" }
abbrev b_Br_hearTell : ByteArray := prog_2_method_13_code
abbrev w_Br_hearTell : List Cond := Jvm.Cond.code y_Br_hearTell b_Br_hearTell 3 (Option.none : Option Jvm.ClassFile.FieldType) :: bn_all
abbrev y_Po_hold : MethodName := { cls := "BridgeNet$Port", name := "hold", desc := "(JI)V" }
abbrev b_Po_hold : ByteArray := prog_6_method_10_code
abbrev w_Po_hold : List Cond := Jvm.Cond.code y_Po_hold b_Po_hold 4 (Option.none : Option Jvm.ClassFile.FieldType) :: bn_all
abbrev y_Br_answerProposal : MethodName := { cls := "BridgeNet$Bridge", name := "answerProposal", desc := "(LBridgeNet$Port;)V" }
abbrev b_Br_answerProposal : ByteArray := prog_2_method_14_code
abbrev w_Br_answerProposal : List Cond := Jvm.Cond.code y_Br_answerProposal b_Br_answerProposal 2 (Option.none : Option Jvm.ClassFile.FieldType) :: bn_all
abbrev y_Br_proposeOnOthers : MethodName := { cls := "BridgeNet$Bridge", name := "proposeOnOthers", desc := "(LBridgeNet$Port;)V" }
abbrev b_Br_proposeOnOthers : ByteArray := prog_2_method_15_code
abbrev w_Br_proposeOnOthers : List Cond := Jvm.Cond.code y_Br_proposeOnOthers b_Br_proposeOnOthers 6 (Option.none : Option Jvm.ClassFile.FieldType) :: bn_all
abbrev y_Po_proposeUnlessAgreed : MethodName := { cls := "BridgeNet$Port", name := "proposeUnlessAgreed", desc := "()Z" }
abbrev b_Po_proposeUnlessAgreed : ByteArray := prog_6_method_11_code
abbrev w_Po_proposeUnlessAgreed : List Cond := Jvm.Cond.code y_Po_proposeUnlessAgreed b_Po_proposeUnlessAgreed 1 (Option.some Jvm.ClassFile.FieldType.boolean) :: bn_all
abbrev y_Li_putAgree : MethodName := { cls := "BridgeNet$Line", name := "putAgree", desc := "(I)V" }
abbrev b_Li_putAgree : ByteArray := prog_4_method_6_code
abbrev w_Li_putAgree : List Cond := Jvm.Cond.code y_Li_putAgree b_Li_putAgree 2 (Option.none : Option Jvm.ClassFile.FieldType) :: bn_all
abbrev y_Br_hearAgree : MethodName := { cls := "BridgeNet$Bridge", name := "hearAgree", desc := "(LBridgeNet$Port;I)V" }
abbrev b_Br_hearAgree : ByteArray := prog_2_method_16_code
abbrev w_Br_hearAgree : List Cond := Jvm.Cond.code y_Br_hearAgree b_Br_hearAgree 3 (Option.none : Option Jvm.ClassFile.FieldType) :: bn_all
abbrev y_Po_takeAgreement : MethodName := { cls := "BridgeNet$Port", name := "takeAgreement", desc := "()V" }
abbrev b_Po_takeAgreement : ByteArray := prog_6_method_12_code
abbrev w_Po_takeAgreement : List Cond := Jvm.Cond.code y_Po_takeAgreement b_Po_takeAgreement 1 (Option.none : Option Jvm.ClassFile.FieldType) :: bn_all
abbrev y_Mo_init : MethodName := { cls := "BridgeNetModel", name := "<init>", desc := "()V" }
abbrev b_Mo_init : ByteArray := prog_10_method_1_code
abbrev w_Mo_init : List Cond := Jvm.Cond.code y_Mo_init b_Mo_init 2 (Option.none : Option Jvm.ClassFile.FieldType) :: bn_all
abbrev y_Mo_vector : MethodName := { cls := "BridgeNetModel", name := "vector", desc := "(JJJJ)J" }
abbrev b_Mo_vector : ByteArray := prog_10_method_8_code
abbrev w_Mo_vector : List Cond := Jvm.Cond.code y_Mo_vector b_Mo_vector 8 (Option.some Jvm.ClassFile.FieldType.long) :: bn_all
abbrev y_Mo_thrown : MethodName := { cls := "BridgeNetModel", name := "thrown", desc := "()I" }
abbrev b_Mo_thrown : ByteArray := prog_10_method_2_code
abbrev w_Mo_thrown : List Cond := Jvm.Cond.code y_Mo_thrown b_Mo_thrown 1 (Option.some Jvm.ClassFile.FieldType.int) :: bn_all
abbrev y_Mo_deliver : MethodName := { cls := "BridgeNetModel", name := "deliver", desc := "(II)I" }
abbrev b_Mo_deliver : ByteArray := prog_10_method_29_code
abbrev w_Mo_deliver : List Cond := Jvm.Cond.code y_Mo_deliver b_Mo_deliver 6 (Option.some Jvm.ClassFile.FieldType.int) :: bn_all
abbrev y_Mo_isPort : MethodName := { cls := "BridgeNetModel", name := "isPort", desc := "(II)Z" }
abbrev b_Mo_isPort : ByteArray := prog_10_method_5_code
abbrev w_Mo_isPort : List Cond := Jvm.Cond.code y_Mo_isPort b_Mo_isPort 2 (Option.some Jvm.ClassFile.FieldType.boolean) :: bn_all
abbrev y_Mo_isBridge : MethodName := { cls := "BridgeNetModel", name := "isBridge", desc := "(I)Z" }
abbrev b_Mo_isBridge : ByteArray := prog_10_method_4_code
abbrev w_Mo_isBridge : List Cond := Jvm.Cond.code y_Mo_isBridge b_Mo_isBridge 1 (Option.some Jvm.ClassFile.FieldType.boolean) :: bn_all
abbrev y_Mo_raise : MethodName := { cls := "BridgeNetModel", name := "raise", desc := "(I)I" }
abbrev b_Mo_raise : ByteArray := prog_10_method_3_code
abbrev w_Mo_raise : List Cond := Jvm.Cond.code y_Mo_raise b_Mo_raise 2 (Option.some Jvm.ClassFile.FieldType.int) :: bn_all
abbrev y_Mo_shift : MethodName := { cls := "BridgeNetModel", name := "shift", desc := "(I)V" }
abbrev b_Mo_shift : ByteArray := prog_10_method_17_code
abbrev w_Mo_shift : List Cond := Jvm.Cond.code y_Mo_shift b_Mo_shift 3 (Option.none : Option Jvm.ClassFile.FieldType) :: bn_all
abbrev y_Mo_copy : MethodName := { cls := "BridgeNetModel", name := "copy", desc := "(II)V" }
abbrev b_Mo_copy : ByteArray := prog_10_method_16_code
abbrev w_Mo_copy : List Cond := Jvm.Cond.code y_Mo_copy b_Mo_copy 3 (Option.none : Option Jvm.ClassFile.FieldType) :: bn_all
abbrev y_Mo_toldOn : MethodName := { cls := "BridgeNetModel", name := "toldOn", desc := "(I)V" }
abbrev b_Mo_toldOn : ByteArray := prog_10_method_23_code
abbrev w_Mo_toldOn : List Cond := Jvm.Cond.code y_Mo_toldOn b_Mo_toldOn 2 (Option.none : Option Jvm.ClassFile.FieldType) :: bn_all
abbrev y_Mo_compute : MethodName := { cls := "BridgeNetModel", name := "compute", desc := "(I)V" }
abbrev b_Mo_compute : ByteArray := prog_10_method_21_code
abbrev w_Mo_compute : List Cond := Jvm.Cond.code y_Mo_compute b_Mo_compute 8 (Option.none : Option Jvm.ClassFile.FieldType) :: bn_all
abbrev y_Mo_rootOf : MethodName := { cls := "BridgeNetModel", name := "rootOf", desc := "(J)I" }
abbrev b_Mo_rootOf : ByteArray := prog_10_method_9_code
abbrev w_Mo_rootOf : List Cond := Jvm.Cond.code y_Mo_rootOf b_Mo_rootOf 2 (Option.some Jvm.ClassFile.FieldType.int) :: bn_all
abbrev y_Mo_costOf : MethodName := { cls := "BridgeNetModel", name := "costOf", desc := "(J)I" }
abbrev b_Mo_costOf : ByteArray := prog_10_method_10_code
abbrev w_Mo_costOf : List Cond := Jvm.Cond.code y_Mo_costOf b_Mo_costOf 2 (Option.some Jvm.ClassFile.FieldType.int) :: bn_all
abbrev y_Mo_choose : MethodName := { cls := "BridgeNetModel", name := "choose", desc := "(I)V" }
abbrev b_Mo_choose : ByteArray := prog_10_method_18_code
abbrev w_Mo_choose : List Cond := Jvm.Cond.code y_Mo_choose b_Mo_choose 5 (Option.none : Option Jvm.ClassFile.FieldType) :: bn_all
abbrev y_Mo_id : MethodName := { cls := "BridgeNetModel", name := "id", desc := "(I)I" }
abbrev b_Mo_id : ByteArray := prog_10_method_6_code
abbrev w_Mo_id : List Cond := Jvm.Cond.code y_Mo_id b_Mo_id 2 (Option.some Jvm.ClassFile.FieldType.int) :: bn_all
abbrev y_Mo_teller : MethodName := { cls := "BridgeNetModel", name := "teller", desc := "(J)I" }
abbrev b_Mo_teller : ByteArray := prog_10_method_11_code
abbrev w_Mo_teller : List Cond := Jvm.Cond.code y_Mo_teller b_Mo_teller 2 (Option.some Jvm.ClassFile.FieldType.int) :: bn_all
abbrev y_Mo_roleOf : MethodName := { cls := "BridgeNetModel", name := "roleOf", desc := "(I)I" }
abbrev b_Mo_roleOf : ByteArray := prog_10_method_19_code
abbrev w_Mo_roleOf : List Cond := Jvm.Cond.code y_Mo_roleOf b_Mo_roleOf 2 (Option.some Jvm.ClassFile.FieldType.int) :: bn_all
abbrev y_Mo_wouldTell : MethodName := { cls := "BridgeNetModel", name := "wouldTell", desc := "(I)J" }
abbrev b_Mo_wouldTell : ByteArray := prog_10_method_12_code
abbrev w_Mo_wouldTell : List Cond := Jvm.Cond.code y_Mo_wouldTell b_Mo_wouldTell 3 (Option.some Jvm.ClassFile.FieldType.long) :: bn_all
abbrev y_Mo_take : MethodName := { cls := "BridgeNetModel", name := "take", desc := "(II)V" }
abbrev b_Mo_take : ByteArray := prog_10_method_20_code
abbrev w_Mo_take : List Cond := Jvm.Cond.code y_Mo_take b_Mo_take 3 (Option.none : Option Jvm.ClassFile.FieldType) :: bn_all
abbrev y_Mo_isLinked : MethodName := { cls := "BridgeNetModel", name := "isLinked", desc := "(I)Z" }
abbrev b_Mo_isLinked : ByteArray := prog_10_method_7_code
abbrev w_Mo_isLinked : List Cond := Jvm.Cond.code y_Mo_isLinked b_Mo_isLinked 2 (Option.some Jvm.ClassFile.FieldType.boolean) :: bn_all
abbrev y_Mo_tellAll : MethodName := { cls := "BridgeNetModel", name := "tellAll", desc := "(I)V" }
abbrev b_Mo_tellAll : ByteArray := prog_10_method_15_code
abbrev w_Mo_tellAll : List Cond := Jvm.Cond.code y_Mo_tellAll b_Mo_tellAll 3 (Option.none : Option Jvm.ClassFile.FieldType) :: bn_all
abbrev y_Mo_tell : MethodName := { cls := "BridgeNetModel", name := "tell", desc := "(I)V" }
abbrev b_Mo_tell : ByteArray := prog_10_method_14_code
abbrev w_Mo_tell : List Cond := Jvm.Cond.code y_Mo_tell b_Mo_tell 3 (Option.none : Option Jvm.ClassFile.FieldType) :: bn_all
abbrev y_Mo_post : MethodName := { cls := "BridgeNetModel", name := "post", desc := "(II)I" }
abbrev b_Mo_post : ByteArray := prog_10_method_13_code
abbrev w_Mo_post : List Cond := Jvm.Cond.code y_Mo_post b_Mo_post 5 (Option.some Jvm.ClassFile.FieldType.int) :: bn_all
abbrev y_Mo_agree : MethodName := { cls := "BridgeNetModel", name := "agree", desc := "(I)V" }
abbrev b_Mo_agree : ByteArray := prog_10_method_24_code
abbrev w_Mo_agree : List Cond := Jvm.Cond.code y_Mo_agree b_Mo_agree 4 (Option.none : Option Jvm.ClassFile.FieldType) :: bn_all
abbrev y_Mo_agreedOn : MethodName := { cls := "BridgeNetModel", name := "agreedOn", desc := "(I)V" }
abbrev b_Mo_agreedOn : ByteArray := prog_10_method_25_code
abbrev w_Mo_agreedOn : List Cond := Jvm.Cond.code y_Mo_agreedOn b_Mo_agreedOn 2 (Option.none : Option Jvm.ClassFile.FieldType) :: bn_all
abbrev y_Mo_frame : MethodName := { cls := "BridgeNetModel", name := "frame", desc := "(I)I" }
abbrev b_Mo_frame : ByteArray := prog_10_method_28_code
abbrev w_Mo_frame : List Cond := Jvm.Cond.code y_Mo_frame b_Mo_frame 11 (Option.some Jvm.ClassFile.FieldType.int) :: bn_all
abbrev y_Mo_has : MethodName := { cls := "BridgeNetModel", name := "has", desc := "(II)Z" }
abbrev b_Mo_has : ByteArray := prog_10_method_26_code
abbrev w_Mo_has : List Cond := Jvm.Cond.code y_Mo_has b_Mo_has 3 (Option.some Jvm.ClassFile.FieldType.boolean) :: bn_all
abbrev y_Mo_out : MethodName := { cls := "BridgeNetModel", name := "out", desc := "(I)I" }
abbrev b_Mo_out : ByteArray := prog_10_method_27_code
abbrev w_Mo_out : List Cond := Jvm.Cond.code y_Mo_out b_Mo_out 4 (Option.some Jvm.ClassFile.FieldType.int) :: bn_all
abbrev y_Mo_lose : MethodName := { cls := "BridgeNetModel", name := "lose", desc := "(II)Z" }
abbrev b_Mo_lose : ByteArray := prog_10_method_30_code
abbrev w_Mo_lose : List Cond := Jvm.Cond.code y_Mo_lose b_Mo_lose 3 (Option.some Jvm.ClassFile.FieldType.boolean) :: bn_all
abbrev y_Mo_tick : MethodName := { cls := "BridgeNetModel", name := "tick", desc := "()V" }
abbrev b_Mo_tick : ByteArray := prog_10_method_32_code
abbrev w_Mo_tick : List Cond := Jvm.Cond.code y_Mo_tick b_Mo_tick 2 (Option.none : Option Jvm.ClassFile.FieldType) :: bn_all
abbrev y_Mo_ageOf : MethodName := { cls := "BridgeNetModel", name := "ageOf", desc := "(I)V" }
abbrev b_Mo_ageOf : ByteArray := prog_10_method_31_code
abbrev w_Mo_ageOf : List Cond := Jvm.Cond.code y_Mo_ageOf b_Mo_ageOf 3 (Option.none : Option Jvm.ClassFile.FieldType) :: bn_all
abbrev y_Mo_priority : MethodName := { cls := "BridgeNetModel", name := "priority", desc := "(II)Z" }
abbrev b_Mo_priority : ByteArray := prog_10_method_33_code
abbrev w_Mo_priority : List Cond := Jvm.Cond.code y_Mo_priority b_Mo_priority 4 (Option.some Jvm.ClassFile.FieldType.boolean) :: bn_all
abbrev y_Mo_set : MethodName := { cls := "BridgeNetModel", name := "set", desc := "(IIII)Z" }
abbrev b_Mo_set : ByteArray := prog_10_method_34_code
abbrev w_Mo_set : List Cond := Jvm.Cond.code y_Mo_set b_Mo_set 5 (Option.some Jvm.ClassFile.FieldType.boolean) :: bn_all
abbrev y_Mo_link : MethodName := { cls := "BridgeNetModel", name := "link", desc := "(IIII)Z" }
abbrev b_Mo_link : ByteArray := prog_10_method_35_code
abbrev w_Mo_link : List Cond := Jvm.Cond.code y_Mo_link b_Mo_link 5 (Option.some Jvm.ClassFile.FieldType.boolean) :: bn_all
abbrev y_Mo_clear : MethodName := { cls := "BridgeNetModel", name := "clear", desc := "(I)V" }
abbrev b_Mo_clear : ByteArray := prog_10_method_22_code
abbrev w_Mo_clear : List Cond := Jvm.Cond.code y_Mo_clear b_Mo_clear 3 (Option.none : Option Jvm.ClassFile.FieldType) :: bn_all
abbrev y_Mo_cut : MethodName := { cls := "BridgeNetModel", name := "cut", desc := "(II)Z" }
abbrev b_Mo_cut : ByteArray := prog_10_method_36_code
abbrev w_Mo_cut : List Cond := Jvm.Cond.code y_Mo_cut b_Mo_cut 5 (Option.some Jvm.ClassFile.FieldType.boolean) :: bn_all
abbrev y_Mo_attach : MethodName := { cls := "BridgeNetModel", name := "attach", desc := "(IIII)V" }
abbrev b_Mo_attach : ByteArray := prog_10_method_37_code
abbrev w_Mo_attach : List Cond := Jvm.Cond.code y_Mo_attach b_Mo_attach 7 (Option.none : Option Jvm.ClassFile.FieldType) :: bn_all
abbrev y_Mo_send : MethodName := { cls := "BridgeNetModel", name := "send", desc := "(III)I" }
abbrev b_Mo_send : ByteArray := prog_10_method_38_code
abbrev w_Mo_send : List Cond := Jvm.Cond.code y_Mo_send b_Mo_send 4 (Option.some Jvm.ClassFile.FieldType.int) :: bn_all
abbrev y_Mo_port : MethodName := { cls := "BridgeNetModel", name := "port", desc := "(II)I" }
abbrev b_Mo_port : ByteArray := prog_10_method_39_code
abbrev w_Mo_port : List Cond := Jvm.Cond.code y_Mo_port b_Mo_port 4 (Option.some Jvm.ClassFile.FieldType.int) :: bn_all
abbrev y_Mo_root : MethodName := { cls := "BridgeNetModel", name := "root", desc := "(I)J" }
abbrev b_Mo_root : ByteArray := prog_10_method_40_code
abbrev w_Mo_root : List Cond := Jvm.Cond.code y_Mo_root b_Mo_root 2 (Option.some Jvm.ClassFile.FieldType.long) :: bn_all
abbrev y_Mo_info : MethodName := { cls := "BridgeNetModel", name := "info", desc := "(II)J" }
abbrev b_Mo_info : ByteArray := prog_10_method_41_code
abbrev w_Mo_info : List Cond := Jvm.Cond.code y_Mo_info b_Mo_info 8 (Option.some Jvm.ClassFile.FieldType.long) :: bn_all
abbrev y_Mo_learned : MethodName := { cls := "BridgeNetModel", name := "learned", desc := "(III)I" }
abbrev b_Mo_learned : ByteArray := prog_10_method_42_code
abbrev w_Mo_learned : List Cond := Jvm.Cond.code y_Mo_learned b_Mo_learned 5 (Option.some Jvm.ClassFile.FieldType.int) :: bn_all
abbrev y_Mo_inbox : MethodName := { cls := "BridgeNetModel", name := "inbox", desc := "(II)J" }
abbrev b_Mo_inbox : ByteArray := prog_10_method_43_code
abbrev w_Mo_inbox : List Cond := Jvm.Cond.code y_Mo_inbox b_Mo_inbox 3 (Option.some Jvm.ClassFile.FieldType.long) :: bn_all
abbrev y_Mo_line : MethodName := { cls := "BridgeNetModel", name := "line", desc := "(II)I" }
abbrev b_Mo_line : ByteArray := prog_10_method_44_code
abbrev w_Mo_line : List Cond := Jvm.Cond.code y_Mo_line b_Mo_line 3 (Option.some Jvm.ClassFile.FieldType.int) :: bn_all
abbrev y_Mo_message : MethodName := { cls := "BridgeNetModel", name := "message", desc := "(III)J" }
abbrev b_Mo_message : ByteArray := prog_10_method_45_code
abbrev w_Mo_message : List Cond := Jvm.Cond.code y_Mo_message b_Mo_message 5 (Option.some Jvm.ClassFile.FieldType.long) :: bn_all
abbrev y_La_law : MethodName := { cls := "BridgeNetLaw", name := "law", desc := "([I)Z" }
abbrev b_La_law : ByteArray := code
end
section
/-! decode rows: written by wip/whole/emit_names.py -/
theorem d_Br_addPorts_0 : decode b_Br_addPorts 0 = .ok (.iconst 0, 1) := by decide +kernel
theorem d_Br_addPorts_1 : decode b_Br_addPorts 1 = .ok (.istore_n 1, 1) := by decide +kernel
theorem d_Br_addPorts_2 : decode b_Br_addPorts 2 = .ok (.iload_n 1, 1) := by decide +kernel
theorem d_Br_addPorts_3 : decode b_Br_addPorts 3 = .ok (.iconst 4, 1) := by decide +kernel
theorem d_Br_addPorts_4 : decode b_Br_addPorts 4 = .ok (.if_icmp .ge 24, 3) := by decide +kernel
theorem d_Br_addPorts_7 : decode b_Br_addPorts 7 = .ok (.aload_n 0, 1) := by decide +kernel
theorem d_Br_addPorts_8 : decode b_Br_addPorts 8 = .ok (.getfield 11, 3) := by decide +kernel
theorem d_Br_addPorts_11 : decode b_Br_addPorts 11 = .ok (.iload_n 1, 1) := by decide +kernel
theorem d_Br_addPorts_12 : decode b_Br_addPorts 12 = .ok (.new 9, 3) := by decide +kernel
theorem d_Br_addPorts_15 : decode b_Br_addPorts 15 = .ok (.dup, 1) := by decide +kernel
theorem d_Br_addPorts_16 : decode b_Br_addPorts 16 = .ok (.aload_n 0, 1) := by decide +kernel
theorem d_Br_addPorts_17 : decode b_Br_addPorts 17 = .ok (.iload_n 1, 1) := by decide +kernel
theorem d_Br_addPorts_18 : decode b_Br_addPorts 18 = .ok (.invokespecial 44, 3) := by decide +kernel
theorem d_Br_addPorts_21 : decode b_Br_addPorts 21 = .ok (.aastore, 1) := by decide +kernel
theorem d_Br_addPorts_22 : decode b_Br_addPorts 22 = .ok (.iinc 1 1, 3) := by decide +kernel
theorem d_Br_addPorts_25 : decode b_Br_addPorts 25 = .ok (.goto (-23), 3) := by decide +kernel
theorem d_Br_addPorts_28 : decode b_Br_addPorts 28 = .ok (.return_, 1) := by decide +kernel
theorem d_Ne_priority_0 : decode b_Ne_priority 0 = .ok (.iload_n 1, 1) := by decide +kernel
theorem d_Ne_priority_1 : decode b_Ne_priority 1 = .ok (.invokestatic 32, 3) := by decide +kernel
theorem d_Ne_priority_4 : decode b_Ne_priority 4 = .ok (.ifCond .eq 25, 3) := by decide +kernel
theorem d_Ne_priority_7 : decode b_Ne_priority 7 = .ok (.iload_n 2, 1) := by decide +kernel
theorem d_Ne_priority_8 : decode b_Ne_priority 8 = .ok (.ifCond .lt 21, 3) := by decide +kernel
theorem d_Ne_priority_11 : decode b_Ne_priority 11 = .ok (.iload_n 2, 1) := by decide +kernel
theorem d_Ne_priority_12 : decode b_Ne_priority 12 = .ok (.bipush 15, 2) := by decide +kernel
theorem d_Ne_priority_14 : decode b_Ne_priority 14 = .ok (.if_icmp .gt 15, 3) := by decide +kernel
theorem d_Ne_priority_17 : decode b_Ne_priority 17 = .ok (.aload_n 0, 1) := by decide +kernel
theorem d_Ne_priority_18 : decode b_Ne_priority 18 = .ok (.getfield 11, 3) := by decide +kernel
theorem d_Ne_priority_21 : decode b_Ne_priority 21 = .ok (.iload_n 1, 1) := by decide +kernel
theorem d_Ne_priority_22 : decode b_Ne_priority 22 = .ok (.aaload, 1) := by decide +kernel
theorem d_Ne_priority_23 : decode b_Ne_priority 23 = .ok (.invokevirtual 36, 3) := by decide +kernel
theorem d_Ne_priority_26 : decode b_Ne_priority 26 = .ok (.ifCond .ne 5, 3) := by decide +kernel
theorem d_Ne_priority_29 : decode b_Ne_priority 29 = .ok (.iconst 0, 1) := by decide +kernel
theorem d_Ne_priority_30 : decode b_Ne_priority 30 = .ok (.ireturn, 1) := by decide +kernel
theorem d_Ne_priority_31 : decode b_Ne_priority 31 = .ok (.aload_n 0, 1) := by decide +kernel
theorem d_Ne_priority_32 : decode b_Ne_priority 32 = .ok (.getfield 11, 3) := by decide +kernel
theorem d_Ne_priority_35 : decode b_Ne_priority 35 = .ok (.iload_n 1, 1) := by decide +kernel
theorem d_Ne_priority_36 : decode b_Ne_priority 36 = .ok (.aaload, 1) := by decide +kernel
theorem d_Ne_priority_37 : decode b_Ne_priority 37 = .ok (.iload_n 2, 1) := by decide +kernel
theorem d_Ne_priority_38 : decode b_Ne_priority 38 = .ok (.invokevirtual 40, 3) := by decide +kernel
theorem d_Ne_priority_41 : decode b_Ne_priority 41 = .ok (.aload_n 0, 1) := by decide +kernel
theorem d_Ne_priority_42 : decode b_Ne_priority 42 = .ok (.getfield 11, 3) := by decide +kernel
theorem d_Ne_priority_45 : decode b_Ne_priority 45 = .ok (.iload_n 1, 1) := by decide +kernel
theorem d_Ne_priority_46 : decode b_Ne_priority 46 = .ok (.aaload, 1) := by decide +kernel
theorem d_Ne_priority_47 : decode b_Ne_priority 47 = .ok (.invokevirtual 43, 3) := by decide +kernel
theorem d_Ne_priority_50 : decode b_Ne_priority 50 = .ok (.iconst 1, 1) := by decide +kernel
theorem d_Ne_priority_51 : decode b_Ne_priority 51 = .ok (.ireturn, 1) := by decide +kernel
theorem d_Ne_isBridge_0 : decode b_Ne_isBridge 0 = .ok (.iload_n 0, 1) := by decide +kernel
theorem d_Ne_isBridge_1 : decode b_Ne_isBridge 1 = .ok (.ifCond .lt 12, 3) := by decide +kernel
theorem d_Ne_isBridge_4 : decode b_Ne_isBridge 4 = .ok (.iload_n 0, 1) := by decide +kernel
theorem d_Ne_isBridge_5 : decode b_Ne_isBridge 5 = .ok (.iconst 5, 1) := by decide +kernel
theorem d_Ne_isBridge_6 : decode b_Ne_isBridge 6 = .ok (.if_icmp .ge 7, 3) := by decide +kernel
theorem d_Ne_isBridge_9 : decode b_Ne_isBridge 9 = .ok (.iconst 1, 1) := by decide +kernel
theorem d_Ne_isBridge_10 : decode b_Ne_isBridge 10 = .ok (.goto 4, 3) := by decide +kernel
theorem d_Ne_isBridge_13 : decode b_Ne_isBridge 13 = .ok (.iconst 0, 1) := by decide +kernel
theorem d_Ne_isBridge_14 : decode b_Ne_isBridge 14 = .ok (.ireturn, 1) := by decide +kernel
theorem d_Br_isUnused_0 : decode b_Br_isUnused 0 = .ok (.aload_n 0, 1) := by decide +kernel
theorem d_Br_isUnused_1 : decode b_Br_isUnused 1 = .ok (.getfield 11, 3) := by decide +kernel
theorem d_Br_isUnused_4 : decode b_Br_isUnused 4 = .ok (.astore_n 1, 1) := by decide +kernel
theorem d_Br_isUnused_5 : decode b_Br_isUnused 5 = .ok (.aload_n 1, 1) := by decide +kernel
theorem d_Br_isUnused_6 : decode b_Br_isUnused 6 = .ok (.arraylength, 1) := by decide +kernel
theorem d_Br_isUnused_7 : decode b_Br_isUnused 7 = .ok (.istore_n 2, 1) := by decide +kernel
theorem d_Br_isUnused_8 : decode b_Br_isUnused 8 = .ok (.iconst 0, 1) := by decide +kernel
theorem d_Br_isUnused_9 : decode b_Br_isUnused 9 = .ok (.istore_n 3, 1) := by decide +kernel
theorem d_Br_isUnused_10 : decode b_Br_isUnused 10 = .ok (.iload_n 3, 1) := by decide +kernel
theorem d_Br_isUnused_11 : decode b_Br_isUnused 11 = .ok (.iload_n 2, 1) := by decide +kernel
theorem d_Br_isUnused_12 : decode b_Br_isUnused 12 = .ok (.if_icmp .ge 24, 3) := by decide +kernel
theorem d_Br_isUnused_15 : decode b_Br_isUnused 15 = .ok (.aload_n 1, 1) := by decide +kernel
theorem d_Br_isUnused_16 : decode b_Br_isUnused 16 = .ok (.iload_n 3, 1) := by decide +kernel
theorem d_Br_isUnused_17 : decode b_Br_isUnused 17 = .ok (.aaload, 1) := by decide +kernel
theorem d_Br_isUnused_18 : decode b_Br_isUnused 18 = .ok (.astore 4, 2) := by decide +kernel
theorem d_Br_isUnused_20 : decode b_Br_isUnused 20 = .ok (.aload 4, 2) := by decide +kernel
theorem d_Br_isUnused_22 : decode b_Br_isUnused 22 = .ok (.invokevirtual 47, 3) := by decide +kernel
theorem d_Br_isUnused_25 : decode b_Br_isUnused 25 = .ok (.ifCond .ne 5, 3) := by decide +kernel
theorem d_Br_isUnused_28 : decode b_Br_isUnused 28 = .ok (.iconst 0, 1) := by decide +kernel
theorem d_Br_isUnused_29 : decode b_Br_isUnused 29 = .ok (.ireturn, 1) := by decide +kernel
theorem d_Br_isUnused_30 : decode b_Br_isUnused 30 = .ok (.iinc 3 1, 3) := by decide +kernel
theorem d_Br_isUnused_33 : decode b_Br_isUnused 33 = .ok (.goto (-23), 3) := by decide +kernel
theorem d_Br_isUnused_36 : decode b_Br_isUnused 36 = .ok (.iconst 1, 1) := by decide +kernel
theorem d_Br_isUnused_37 : decode b_Br_isUnused 37 = .ok (.ireturn, 1) := by decide +kernel
theorem d_Po_isFree_0 : decode b_Po_isFree 0 = .ok (.aload_n 0, 1) := by decide +kernel
theorem d_Po_isFree_1 : decode b_Po_isFree 1 = .ok (.getfield 25, 3) := by decide +kernel
theorem d_Po_isFree_4 : decode b_Po_isFree 4 = .ok (.ifnonnull 14, 3) := by decide +kernel
theorem d_Po_isFree_7 : decode b_Po_isFree 7 = .ok (.aload_n 0, 1) := by decide +kernel
theorem d_Po_isFree_8 : decode b_Po_isFree 8 = .ok (.getfield 29, 3) := by decide +kernel
theorem d_Po_isFree_11 : decode b_Po_isFree 11 = .ok (.ifnonnull 7, 3) := by decide +kernel
theorem d_Po_isFree_14 : decode b_Po_isFree 14 = .ok (.iconst 1, 1) := by decide +kernel
theorem d_Po_isFree_15 : decode b_Po_isFree 15 = .ok (.goto 4, 3) := by decide +kernel
theorem d_Po_isFree_18 : decode b_Po_isFree 18 = .ok (.iconst 0, 1) := by decide +kernel
theorem d_Po_isFree_19 : decode b_Po_isFree 19 = .ok (.ireturn, 1) := by decide +kernel
theorem d_Br_rank_0 : decode b_Br_rank 0 = .ok (.aload_n 0, 1) := by decide +kernel
theorem d_Br_rank_1 : decode b_Br_rank 1 = .ok (.bipush 8, 2) := by decide +kernel
theorem d_Br_rank_3 : decode b_Br_rank 3 = .ok (.iload_n 1, 1) := by decide +kernel
theorem d_Br_rank_4 : decode b_Br_rank 4 = .ok (.imul, 1) := by decide +kernel
theorem d_Br_rank_5 : decode b_Br_rank 5 = .ok (.aload_n 0, 1) := by decide +kernel
theorem d_Br_rank_6 : decode b_Br_rank 6 = .ok (.getfield 35, 3) := by decide +kernel
theorem d_Br_rank_9 : decode b_Br_rank 9 = .ok (.iadd, 1) := by decide +kernel
theorem d_Br_rank_10 : decode b_Br_rank 10 = .ok (.putfield 38, 3) := by decide +kernel
theorem d_Br_rank_13 : decode b_Br_rank 13 = .ok (.return_, 1) := by decide +kernel
theorem d_Br_compute_0 : decode b_Br_compute 0 = .ok (.aload_n 0, 1) := by decide +kernel
theorem d_Br_compute_1 : decode b_Br_compute 1 = .ok (.getfield 41, 3) := by decide +kernel
theorem d_Br_compute_4 : decode b_Br_compute 4 = .ok (.istore_n 1, 1) := by decide +kernel
theorem d_Br_compute_5 : decode b_Br_compute 5 = .ok (.aload_n 0, 1) := by decide +kernel
theorem d_Br_compute_6 : decode b_Br_compute 6 = .ok (.getfield 17, 3) := by decide +kernel
theorem d_Br_compute_9 : decode b_Br_compute 9 = .ok (.istore_n 2, 1) := by decide +kernel
theorem d_Br_compute_10 : decode b_Br_compute 10 = .ok (.aload_n 0, 1) := by decide +kernel
theorem d_Br_compute_11 : decode b_Br_compute 11 = .ok (.getfield 21, 3) := by decide +kernel
theorem d_Br_compute_14 : decode b_Br_compute 14 = .ok (.istore_n 3, 1) := by decide +kernel
theorem d_Br_compute_15 : decode b_Br_compute 15 = .ok (.aload_n 0, 1) := by decide +kernel
theorem d_Br_compute_16 : decode b_Br_compute 16 = .ok (.invokevirtual 51, 3) := by decide +kernel
theorem d_Br_compute_19 : decode b_Br_compute 19 = .ok (.aload_n 0, 1) := by decide +kernel
theorem d_Br_compute_20 : decode b_Br_compute 20 = .ok (.invokevirtual 54, 3) := by decide +kernel
theorem d_Br_compute_23 : decode b_Br_compute 23 = .ok (.istore 4, 2) := by decide +kernel
theorem d_Br_compute_25 : decode b_Br_compute 25 = .ok (.iload 4, 2) := by decide +kernel
theorem d_Br_compute_27 : decode b_Br_compute 27 = .ok (.ifCond .ne 27, 3) := by decide +kernel
theorem d_Br_compute_30 : decode b_Br_compute 30 = .ok (.aload_n 0, 1) := by decide +kernel
theorem d_Br_compute_31 : decode b_Br_compute 31 = .ok (.getfield 41, 3) := by decide +kernel
theorem d_Br_compute_34 : decode b_Br_compute 34 = .ok (.iload_n 1, 1) := by decide +kernel
theorem d_Br_compute_35 : decode b_Br_compute 35 = .ok (.if_icmp .ne 19, 3) := by decide +kernel
theorem d_Br_compute_38 : decode b_Br_compute 38 = .ok (.aload_n 0, 1) := by decide +kernel
theorem d_Br_compute_39 : decode b_Br_compute 39 = .ok (.getfield 17, 3) := by decide +kernel
theorem d_Br_compute_42 : decode b_Br_compute 42 = .ok (.iload_n 2, 1) := by decide +kernel
theorem d_Br_compute_43 : decode b_Br_compute 43 = .ok (.if_icmp .ne 11, 3) := by decide +kernel
theorem d_Br_compute_46 : decode b_Br_compute 46 = .ok (.aload_n 0, 1) := by decide +kernel
theorem d_Br_compute_47 : decode b_Br_compute 47 = .ok (.getfield 21, 3) := by decide +kernel
theorem d_Br_compute_50 : decode b_Br_compute 50 = .ok (.iload_n 3, 1) := by decide +kernel
theorem d_Br_compute_51 : decode b_Br_compute 51 = .ok (.if_icmp .eq 7, 3) := by decide +kernel
theorem d_Br_compute_54 : decode b_Br_compute 54 = .ok (.aload_n 0, 1) := by decide +kernel
theorem d_Br_compute_55 : decode b_Br_compute 55 = .ok (.invokevirtual 57, 3) := by decide +kernel
theorem d_Br_compute_58 : decode b_Br_compute 58 = .ok (.return_, 1) := by decide +kernel
theorem d_Br_chooseRoot_0 : decode b_Br_chooseRoot 0 = .ok (.aload_n 0, 1) := by decide +kernel
theorem d_Br_chooseRoot_1 : decode b_Br_chooseRoot 1 = .ok (.getfield 38, 3) := by decide +kernel
theorem d_Br_chooseRoot_4 : decode b_Br_chooseRoot 4 = .ok (.iconst 0, 1) := by decide +kernel
theorem d_Br_chooseRoot_5 : decode b_Br_chooseRoot 5 = .ok (.aload_n 0, 1) := by decide +kernel
theorem d_Br_chooseRoot_6 : decode b_Br_chooseRoot 6 = .ok (.getfield 38, 3) := by decide +kernel
theorem d_Br_chooseRoot_9 : decode b_Br_chooseRoot 9 = .ok (.iconst 0, 1) := by decide +kernel
theorem d_Br_chooseRoot_10 : decode b_Br_chooseRoot 10 = .ok (.invokestatic 60, 3) := by decide +kernel
theorem d_Br_chooseRoot_13 : decode b_Br_chooseRoot 13 = .ok (.lstore_n 1, 1) := by decide +kernel
theorem d_Br_chooseRoot_14 : decode b_Br_chooseRoot 14 = .ok (.aload_n 0, 1) := by decide +kernel
theorem d_Br_chooseRoot_15 : decode b_Br_chooseRoot 15 = .ok (.iconst 0, 1) := by decide +kernel
theorem d_Br_chooseRoot_16 : decode b_Br_chooseRoot 16 = .ok (.putfield 21, 3) := by decide +kernel
theorem d_Br_chooseRoot_19 : decode b_Br_chooseRoot 19 = .ok (.aload_n 0, 1) := by decide +kernel
theorem d_Br_chooseRoot_20 : decode b_Br_chooseRoot 20 = .ok (.aconst_null, 1) := by decide +kernel
theorem d_Br_chooseRoot_21 : decode b_Br_chooseRoot 21 = .ok (.putfield 24, 3) := by decide +kernel
theorem d_Br_chooseRoot_24 : decode b_Br_chooseRoot 24 = .ok (.aload_n 0, 1) := by decide +kernel
theorem d_Br_chooseRoot_25 : decode b_Br_chooseRoot 25 = .ok (.getfield 11, 3) := by decide +kernel
theorem d_Br_chooseRoot_28 : decode b_Br_chooseRoot 28 = .ok (.astore_n 3, 1) := by decide +kernel
theorem d_Br_chooseRoot_29 : decode b_Br_chooseRoot 29 = .ok (.aload_n 3, 1) := by decide +kernel
theorem d_Br_chooseRoot_30 : decode b_Br_chooseRoot 30 = .ok (.arraylength, 1) := by decide +kernel
theorem d_Br_chooseRoot_31 : decode b_Br_chooseRoot 31 = .ok (.istore 4, 2) := by decide +kernel
theorem d_Br_chooseRoot_33 : decode b_Br_chooseRoot 33 = .ok (.iconst 0, 1) := by decide +kernel
theorem d_Br_chooseRoot_34 : decode b_Br_chooseRoot 34 = .ok (.istore 5, 2) := by decide +kernel
theorem d_Br_chooseRoot_36 : decode b_Br_chooseRoot 36 = .ok (.iload 5, 2) := by decide +kernel
theorem d_Br_chooseRoot_38 : decode b_Br_chooseRoot 38 = .ok (.iload 4, 2) := by decide +kernel
theorem d_Br_chooseRoot_40 : decode b_Br_chooseRoot 40 = .ok (.if_icmp .ge 81, 3) := by decide +kernel
theorem d_Br_chooseRoot_43 : decode b_Br_chooseRoot 43 = .ok (.aload_n 3, 1) := by decide +kernel
theorem d_Br_chooseRoot_44 : decode b_Br_chooseRoot 44 = .ok (.iload 5, 2) := by decide +kernel
theorem d_Br_chooseRoot_46 : decode b_Br_chooseRoot 46 = .ok (.aaload, 1) := by decide +kernel
theorem d_Br_chooseRoot_47 : decode b_Br_chooseRoot 47 = .ok (.astore 6, 2) := by decide +kernel
theorem d_Br_chooseRoot_49 : decode b_Br_chooseRoot 49 = .ok (.aload 6, 2) := by decide +kernel
theorem d_Br_chooseRoot_51 : decode b_Br_chooseRoot 51 = .ok (.getfield 66, 3) := by decide +kernel
theorem d_Br_chooseRoot_54 : decode b_Br_chooseRoot 54 = .ok (.ifCond .eq 61, 3) := by decide +kernel
theorem d_Br_chooseRoot_57 : decode b_Br_chooseRoot 57 = .ok (.aload 6, 2) := by decide +kernel
theorem d_Br_chooseRoot_59 : decode b_Br_chooseRoot 59 = .ok (.getfield 70, 3) := by decide +kernel
theorem d_Br_chooseRoot_62 : decode b_Br_chooseRoot 62 = .ok (.invokestatic 74, 3) := by decide +kernel
theorem d_Br_chooseRoot_65 : decode b_Br_chooseRoot 65 = .ok (.aload_n 0, 1) := by decide +kernel
theorem d_Br_chooseRoot_66 : decode b_Br_chooseRoot 66 = .ok (.getfield 38, 3) := by decide +kernel
theorem d_Br_chooseRoot_69 : decode b_Br_chooseRoot 69 = .ok (.if_icmp .ne 6, 3) := by decide +kernel
theorem d_Br_chooseRoot_72 : decode b_Br_chooseRoot 72 = .ok (.goto 43, 3) := by decide +kernel
theorem d_Br_chooseRoot_75 : decode b_Br_chooseRoot 75 = .ok (.aload 6, 2) := by decide +kernel
theorem d_Br_chooseRoot_77 : decode b_Br_chooseRoot 77 = .ok (.getfield 70, 3) := by decide +kernel
theorem d_Br_chooseRoot_80 : decode b_Br_chooseRoot 80 = .ok (.aload 6, 2) := by decide +kernel
theorem d_Br_chooseRoot_82 : decode b_Br_chooseRoot 82 = .ok (.getfield 78, 3) := by decide +kernel
theorem d_Br_chooseRoot_85 : decode b_Br_chooseRoot 85 = .ok (.invokestatic 79, 3) := by decide +kernel
theorem d_Br_chooseRoot_88 : decode b_Br_chooseRoot 88 = .ok (.lstore 7, 2) := by decide +kernel
theorem d_Br_chooseRoot_90 : decode b_Br_chooseRoot 90 = .ok (.lload 7, 2) := by decide +kernel
theorem d_Br_chooseRoot_92 : decode b_Br_chooseRoot 92 = .ok (.lload_n 1, 1) := by decide +kernel
theorem d_Br_chooseRoot_93 : decode b_Br_chooseRoot 93 = .ok (.lcmp, 1) := by decide +kernel
theorem d_Br_chooseRoot_94 : decode b_Br_chooseRoot 94 = .ok (.ifCond .ge 21, 3) := by decide +kernel
theorem d_Br_chooseRoot_97 : decode b_Br_chooseRoot 97 = .ok (.lload 7, 2) := by decide +kernel
theorem d_Br_chooseRoot_99 : decode b_Br_chooseRoot 99 = .ok (.lstore_n 1, 1) := by decide +kernel
theorem d_Br_chooseRoot_100 : decode b_Br_chooseRoot 100 = .ok (.aload_n 0, 1) := by decide +kernel
theorem d_Br_chooseRoot_101 : decode b_Br_chooseRoot 101 = .ok (.aload 6, 2) := by decide +kernel
theorem d_Br_chooseRoot_103 : decode b_Br_chooseRoot 103 = .ok (.invokevirtual 83, 3) := by decide +kernel
theorem d_Br_chooseRoot_106 : decode b_Br_chooseRoot 106 = .ok (.putfield 21, 3) := by decide +kernel
theorem d_Br_chooseRoot_109 : decode b_Br_chooseRoot 109 = .ok (.aload_n 0, 1) := by decide +kernel
theorem d_Br_chooseRoot_110 : decode b_Br_chooseRoot 110 = .ok (.aload 6, 2) := by decide +kernel
theorem d_Br_chooseRoot_112 : decode b_Br_chooseRoot 112 = .ok (.putfield 24, 3) := by decide +kernel
theorem d_Br_chooseRoot_115 : decode b_Br_chooseRoot 115 = .ok (.iinc 5 1, 3) := by decide +kernel
theorem d_Br_chooseRoot_118 : decode b_Br_chooseRoot 118 = .ok (.goto (-82), 3) := by decide +kernel
theorem d_Br_chooseRoot_121 : decode b_Br_chooseRoot 121 = .ok (.aload_n 0, 1) := by decide +kernel
theorem d_Br_chooseRoot_122 : decode b_Br_chooseRoot 122 = .ok (.lload_n 1, 1) := by decide +kernel
theorem d_Br_chooseRoot_123 : decode b_Br_chooseRoot 123 = .ok (.invokestatic 87, 3) := by decide +kernel
theorem d_Br_chooseRoot_126 : decode b_Br_chooseRoot 126 = .ok (.putfield 41, 3) := by decide +kernel
theorem d_Br_chooseRoot_129 : decode b_Br_chooseRoot 129 = .ok (.aload_n 0, 1) := by decide +kernel
theorem d_Br_chooseRoot_130 : decode b_Br_chooseRoot 130 = .ok (.lload_n 1, 1) := by decide +kernel
theorem d_Br_chooseRoot_131 : decode b_Br_chooseRoot 131 = .ok (.invokestatic 90, 3) := by decide +kernel
theorem d_Br_chooseRoot_134 : decode b_Br_chooseRoot 134 = .ok (.putfield 17, 3) := by decide +kernel
theorem d_Br_chooseRoot_137 : decode b_Br_chooseRoot 137 = .ok (.return_, 1) := by decide +kernel
theorem d_Ve_of_0 : decode b_Ve_of 0 = .ok (.iload_n 0, 1) := by decide +kernel
theorem d_Ve_of_1 : decode b_Ve_of 1 = .ok (.i2l, 1) := by decide +kernel
theorem d_Ve_of_2 : decode b_Ve_of 2 = .ok (.bipush 32, 2) := by decide +kernel
theorem d_Ve_of_4 : decode b_Ve_of 4 = .ok (.lshl, 1) := by decide +kernel
theorem d_Ve_of_5 : decode b_Ve_of 5 = .ok (.iload_n 1, 1) := by decide +kernel
theorem d_Ve_of_6 : decode b_Ve_of 6 = .ok (.i2l, 1) := by decide +kernel
theorem d_Ve_of_7 : decode b_Ve_of 7 = .ok (.bipush 16, 2) := by decide +kernel
theorem d_Ve_of_9 : decode b_Ve_of 9 = .ok (.lshl, 1) := by decide +kernel
theorem d_Ve_of_10 : decode b_Ve_of 10 = .ok (.lor, 1) := by decide +kernel
theorem d_Ve_of_11 : decode b_Ve_of 11 = .ok (.iload_n 2, 1) := by decide +kernel
theorem d_Ve_of_12 : decode b_Ve_of 12 = .ok (.i2l, 1) := by decide +kernel
theorem d_Ve_of_13 : decode b_Ve_of 13 = .ok (.bipush 8, 2) := by decide +kernel
theorem d_Ve_of_15 : decode b_Ve_of 15 = .ok (.lshl, 1) := by decide +kernel
theorem d_Ve_of_16 : decode b_Ve_of 16 = .ok (.lor, 1) := by decide +kernel
theorem d_Ve_of_17 : decode b_Ve_of 17 = .ok (.iload_n 3, 1) := by decide +kernel
theorem d_Ve_of_18 : decode b_Ve_of 18 = .ok (.i2l, 1) := by decide +kernel
theorem d_Ve_of_19 : decode b_Ve_of 19 = .ok (.lor, 1) := by decide +kernel
theorem d_Ve_of_20 : decode b_Ve_of 20 = .ok (.lreturn, 1) := by decide +kernel
theorem d_Ve_bridgeOf_0 : decode b_Ve_bridgeOf 0 = .ok (.lload_n 0, 1) := by decide +kernel
theorem d_Ve_bridgeOf_1 : decode b_Ve_bridgeOf 1 = .ok (.bipush 8, 2) := by decide +kernel
theorem d_Ve_bridgeOf_3 : decode b_Ve_bridgeOf 3 = .ok (.lshr, 1) := by decide +kernel
theorem d_Ve_bridgeOf_4 : decode b_Ve_bridgeOf 4 = .ok (.l2i, 1) := by decide +kernel
theorem d_Ve_bridgeOf_5 : decode b_Ve_bridgeOf 5 = .ok (.sipush 255, 3) := by decide +kernel
theorem d_Ve_bridgeOf_8 : decode b_Ve_bridgeOf 8 = .ok (.iand, 1) := by decide +kernel
theorem d_Ve_bridgeOf_9 : decode b_Ve_bridgeOf 9 = .ok (.ireturn, 1) := by decide +kernel
theorem d_Ve_farther_0 : decode b_Ve_farther 0 = .ok (.lload_n 0, 1) := by decide +kernel
theorem d_Ve_farther_1 : decode b_Ve_farther 1 = .ok (.iload_n 2, 1) := by decide +kernel
theorem d_Ve_farther_2 : decode b_Ve_farther 2 = .ok (.i2l, 1) := by decide +kernel
theorem d_Ve_farther_3 : decode b_Ve_farther 3 = .ok (.bipush 16, 2) := by decide +kernel
theorem d_Ve_farther_5 : decode b_Ve_farther 5 = .ok (.lshl, 1) := by decide +kernel
theorem d_Ve_farther_6 : decode b_Ve_farther 6 = .ok (.ladd, 1) := by decide +kernel
theorem d_Ve_farther_7 : decode b_Ve_farther 7 = .ok (.lreturn, 1) := by decide +kernel
theorem d_Po_hopsThrough_0 : decode b_Po_hopsThrough 0 = .ok (.aload_n 0, 1) := by decide +kernel
theorem d_Po_hopsThrough_1 : decode b_Po_hopsThrough 1 = .ok (.getfield 41, 3) := by decide +kernel
theorem d_Po_hopsThrough_4 : decode b_Po_hopsThrough 4 = .ok (.iconst 1, 1) := by decide +kernel
theorem d_Po_hopsThrough_5 : decode b_Po_hopsThrough 5 = .ok (.iadd, 1) := by decide +kernel
theorem d_Po_hopsThrough_6 : decode b_Po_hopsThrough 6 = .ok (.ireturn, 1) := by decide +kernel
theorem d_Ve_rootOf_0 : decode b_Ve_rootOf 0 = .ok (.lload_n 0, 1) := by decide +kernel
theorem d_Ve_rootOf_1 : decode b_Ve_rootOf 1 = .ok (.bipush 32, 2) := by decide +kernel
theorem d_Ve_rootOf_3 : decode b_Ve_rootOf 3 = .ok (.lshr, 1) := by decide +kernel
theorem d_Ve_rootOf_4 : decode b_Ve_rootOf 4 = .ok (.l2i, 1) := by decide +kernel
theorem d_Ve_rootOf_5 : decode b_Ve_rootOf 5 = .ok (.ireturn, 1) := by decide +kernel
theorem d_Ve_costOf_0 : decode b_Ve_costOf 0 = .ok (.lload_n 0, 1) := by decide +kernel
theorem d_Ve_costOf_1 : decode b_Ve_costOf 1 = .ok (.bipush 16, 2) := by decide +kernel
theorem d_Ve_costOf_3 : decode b_Ve_costOf 3 = .ok (.lshr, 1) := by decide +kernel
theorem d_Ve_costOf_4 : decode b_Ve_costOf 4 = .ok (.l2i, 1) := by decide +kernel
theorem d_Ve_costOf_5 : decode b_Ve_costOf 5 = .ok (.ldc 9, 2) := by decide +kernel
theorem d_Ve_costOf_7 : decode b_Ve_costOf 7 = .ok (.iand, 1) := by decide +kernel
theorem d_Ve_costOf_8 : decode b_Ve_costOf 8 = .ok (.ireturn, 1) := by decide +kernel
theorem d_Br_giveRoles_0 : decode b_Br_giveRoles 0 = .ok (.iconst 0, 1) := by decide +kernel
theorem d_Br_giveRoles_1 : decode b_Br_giveRoles 1 = .ok (.istore_n 1, 1) := by decide +kernel
theorem d_Br_giveRoles_2 : decode b_Br_giveRoles 2 = .ok (.aload_n 0, 1) := by decide +kernel
theorem d_Br_giveRoles_3 : decode b_Br_giveRoles 3 = .ok (.getfield 11, 3) := by decide +kernel
theorem d_Br_giveRoles_6 : decode b_Br_giveRoles 6 = .ok (.astore_n 2, 1) := by decide +kernel
theorem d_Br_giveRoles_7 : decode b_Br_giveRoles 7 = .ok (.aload_n 2, 1) := by decide +kernel
theorem d_Br_giveRoles_8 : decode b_Br_giveRoles 8 = .ok (.arraylength, 1) := by decide +kernel
theorem d_Br_giveRoles_9 : decode b_Br_giveRoles 9 = .ok (.istore_n 3, 1) := by decide +kernel
theorem d_Br_giveRoles_10 : decode b_Br_giveRoles 10 = .ok (.iconst 0, 1) := by decide +kernel
theorem d_Br_giveRoles_11 : decode b_Br_giveRoles 11 = .ok (.istore 4, 2) := by decide +kernel
theorem d_Br_giveRoles_13 : decode b_Br_giveRoles 13 = .ok (.iload 4, 2) := by decide +kernel
theorem d_Br_giveRoles_15 : decode b_Br_giveRoles 15 = .ok (.iload_n 3, 1) := by decide +kernel
theorem d_Br_giveRoles_16 : decode b_Br_giveRoles 16 = .ok (.if_icmp .ge 42, 3) := by decide +kernel
theorem d_Br_giveRoles_19 : decode b_Br_giveRoles 19 = .ok (.aload_n 2, 1) := by decide +kernel
theorem d_Br_giveRoles_20 : decode b_Br_giveRoles 20 = .ok (.iload 4, 2) := by decide +kernel
theorem d_Br_giveRoles_22 : decode b_Br_giveRoles 22 = .ok (.aaload, 1) := by decide +kernel
theorem d_Br_giveRoles_23 : decode b_Br_giveRoles 23 = .ok (.astore 5, 2) := by decide +kernel
theorem d_Br_giveRoles_25 : decode b_Br_giveRoles 25 = .ok (.aload_n 0, 1) := by decide +kernel
theorem d_Br_giveRoles_26 : decode b_Br_giveRoles 26 = .ok (.aload 5, 2) := by decide +kernel
theorem d_Br_giveRoles_28 : decode b_Br_giveRoles 28 = .ok (.invokevirtual 93, 3) := by decide +kernel
theorem d_Br_giveRoles_31 : decode b_Br_giveRoles 31 = .ok (.istore 6, 2) := by decide +kernel
theorem d_Br_giveRoles_33 : decode b_Br_giveRoles 33 = .ok (.iload 6, 2) := by decide +kernel
theorem d_Br_giveRoles_35 : decode b_Br_giveRoles 35 = .ok (.aload 5, 2) := by decide +kernel
theorem d_Br_giveRoles_37 : decode b_Br_giveRoles 37 = .ok (.getfield 97, 3) := by decide +kernel
theorem d_Br_giveRoles_40 : decode b_Br_giveRoles 40 = .ok (.if_icmp .eq 12, 3) := by decide +kernel
theorem d_Br_giveRoles_43 : decode b_Br_giveRoles 43 = .ok (.aload 5, 2) := by decide +kernel
theorem d_Br_giveRoles_45 : decode b_Br_giveRoles 45 = .ok (.iload 6, 2) := by decide +kernel
theorem d_Br_giveRoles_47 : decode b_Br_giveRoles 47 = .ok (.invokevirtual 100, 3) := by decide +kernel
theorem d_Br_giveRoles_50 : decode b_Br_giveRoles 50 = .ok (.iconst 1, 1) := by decide +kernel
theorem d_Br_giveRoles_51 : decode b_Br_giveRoles 51 = .ok (.istore_n 1, 1) := by decide +kernel
theorem d_Br_giveRoles_52 : decode b_Br_giveRoles 52 = .ok (.iinc 4 1, 3) := by decide +kernel
theorem d_Br_giveRoles_55 : decode b_Br_giveRoles 55 = .ok (.goto (-42), 3) := by decide +kernel
theorem d_Br_giveRoles_58 : decode b_Br_giveRoles 58 = .ok (.iload_n 1, 1) := by decide +kernel
theorem d_Br_giveRoles_59 : decode b_Br_giveRoles 59 = .ok (.ireturn, 1) := by decide +kernel
theorem d_Br_dueRole_0 : decode b_Br_dueRole 0 = .ok (.aload_n 1, 1) := by decide +kernel
theorem d_Br_dueRole_1 : decode b_Br_dueRole 1 = .ok (.invokevirtual 47, 3) := by decide +kernel
theorem d_Br_dueRole_4 : decode b_Br_dueRole 4 = .ok (.ifCond .eq 5, 3) := by decide +kernel
theorem d_Br_dueRole_7 : decode b_Br_dueRole 7 = .ok (.iconst 0, 1) := by decide +kernel
theorem d_Br_dueRole_8 : decode b_Br_dueRole 8 = .ok (.ireturn, 1) := by decide +kernel
theorem d_Br_dueRole_9 : decode b_Br_dueRole 9 = .ok (.aload_n 1, 1) := by decide +kernel
theorem d_Br_dueRole_10 : decode b_Br_dueRole 10 = .ok (.getfield 104, 3) := by decide +kernel
theorem d_Br_dueRole_13 : decode b_Br_dueRole 13 = .ok (.ifnull 5, 3) := by decide +kernel
theorem d_Br_dueRole_16 : decode b_Br_dueRole 16 = .ok (.iconst 2, 1) := by decide +kernel
theorem d_Br_dueRole_17 : decode b_Br_dueRole 17 = .ok (.ireturn, 1) := by decide +kernel
theorem d_Br_dueRole_18 : decode b_Br_dueRole 18 = .ok (.aload_n 1, 1) := by decide +kernel
theorem d_Br_dueRole_19 : decode b_Br_dueRole 19 = .ok (.aload_n 0, 1) := by decide +kernel
theorem d_Br_dueRole_20 : decode b_Br_dueRole 20 = .ok (.getfield 24, 3) := by decide +kernel
theorem d_Br_dueRole_23 : decode b_Br_dueRole 23 = .ok (.if_acmp .ne 5, 3) := by decide +kernel
theorem d_Br_dueRole_26 : decode b_Br_dueRole 26 = .ok (.iconst 1, 1) := by decide +kernel
theorem d_Br_dueRole_27 : decode b_Br_dueRole 27 = .ok (.ireturn, 1) := by decide +kernel
theorem d_Br_dueRole_28 : decode b_Br_dueRole 28 = .ok (.aload_n 1, 1) := by decide +kernel
theorem d_Br_dueRole_29 : decode b_Br_dueRole 29 = .ok (.getfield 66, 3) := by decide +kernel
theorem d_Br_dueRole_32 : decode b_Br_dueRole 32 = .ok (.ifCond .eq 16, 3) := by decide +kernel
theorem d_Br_dueRole_35 : decode b_Br_dueRole 35 = .ok (.aload_n 0, 1) := by decide +kernel
theorem d_Br_dueRole_36 : decode b_Br_dueRole 36 = .ok (.aload_n 1, 1) := by decide +kernel
theorem d_Br_dueRole_37 : decode b_Br_dueRole 37 = .ok (.invokevirtual 108, 3) := by decide +kernel
theorem d_Br_dueRole_40 : decode b_Br_dueRole 40 = .ok (.aload_n 1, 1) := by decide +kernel
theorem d_Br_dueRole_41 : decode b_Br_dueRole 41 = .ok (.getfield 70, 3) := by decide +kernel
theorem d_Br_dueRole_44 : decode b_Br_dueRole 44 = .ok (.lcmp, 1) := by decide +kernel
theorem d_Br_dueRole_45 : decode b_Br_dueRole 45 = .ok (.ifCond .ge 7, 3) := by decide +kernel
theorem d_Br_dueRole_48 : decode b_Br_dueRole 48 = .ok (.iconst 2, 1) := by decide +kernel
theorem d_Br_dueRole_49 : decode b_Br_dueRole 49 = .ok (.goto 4, 3) := by decide +kernel
theorem d_Br_dueRole_52 : decode b_Br_dueRole 52 = .ok (.iconst 3, 1) := by decide +kernel
theorem d_Br_dueRole_53 : decode b_Br_dueRole 53 = .ok (.ireturn, 1) := by decide +kernel
theorem d_Br_ownVector_0 : decode b_Br_ownVector 0 = .ok (.aload_n 0, 1) := by decide +kernel
theorem d_Br_ownVector_1 : decode b_Br_ownVector 1 = .ok (.getfield 41, 3) := by decide +kernel
theorem d_Br_ownVector_4 : decode b_Br_ownVector 4 = .ok (.aload_n 0, 1) := by decide +kernel
theorem d_Br_ownVector_5 : decode b_Br_ownVector 5 = .ok (.getfield 17, 3) := by decide +kernel
theorem d_Br_ownVector_8 : decode b_Br_ownVector 8 = .ok (.aload_n 0, 1) := by decide +kernel
theorem d_Br_ownVector_9 : decode b_Br_ownVector 9 = .ok (.getfield 38, 3) := by decide +kernel
theorem d_Br_ownVector_12 : decode b_Br_ownVector 12 = .ok (.aload_n 1, 1) := by decide +kernel
theorem d_Br_ownVector_13 : decode b_Br_ownVector 13 = .ok (.getfield 112, 3) := by decide +kernel
theorem d_Br_ownVector_16 : decode b_Br_ownVector 16 = .ok (.invokestatic 60, 3) := by decide +kernel
theorem d_Br_ownVector_19 : decode b_Br_ownVector 19 = .ok (.lreturn, 1) := by decide +kernel
theorem d_Po_become_0 : decode b_Po_become 0 = .ok (.aload_n 0, 1) := by decide +kernel
theorem d_Po_become_1 : decode b_Po_become 1 = .ok (.iload_n 1, 1) := by decide +kernel
theorem d_Po_become_2 : decode b_Po_become 2 = .ok (.putfield 47, 3) := by decide +kernel
theorem d_Po_become_5 : decode b_Po_become 5 = .ok (.aload_n 0, 1) := by decide +kernel
theorem d_Po_become_6 : decode b_Po_become 6 = .ok (.iconst 0, 1) := by decide +kernel
theorem d_Po_become_7 : decode b_Po_become 7 = .ok (.putfield 56, 3) := by decide +kernel
theorem d_Po_become_10 : decode b_Po_become 10 = .ok (.iload_n 1, 1) := by decide +kernel
theorem d_Po_become_11 : decode b_Po_become 11 = .ok (.iconst 2, 1) := by decide +kernel
theorem d_Po_become_12 : decode b_Po_become 12 = .ok (.if_icmp .ne 17, 3) := by decide +kernel
theorem d_Po_become_15 : decode b_Po_become 15 = .ok (.aload_n 0, 1) := by decide +kernel
theorem d_Po_become_16 : decode b_Po_become 16 = .ok (.getfield 29, 3) := by decide +kernel
theorem d_Po_become_19 : decode b_Po_become 19 = .ok (.ifnonnull 10, 3) := by decide +kernel
theorem d_Po_become_22 : decode b_Po_become 22 = .ok (.aload_n 0, 1) := by decide +kernel
theorem d_Po_become_23 : decode b_Po_become 23 = .ok (.invokevirtual 81, 3) := by decide +kernel
theorem d_Po_become_26 : decode b_Po_become 26 = .ok (.goto 32, 3) := by decide +kernel
theorem d_Po_become_29 : decode b_Po_become 29 = .ok (.aload_n 0, 1) := by decide +kernel
theorem d_Po_become_30 : decode b_Po_become 30 = .ok (.iconst 0, 1) := by decide +kernel
theorem d_Po_become_31 : decode b_Po_become 31 = .ok (.putfield 53, 3) := by decide +kernel
theorem d_Po_become_34 : decode b_Po_become 34 = .ok (.aload_n 0, 1) := by decide +kernel
theorem d_Po_become_35 : decode b_Po_become 35 = .ok (.iconst 0, 1) := by decide +kernel
theorem d_Po_become_36 : decode b_Po_become 36 = .ok (.putfield 59, 3) := by decide +kernel
theorem d_Po_become_39 : decode b_Po_become 39 = .ok (.aload_n 0, 1) := by decide +kernel
theorem d_Po_become_40 : decode b_Po_become 40 = .ok (.iload_n 1, 1) := by decide +kernel
theorem d_Po_become_41 : decode b_Po_become 41 = .ok (.iconst 1, 1) := by decide +kernel
theorem d_Po_become_42 : decode b_Po_become 42 = .ok (.if_icmp .eq 8, 3) := by decide +kernel
theorem d_Po_become_45 : decode b_Po_become 45 = .ok (.iload_n 1, 1) := by decide +kernel
theorem d_Po_become_46 : decode b_Po_become 46 = .ok (.iconst 2, 1) := by decide +kernel
theorem d_Po_become_47 : decode b_Po_become 47 = .ok (.if_icmp .ne 7, 3) := by decide +kernel
theorem d_Po_become_50 : decode b_Po_become 50 = .ok (.iconst 2, 1) := by decide +kernel
theorem d_Po_become_51 : decode b_Po_become 51 = .ok (.goto 4, 3) := by decide +kernel
theorem d_Po_become_54 : decode b_Po_become 54 = .ok (.iconst 0, 1) := by decide +kernel
theorem d_Po_become_55 : decode b_Po_become 55 = .ok (.putfield 50, 3) := by decide +kernel
theorem d_Po_become_58 : decode b_Po_become 58 = .ok (.return_, 1) := by decide +kernel
theorem d_Po_propose_0 : decode b_Po_propose 0 = .ok (.aload_n 0, 1) := by decide +kernel
theorem d_Po_propose_1 : decode b_Po_propose 1 = .ok (.iconst 0, 1) := by decide +kernel
theorem d_Po_propose_2 : decode b_Po_propose 2 = .ok (.putfield 50, 3) := by decide +kernel
theorem d_Po_propose_5 : decode b_Po_propose 5 = .ok (.aload_n 0, 1) := by decide +kernel
theorem d_Po_propose_6 : decode b_Po_propose 6 = .ok (.iconst 1, 1) := by decide +kernel
theorem d_Po_propose_7 : decode b_Po_propose 7 = .ok (.putfield 53, 3) := by decide +kernel
theorem d_Po_propose_10 : decode b_Po_propose 10 = .ok (.aload_n 0, 1) := by decide +kernel
theorem d_Po_propose_11 : decode b_Po_propose 11 = .ok (.iconst 4, 1) := by decide +kernel
theorem d_Po_propose_12 : decode b_Po_propose 12 = .ok (.putfield 59, 3) := by decide +kernel
theorem d_Po_propose_15 : decode b_Po_propose 15 = .ok (.return_, 1) := by decide +kernel
theorem d_Br_tellOnAll_0 : decode b_Br_tellOnAll 0 = .ok (.aload_n 0, 1) := by decide +kernel
theorem d_Br_tellOnAll_1 : decode b_Br_tellOnAll 1 = .ok (.getfield 11, 3) := by decide +kernel
theorem d_Br_tellOnAll_4 : decode b_Br_tellOnAll 4 = .ok (.astore_n 1, 1) := by decide +kernel
theorem d_Br_tellOnAll_5 : decode b_Br_tellOnAll 5 = .ok (.aload_n 1, 1) := by decide +kernel
theorem d_Br_tellOnAll_6 : decode b_Br_tellOnAll 6 = .ok (.arraylength, 1) := by decide +kernel
theorem d_Br_tellOnAll_7 : decode b_Br_tellOnAll 7 = .ok (.istore_n 2, 1) := by decide +kernel
theorem d_Br_tellOnAll_8 : decode b_Br_tellOnAll 8 = .ok (.iconst 0, 1) := by decide +kernel
theorem d_Br_tellOnAll_9 : decode b_Br_tellOnAll 9 = .ok (.istore_n 3, 1) := by decide +kernel
theorem d_Br_tellOnAll_10 : decode b_Br_tellOnAll 10 = .ok (.iload_n 3, 1) := by decide +kernel
theorem d_Br_tellOnAll_11 : decode b_Br_tellOnAll 11 = .ok (.iload_n 2, 1) := by decide +kernel
theorem d_Br_tellOnAll_12 : decode b_Br_tellOnAll 12 = .ok (.if_icmp .ge 28, 3) := by decide +kernel
theorem d_Br_tellOnAll_15 : decode b_Br_tellOnAll 15 = .ok (.aload_n 1, 1) := by decide +kernel
theorem d_Br_tellOnAll_16 : decode b_Br_tellOnAll 16 = .ok (.iload_n 3, 1) := by decide +kernel
theorem d_Br_tellOnAll_17 : decode b_Br_tellOnAll 17 = .ok (.aaload, 1) := by decide +kernel
theorem d_Br_tellOnAll_18 : decode b_Br_tellOnAll 18 = .ok (.astore 4, 2) := by decide +kernel
theorem d_Br_tellOnAll_20 : decode b_Br_tellOnAll 20 = .ok (.aload 4, 2) := by decide +kernel
theorem d_Br_tellOnAll_22 : decode b_Br_tellOnAll 22 = .ok (.invokevirtual 113, 3) := by decide +kernel
theorem d_Br_tellOnAll_25 : decode b_Br_tellOnAll 25 = .ok (.ifCond .eq 9, 3) := by decide +kernel
theorem d_Br_tellOnAll_28 : decode b_Br_tellOnAll 28 = .ok (.aload_n 0, 1) := by decide +kernel
theorem d_Br_tellOnAll_29 : decode b_Br_tellOnAll 29 = .ok (.aload 4, 2) := by decide +kernel
theorem d_Br_tellOnAll_31 : decode b_Br_tellOnAll 31 = .ok (.invokevirtual 116, 3) := by decide +kernel
theorem d_Br_tellOnAll_34 : decode b_Br_tellOnAll 34 = .ok (.iinc 3 1, 3) := by decide +kernel
theorem d_Br_tellOnAll_37 : decode b_Br_tellOnAll 37 = .ok (.goto (-27), 3) := by decide +kernel
theorem d_Br_tellOnAll_40 : decode b_Br_tellOnAll 40 = .ok (.return_, 1) := by decide +kernel
theorem d_Po_isLinkedDesignated_0 : decode b_Po_isLinkedDesignated 0 = .ok (.aload_n 0, 1) := by decide +kernel
theorem d_Po_isLinkedDesignated_1 : decode b_Po_isLinkedDesignated 1 = .ok (.getfield 25, 3) := by decide +kernel
theorem d_Po_isLinkedDesignated_4 : decode b_Po_isLinkedDesignated 4 = .ok (.ifnull 15, 3) := by decide +kernel
theorem d_Po_isLinkedDesignated_7 : decode b_Po_isLinkedDesignated 7 = .ok (.aload_n 0, 1) := by decide +kernel
theorem d_Po_isLinkedDesignated_8 : decode b_Po_isLinkedDesignated 8 = .ok (.getfield 47, 3) := by decide +kernel
theorem d_Po_isLinkedDesignated_11 : decode b_Po_isLinkedDesignated 11 = .ok (.iconst 2, 1) := by decide +kernel
theorem d_Po_isLinkedDesignated_12 : decode b_Po_isLinkedDesignated 12 = .ok (.if_icmp .ne 7, 3) := by decide +kernel
theorem d_Po_isLinkedDesignated_15 : decode b_Po_isLinkedDesignated 15 = .ok (.iconst 1, 1) := by decide +kernel
theorem d_Po_isLinkedDesignated_16 : decode b_Po_isLinkedDesignated 16 = .ok (.goto 4, 3) := by decide +kernel
theorem d_Po_isLinkedDesignated_19 : decode b_Po_isLinkedDesignated 19 = .ok (.iconst 0, 1) := by decide +kernel
theorem d_Po_isLinkedDesignated_20 : decode b_Po_isLinkedDesignated 20 = .ok (.ireturn, 1) := by decide +kernel
theorem d_Br_tellOn_0 : decode b_Br_tellOn 0 = .ok (.aload_n 1, 1) := by decide +kernel
theorem d_Br_tellOn_1 : decode b_Br_tellOn 1 = .ok (.getfield 120, 3) := by decide +kernel
theorem d_Br_tellOn_4 : decode b_Br_tellOn 4 = .ok (.ifnull 26, 3) := by decide +kernel
theorem d_Br_tellOn_7 : decode b_Br_tellOn 7 = .ok (.aload_n 1, 1) := by decide +kernel
theorem d_Br_tellOn_8 : decode b_Br_tellOn 8 = .ok (.getfield 120, 3) := by decide +kernel
theorem d_Br_tellOn_11 : decode b_Br_tellOn 11 = .ok (.getfield 123, 3) := by decide +kernel
theorem d_Br_tellOn_14 : decode b_Br_tellOn 14 = .ok (.aload_n 0, 1) := by decide +kernel
theorem d_Br_tellOn_15 : decode b_Br_tellOn 15 = .ok (.aload_n 1, 1) := by decide +kernel
theorem d_Br_tellOn_16 : decode b_Br_tellOn 16 = .ok (.invokevirtual 108, 3) := by decide +kernel
theorem d_Br_tellOn_19 : decode b_Br_tellOn 19 = .ok (.aload_n 0, 1) := by decide +kernel
theorem d_Br_tellOn_20 : decode b_Br_tellOn 20 = .ok (.getfield 21, 3) := by decide +kernel
theorem d_Br_tellOn_23 : decode b_Br_tellOn 23 = .ok (.aload_n 1, 1) := by decide +kernel
theorem d_Br_tellOn_24 : decode b_Br_tellOn 24 = .ok (.getfield 127, 3) := by decide +kernel
theorem d_Br_tellOn_27 : decode b_Br_tellOn 27 = .ok (.invokevirtual 130, 3) := by decide +kernel
theorem d_Br_tellOn_30 : decode b_Br_tellOn 30 = .ok (.return_, 1) := by decide +kernel
theorem d_Li_putTell_0 : decode b_Li_putTell 0 = .ok (.aload_n 0, 1) := by decide +kernel
theorem d_Li_putTell_1 : decode b_Li_putTell 1 = .ok (.iconst 1, 1) := by decide +kernel
theorem d_Li_putTell_2 : decode b_Li_putTell 2 = .ok (.lload_n 1, 1) := by decide +kernel
theorem d_Li_putTell_3 : decode b_Li_putTell 3 = .ok (.invokestatic 25, 3) := by decide +kernel
theorem d_Li_putTell_6 : decode b_Li_putTell 6 = .ok (.aconst_null, 1) := by decide +kernel
theorem d_Li_putTell_7 : decode b_Li_putTell 7 = .ok (.invokevirtual 31, 3) := by decide +kernel
theorem d_Li_putTell_10 : decode b_Li_putTell 10 = .ok (.astore 5, 2) := by decide +kernel
theorem d_Li_putTell_12 : decode b_Li_putTell 12 = .ok (.aload 5, 2) := by decide +kernel
theorem d_Li_putTell_14 : decode b_Li_putTell 14 = .ok (.ifnull 22, 3) := by decide +kernel
theorem d_Li_putTell_17 : decode b_Li_putTell 17 = .ok (.aload 5, 2) := by decide +kernel
theorem d_Li_putTell_19 : decode b_Li_putTell 19 = .ok (.lload_n 1, 1) := by decide +kernel
theorem d_Li_putTell_20 : decode b_Li_putTell 20 = .ok (.putfield 35, 3) := by decide +kernel
theorem d_Li_putTell_23 : decode b_Li_putTell 23 = .ok (.aload 5, 2) := by decide +kernel
theorem d_Li_putTell_25 : decode b_Li_putTell 25 = .ok (.iload_n 3, 1) := by decide +kernel
theorem d_Li_putTell_26 : decode b_Li_putTell 26 = .ok (.putfield 39, 3) := by decide +kernel
theorem d_Li_putTell_29 : decode b_Li_putTell 29 = .ok (.aload 5, 2) := by decide +kernel
theorem d_Li_putTell_31 : decode b_Li_putTell 31 = .ok (.iload 4, 2) := by decide +kernel
theorem d_Li_putTell_33 : decode b_Li_putTell 33 = .ok (.putfield 42, 3) := by decide +kernel
theorem d_Li_putTell_36 : decode b_Li_putTell 36 = .ok (.return_, 1) := by decide +kernel
theorem d_Li_put_0 : decode b_Li_put 0 = .ok (.aload_n 0, 1) := by decide +kernel
theorem d_Li_put_1 : decode b_Li_put 1 = .ok (.getfield 21, 3) := by decide +kernel
theorem d_Li_put_4 : decode b_Li_put 4 = .ok (.bipush 12, 2) := by decide +kernel
theorem d_Li_put_6 : decode b_Li_put 6 = .ok (.if_icmp .ne 5, 3) := by decide +kernel
theorem d_Li_put_9 : decode b_Li_put 9 = .ok (.aconst_null, 1) := by decide +kernel
theorem d_Li_put_10 : decode b_Li_put 10 = .ok (.areturn, 1) := by decide +kernel
theorem d_Li_put_11 : decode b_Li_put 11 = .ok (.aload_n 0, 1) := by decide +kernel
theorem d_Li_put_12 : decode b_Li_put 12 = .ok (.getfield 11, 3) := by decide +kernel
theorem d_Li_put_15 : decode b_Li_put 15 = .ok (.aload_n 0, 1) := by decide +kernel
theorem d_Li_put_16 : decode b_Li_put 16 = .ok (.getfield 17, 3) := by decide +kernel
theorem d_Li_put_19 : decode b_Li_put 19 = .ok (.aload_n 0, 1) := by decide +kernel
theorem d_Li_put_20 : decode b_Li_put 20 = .ok (.getfield 21, 3) := by decide +kernel
theorem d_Li_put_23 : decode b_Li_put 23 = .ok (.iadd, 1) := by decide +kernel
theorem d_Li_put_24 : decode b_Li_put 24 = .ok (.bipush 12, 2) := by decide +kernel
theorem d_Li_put_26 : decode b_Li_put 26 = .ok (.irem, 1) := by decide +kernel
theorem d_Li_put_27 : decode b_Li_put 27 = .ok (.aaload, 1) := by decide +kernel
theorem d_Li_put_28 : decode b_Li_put 28 = .ok (.astore 4, 2) := by decide +kernel
theorem d_Li_put_30 : decode b_Li_put 30 = .ok (.aload_n 0, 1) := by decide +kernel
theorem d_Li_put_31 : decode b_Li_put 31 = .ok (.dup, 1) := by decide +kernel
theorem d_Li_put_32 : decode b_Li_put 32 = .ok (.getfield 21, 3) := by decide +kernel
theorem d_Li_put_35 : decode b_Li_put 35 = .ok (.iconst 1, 1) := by decide +kernel
theorem d_Li_put_36 : decode b_Li_put 36 = .ok (.iadd, 1) := by decide +kernel
theorem d_Li_put_37 : decode b_Li_put 37 = .ok (.putfield 21, 3) := by decide +kernel
theorem d_Li_put_40 : decode b_Li_put 40 = .ok (.aload 4, 2) := by decide +kernel
theorem d_Li_put_42 : decode b_Li_put 42 = .ok (.iload_n 1, 1) := by decide +kernel
theorem d_Li_put_43 : decode b_Li_put 43 = .ok (.putfield 46, 3) := by decide +kernel
theorem d_Li_put_46 : decode b_Li_put 46 = .ok (.aload 4, 2) := by decide +kernel
theorem d_Li_put_48 : decode b_Li_put 48 = .ok (.iload_n 2, 1) := by decide +kernel
theorem d_Li_put_49 : decode b_Li_put 49 = .ok (.putfield 49, 3) := by decide +kernel
theorem d_Li_put_52 : decode b_Li_put 52 = .ok (.aload 4, 2) := by decide +kernel
theorem d_Li_put_54 : decode b_Li_put 54 = .ok (.aload_n 3, 1) := by decide +kernel
theorem d_Li_put_55 : decode b_Li_put 55 = .ok (.putfield 52, 3) := by decide +kernel
theorem d_Li_put_58 : decode b_Li_put 58 = .ok (.aload 4, 2) := by decide +kernel
theorem d_Li_put_60 : decode b_Li_put 60 = .ok (.areturn, 1) := by decide +kernel
theorem d_Ne_set_0 : decode b_Ne_set 0 = .ok (.aload_n 0, 1) := by decide +kernel
theorem d_Ne_set_1 : decode b_Ne_set 1 = .ok (.iload_n 1, 1) := by decide +kernel
theorem d_Ne_set_2 : decode b_Ne_set 2 = .ok (.iload_n 2, 1) := by decide +kernel
theorem d_Ne_set_3 : decode b_Ne_set 3 = .ok (.invokevirtual 46, 3) := by decide +kernel
theorem d_Ne_set_6 : decode b_Ne_set 6 = .ok (.astore 5, 2) := by decide +kernel
theorem d_Ne_set_8 : decode b_Ne_set 8 = .ok (.aload 5, 2) := by decide +kernel
theorem d_Ne_set_10 : decode b_Ne_set 10 = .ok (.ifnull 26, 3) := by decide +kernel
theorem d_Ne_set_13 : decode b_Ne_set 13 = .ok (.iload_n 3, 1) := by decide +kernel
theorem d_Ne_set_14 : decode b_Ne_set 14 = .ok (.iconst 1, 1) := by decide +kernel
theorem d_Ne_set_15 : decode b_Ne_set 15 = .ok (.if_icmp .lt 21, 3) := by decide +kernel
theorem d_Ne_set_18 : decode b_Ne_set 18 = .ok (.iload_n 3, 1) := by decide +kernel
theorem d_Ne_set_19 : decode b_Ne_set 19 = .ok (.bipush 50, 2) := by decide +kernel
theorem d_Ne_set_21 : decode b_Ne_set 21 = .ok (.if_icmp .gt 15, 3) := by decide +kernel
theorem d_Ne_set_24 : decode b_Ne_set 24 = .ok (.iload 4, 2) := by decide +kernel
theorem d_Ne_set_26 : decode b_Ne_set 26 = .ok (.iconst 1, 1) := by decide +kernel
theorem d_Ne_set_27 : decode b_Ne_set 27 = .ok (.if_icmp .lt 9, 3) := by decide +kernel
theorem d_Ne_set_30 : decode b_Ne_set 30 = .ok (.iload 4, 2) := by decide +kernel
theorem d_Ne_set_32 : decode b_Ne_set 32 = .ok (.iconst 3, 1) := by decide +kernel
theorem d_Ne_set_33 : decode b_Ne_set 33 = .ok (.if_icmp .le 5, 3) := by decide +kernel
theorem d_Ne_set_36 : decode b_Ne_set 36 = .ok (.iconst 0, 1) := by decide +kernel
theorem d_Ne_set_37 : decode b_Ne_set 37 = .ok (.ireturn, 1) := by decide +kernel
theorem d_Ne_set_38 : decode b_Ne_set 38 = .ok (.aload 5, 2) := by decide +kernel
theorem d_Ne_set_40 : decode b_Ne_set 40 = .ok (.iload_n 3, 1) := by decide +kernel
theorem d_Ne_set_41 : decode b_Ne_set 41 = .ok (.putfield 50, 3) := by decide +kernel
theorem d_Ne_set_44 : decode b_Ne_set 44 = .ok (.aload 5, 2) := by decide +kernel
theorem d_Ne_set_46 : decode b_Ne_set 46 = .ok (.iload 4, 2) := by decide +kernel
theorem d_Ne_set_48 : decode b_Ne_set 48 = .ok (.putfield 56, 3) := by decide +kernel
theorem d_Ne_set_51 : decode b_Ne_set 51 = .ok (.aload 5, 2) := by decide +kernel
theorem d_Ne_set_53 : decode b_Ne_set 53 = .ok (.getfield 59, 3) := by decide +kernel
theorem d_Ne_set_56 : decode b_Ne_set 56 = .ok (.invokevirtual 43, 3) := by decide +kernel
theorem d_Ne_set_59 : decode b_Ne_set 59 = .ok (.iconst 1, 1) := by decide +kernel
theorem d_Ne_set_60 : decode b_Ne_set 60 = .ok (.ireturn, 1) := by decide +kernel
theorem d_Ne_findPort_0 : decode b_Ne_findPort 0 = .ok (.iload_n 1, 1) := by decide +kernel
theorem d_Ne_findPort_1 : decode b_Ne_findPort 1 = .ok (.invokestatic 32, 3) := by decide +kernel
theorem d_Ne_findPort_4 : decode b_Ne_findPort 4 = .ok (.ifCond .eq 26, 3) := by decide +kernel
theorem d_Ne_findPort_7 : decode b_Ne_findPort 7 = .ok (.iload_n 2, 1) := by decide +kernel
theorem d_Ne_findPort_8 : decode b_Ne_findPort 8 = .ok (.ifCond .lt 22, 3) := by decide +kernel
theorem d_Ne_findPort_11 : decode b_Ne_findPort 11 = .ok (.iload_n 2, 1) := by decide +kernel
theorem d_Ne_findPort_12 : decode b_Ne_findPort 12 = .ok (.iconst 4, 1) := by decide +kernel
theorem d_Ne_findPort_13 : decode b_Ne_findPort 13 = .ok (.if_icmp .ge 17, 3) := by decide +kernel
theorem d_Ne_findPort_16 : decode b_Ne_findPort 16 = .ok (.aload_n 0, 1) := by decide +kernel
theorem d_Ne_findPort_17 : decode b_Ne_findPort 17 = .ok (.getfield 11, 3) := by decide +kernel
theorem d_Ne_findPort_20 : decode b_Ne_findPort 20 = .ok (.iload_n 1, 1) := by decide +kernel
theorem d_Ne_findPort_21 : decode b_Ne_findPort 21 = .ok (.aaload, 1) := by decide +kernel
theorem d_Ne_findPort_22 : decode b_Ne_findPort 22 = .ok (.getfield 195, 3) := by decide +kernel
theorem d_Ne_findPort_25 : decode b_Ne_findPort 25 = .ok (.iload_n 2, 1) := by decide +kernel
theorem d_Ne_findPort_26 : decode b_Ne_findPort 26 = .ok (.aaload, 1) := by decide +kernel
theorem d_Ne_findPort_27 : decode b_Ne_findPort 27 = .ok (.goto 4, 3) := by decide +kernel
theorem d_Ne_findPort_30 : decode b_Ne_findPort 30 = .ok (.aconst_null, 1) := by decide +kernel
theorem d_Ne_findPort_31 : decode b_Ne_findPort 31 = .ok (.areturn, 1) := by decide +kernel
theorem d_Ne_link_0 : decode b_Ne_link 0 = .ok (.aload_n 0, 1) := by decide +kernel
theorem d_Ne_link_1 : decode b_Ne_link 1 = .ok (.iload_n 1, 1) := by decide +kernel
theorem d_Ne_link_2 : decode b_Ne_link 2 = .ok (.iload_n 2, 1) := by decide +kernel
theorem d_Ne_link_3 : decode b_Ne_link 3 = .ok (.invokevirtual 46, 3) := by decide +kernel
theorem d_Ne_link_6 : decode b_Ne_link 6 = .ok (.astore 5, 2) := by decide +kernel
theorem d_Ne_link_8 : decode b_Ne_link 8 = .ok (.aload_n 0, 1) := by decide +kernel
theorem d_Ne_link_9 : decode b_Ne_link 9 = .ok (.iload_n 3, 1) := by decide +kernel
theorem d_Ne_link_10 : decode b_Ne_link 10 = .ok (.iload 4, 2) := by decide +kernel
theorem d_Ne_link_12 : decode b_Ne_link 12 = .ok (.invokevirtual 46, 3) := by decide +kernel
theorem d_Ne_link_15 : decode b_Ne_link 15 = .ok (.astore 6, 2) := by decide +kernel
theorem d_Ne_link_17 : decode b_Ne_link 17 = .ok (.aload 5, 2) := by decide +kernel
theorem d_Ne_link_19 : decode b_Ne_link 19 = .ok (.ifnull 29, 3) := by decide +kernel
theorem d_Ne_link_22 : decode b_Ne_link 22 = .ok (.aload 6, 2) := by decide +kernel
theorem d_Ne_link_24 : decode b_Ne_link 24 = .ok (.ifnull 24, 3) := by decide +kernel
theorem d_Ne_link_27 : decode b_Ne_link 27 = .ok (.iload_n 1, 1) := by decide +kernel
theorem d_Ne_link_28 : decode b_Ne_link 28 = .ok (.iload_n 3, 1) := by decide +kernel
theorem d_Ne_link_29 : decode b_Ne_link 29 = .ok (.if_icmp .eq 19, 3) := by decide +kernel
theorem d_Ne_link_32 : decode b_Ne_link 32 = .ok (.aload 5, 2) := by decide +kernel
theorem d_Ne_link_34 : decode b_Ne_link 34 = .ok (.invokevirtual 63, 3) := by decide +kernel
theorem d_Ne_link_37 : decode b_Ne_link 37 = .ok (.ifCond .eq 11, 3) := by decide +kernel
theorem d_Ne_link_40 : decode b_Ne_link 40 = .ok (.aload 6, 2) := by decide +kernel
theorem d_Ne_link_42 : decode b_Ne_link 42 = .ok (.invokevirtual 63, 3) := by decide +kernel
theorem d_Ne_link_45 : decode b_Ne_link 45 = .ok (.ifCond .ne 5, 3) := by decide +kernel
theorem d_Ne_link_48 : decode b_Ne_link 48 = .ok (.iconst 0, 1) := by decide +kernel
theorem d_Ne_link_49 : decode b_Ne_link 49 = .ok (.ireturn, 1) := by decide +kernel
theorem d_Ne_link_50 : decode b_Ne_link 50 = .ok (.aload 5, 2) := by decide +kernel
theorem d_Ne_link_52 : decode b_Ne_link 52 = .ok (.aload 6, 2) := by decide +kernel
theorem d_Ne_link_54 : decode b_Ne_link 54 = .ok (.aconst_null, 1) := by decide +kernel
theorem d_Ne_link_55 : decode b_Ne_link 55 = .ok (.invokevirtual 66, 3) := by decide +kernel
theorem d_Ne_link_58 : decode b_Ne_link 58 = .ok (.aload 6, 2) := by decide +kernel
theorem d_Ne_link_60 : decode b_Ne_link 60 = .ok (.aload 5, 2) := by decide +kernel
theorem d_Ne_link_62 : decode b_Ne_link 62 = .ok (.aconst_null, 1) := by decide +kernel
theorem d_Ne_link_63 : decode b_Ne_link 63 = .ok (.invokevirtual 66, 3) := by decide +kernel
theorem d_Ne_link_66 : decode b_Ne_link 66 = .ok (.aload 5, 2) := by decide +kernel
theorem d_Ne_link_68 : decode b_Ne_link 68 = .ok (.getfield 59, 3) := by decide +kernel
theorem d_Ne_link_71 : decode b_Ne_link 71 = .ok (.invokevirtual 43, 3) := by decide +kernel
theorem d_Ne_link_74 : decode b_Ne_link 74 = .ok (.aload 6, 2) := by decide +kernel
theorem d_Ne_link_76 : decode b_Ne_link 76 = .ok (.getfield 59, 3) := by decide +kernel
theorem d_Ne_link_79 : decode b_Ne_link 79 = .ok (.invokevirtual 43, 3) := by decide +kernel
theorem d_Ne_link_82 : decode b_Ne_link 82 = .ok (.iconst 1, 1) := by decide +kernel
theorem d_Ne_link_83 : decode b_Ne_link 83 = .ok (.ireturn, 1) := by decide +kernel
theorem d_Po_join_0 : decode b_Po_join 0 = .ok (.aload_n 0, 1) := by decide +kernel
theorem d_Po_join_1 : decode b_Po_join 1 = .ok (.aload_n 1, 1) := by decide +kernel
theorem d_Po_join_2 : decode b_Po_join 2 = .ok (.putfield 25, 3) := by decide +kernel
theorem d_Po_join_5 : decode b_Po_join 5 = .ok (.aload_n 0, 1) := by decide +kernel
theorem d_Po_join_6 : decode b_Po_join 6 = .ok (.aload_n 2, 1) := by decide +kernel
theorem d_Po_join_7 : decode b_Po_join 7 = .ok (.putfield 29, 3) := by decide +kernel
theorem d_Po_join_10 : decode b_Po_join 10 = .ok (.aload_n 0, 1) := by decide +kernel
theorem d_Po_join_11 : decode b_Po_join 11 = .ok (.iconst 0, 1) := by decide +kernel
theorem d_Po_join_12 : decode b_Po_join 12 = .ok (.putfield 33, 3) := by decide +kernel
theorem d_Po_join_15 : decode b_Po_join 15 = .ok (.aload_n 0, 1) := by decide +kernel
theorem d_Po_join_16 : decode b_Po_join 16 = .ok (.getfield 12, 3) := by decide +kernel
theorem d_Po_join_19 : decode b_Po_join 19 = .ok (.invokevirtual 69, 3) := by decide +kernel
theorem d_Po_join_22 : decode b_Po_join 22 = .ok (.aload_n 0, 1) := by decide +kernel
theorem d_Po_join_23 : decode b_Po_join 23 = .ok (.getfield 62, 3) := by decide +kernel
theorem d_Po_join_26 : decode b_Po_join 26 = .ok (.aload_n 0, 1) := by decide +kernel
theorem d_Po_join_27 : decode b_Po_join 27 = .ok (.getfield 66, 3) := by decide +kernel
theorem d_Po_join_30 : decode b_Po_join 30 = .ok (.invokevirtual 72, 3) := by decide +kernel
theorem d_Po_join_33 : decode b_Po_join 33 = .ok (.aload_n 0, 1) := by decide +kernel
theorem d_Po_join_34 : decode b_Po_join 34 = .ok (.iconst 0, 1) := by decide +kernel
theorem d_Po_join_35 : decode b_Po_join 35 = .ok (.invokevirtual 78, 3) := by decide +kernel
theorem d_Po_join_38 : decode b_Po_join 38 = .ok (.return_, 1) := by decide +kernel
theorem d_Li_empty_0 : decode b_Li_empty 0 = .ok (.aload_n 0, 1) := by decide +kernel
theorem d_Li_empty_1 : decode b_Li_empty 1 = .ok (.iconst 0, 1) := by decide +kernel
theorem d_Li_empty_2 : decode b_Li_empty 2 = .ok (.putfield 21, 3) := by decide +kernel
theorem d_Li_empty_5 : decode b_Li_empty 5 = .ok (.return_, 1) := by decide +kernel
theorem d_Br_forgetBehind_0 : decode b_Br_forgetBehind 0 = .ok (.iconst 0, 1) := by decide +kernel
theorem d_Br_forgetBehind_1 : decode b_Br_forgetBehind 1 = .ok (.istore_n 2, 1) := by decide +kernel
theorem d_Br_forgetBehind_2 : decode b_Br_forgetBehind 2 = .ok (.iload_n 2, 1) := by decide +kernel
theorem d_Br_forgetBehind_3 : decode b_Br_forgetBehind 3 = .ok (.aload_n 0, 1) := by decide +kernel
theorem d_Br_forgetBehind_4 : decode b_Br_forgetBehind 4 = .ok (.getfield 28, 3) := by decide +kernel
theorem d_Br_forgetBehind_7 : decode b_Br_forgetBehind 7 = .ok (.arraylength, 1) := by decide +kernel
theorem d_Br_forgetBehind_8 : decode b_Br_forgetBehind 8 = .ok (.if_icmp .ge 26, 3) := by decide +kernel
theorem d_Br_forgetBehind_11 : decode b_Br_forgetBehind 11 = .ok (.aload_n 0, 1) := by decide +kernel
theorem d_Br_forgetBehind_12 : decode b_Br_forgetBehind 12 = .ok (.getfield 28, 3) := by decide +kernel
theorem d_Br_forgetBehind_15 : decode b_Br_forgetBehind 15 = .ok (.iload_n 2, 1) := by decide +kernel
theorem d_Br_forgetBehind_16 : decode b_Br_forgetBehind 16 = .ok (.iaload, 1) := by decide +kernel
theorem d_Br_forgetBehind_17 : decode b_Br_forgetBehind 17 = .ok (.iload_n 1, 1) := by decide +kernel
theorem d_Br_forgetBehind_18 : decode b_Br_forgetBehind 18 = .ok (.if_icmp .ne 10, 3) := by decide +kernel
theorem d_Br_forgetBehind_21 : decode b_Br_forgetBehind 21 = .ok (.aload_n 0, 1) := by decide +kernel
theorem d_Br_forgetBehind_22 : decode b_Br_forgetBehind 22 = .ok (.getfield 32, 3) := by decide +kernel
theorem d_Br_forgetBehind_25 : decode b_Br_forgetBehind 25 = .ok (.iload_n 2, 1) := by decide +kernel
theorem d_Br_forgetBehind_26 : decode b_Br_forgetBehind 26 = .ok (.iconst 0, 1) := by decide +kernel
theorem d_Br_forgetBehind_27 : decode b_Br_forgetBehind 27 = .ok (.iastore, 1) := by decide +kernel
theorem d_Br_forgetBehind_28 : decode b_Br_forgetBehind 28 = .ok (.iinc 2 1, 3) := by decide +kernel
theorem d_Br_forgetBehind_31 : decode b_Br_forgetBehind 31 = .ok (.goto (-29), 3) := by decide +kernel
theorem d_Br_forgetBehind_34 : decode b_Br_forgetBehind 34 = .ok (.return_, 1) := by decide +kernel
theorem d_Ne_cut_0 : decode b_Ne_cut 0 = .ok (.aload_n 0, 1) := by decide +kernel
theorem d_Ne_cut_1 : decode b_Ne_cut 1 = .ok (.iload_n 1, 1) := by decide +kernel
theorem d_Ne_cut_2 : decode b_Ne_cut 2 = .ok (.iload_n 2, 1) := by decide +kernel
theorem d_Ne_cut_3 : decode b_Ne_cut 3 = .ok (.invokevirtual 46, 3) := by decide +kernel
theorem d_Ne_cut_6 : decode b_Ne_cut 6 = .ok (.astore_n 3, 1) := by decide +kernel
theorem d_Ne_cut_7 : decode b_Ne_cut 7 = .ok (.aload_n 3, 1) := by decide +kernel
theorem d_Ne_cut_8 : decode b_Ne_cut 8 = .ok (.ifnull 10, 3) := by decide +kernel
theorem d_Ne_cut_11 : decode b_Ne_cut 11 = .ok (.aload_n 3, 1) := by decide +kernel
theorem d_Ne_cut_12 : decode b_Ne_cut 12 = .ok (.getfield 70, 3) := by decide +kernel
theorem d_Ne_cut_15 : decode b_Ne_cut 15 = .ok (.ifnonnull 5, 3) := by decide +kernel
theorem d_Ne_cut_18 : decode b_Ne_cut 18 = .ok (.iconst 0, 1) := by decide +kernel
theorem d_Ne_cut_19 : decode b_Ne_cut 19 = .ok (.ireturn, 1) := by decide +kernel
theorem d_Ne_cut_20 : decode b_Ne_cut 20 = .ok (.aload_n 3, 1) := by decide +kernel
theorem d_Ne_cut_21 : decode b_Ne_cut 21 = .ok (.getfield 70, 3) := by decide +kernel
theorem d_Ne_cut_24 : decode b_Ne_cut 24 = .ok (.astore 4, 2) := by decide +kernel
theorem d_Ne_cut_26 : decode b_Ne_cut 26 = .ok (.aload_n 3, 1) := by decide +kernel
theorem d_Ne_cut_27 : decode b_Ne_cut 27 = .ok (.aconst_null, 1) := by decide +kernel
theorem d_Ne_cut_28 : decode b_Ne_cut 28 = .ok (.aconst_null, 1) := by decide +kernel
theorem d_Ne_cut_29 : decode b_Ne_cut 29 = .ok (.invokevirtual 66, 3) := by decide +kernel
theorem d_Ne_cut_32 : decode b_Ne_cut 32 = .ok (.aload 4, 2) := by decide +kernel
theorem d_Ne_cut_34 : decode b_Ne_cut 34 = .ok (.aconst_null, 1) := by decide +kernel
theorem d_Ne_cut_35 : decode b_Ne_cut 35 = .ok (.aconst_null, 1) := by decide +kernel
theorem d_Ne_cut_36 : decode b_Ne_cut 36 = .ok (.invokevirtual 66, 3) := by decide +kernel
theorem d_Ne_cut_39 : decode b_Ne_cut 39 = .ok (.aload_n 3, 1) := by decide +kernel
theorem d_Ne_cut_40 : decode b_Ne_cut 40 = .ok (.getfield 59, 3) := by decide +kernel
theorem d_Ne_cut_43 : decode b_Ne_cut 43 = .ok (.invokevirtual 43, 3) := by decide +kernel
theorem d_Ne_cut_46 : decode b_Ne_cut 46 = .ok (.aload 4, 2) := by decide +kernel
theorem d_Ne_cut_48 : decode b_Ne_cut 48 = .ok (.getfield 59, 3) := by decide +kernel
theorem d_Ne_cut_51 : decode b_Ne_cut 51 = .ok (.invokevirtual 43, 3) := by decide +kernel
theorem d_Ne_cut_54 : decode b_Ne_cut 54 = .ok (.iconst 1, 1) := by decide +kernel
theorem d_Ne_cut_55 : decode b_Ne_cut 55 = .ok (.ireturn, 1) := by decide +kernel
theorem d_Ne_lose_0 : decode b_Ne_lose 0 = .ok (.aload_n 0, 1) := by decide +kernel
theorem d_Ne_lose_1 : decode b_Ne_lose 1 = .ok (.iload_n 1, 1) := by decide +kernel
theorem d_Ne_lose_2 : decode b_Ne_lose 2 = .ok (.iload_n 2, 1) := by decide +kernel
theorem d_Ne_lose_3 : decode b_Ne_lose 3 = .ok (.invokevirtual 46, 3) := by decide +kernel
theorem d_Ne_lose_6 : decode b_Ne_lose 6 = .ok (.astore_n 3, 1) := by decide +kernel
theorem d_Ne_lose_7 : decode b_Ne_lose 7 = .ok (.aload_n 3, 1) := by decide +kernel
theorem d_Ne_lose_8 : decode b_Ne_lose 8 = .ok (.ifnull 17, 3) := by decide +kernel
theorem d_Ne_lose_11 : decode b_Ne_lose 11 = .ok (.aload_n 3, 1) := by decide +kernel
theorem d_Ne_lose_12 : decode b_Ne_lose 12 = .ok (.getfield 128, 3) := by decide +kernel
theorem d_Ne_lose_15 : decode b_Ne_lose 15 = .ok (.invokevirtual 132, 3) := by decide +kernel
theorem d_Ne_lose_18 : decode b_Ne_lose 18 = .ok (.ifnull 7, 3) := by decide +kernel
theorem d_Ne_lose_21 : decode b_Ne_lose 21 = .ok (.iconst 1, 1) := by decide +kernel
theorem d_Ne_lose_22 : decode b_Ne_lose 22 = .ok (.goto 4, 3) := by decide +kernel
theorem d_Ne_lose_25 : decode b_Ne_lose 25 = .ok (.iconst 0, 1) := by decide +kernel
theorem d_Ne_lose_26 : decode b_Ne_lose 26 = .ok (.ireturn, 1) := by decide +kernel
theorem d_Li_takeFirst_0 : decode b_Li_takeFirst 0 = .ok (.aload_n 0, 1) := by decide +kernel
theorem d_Li_takeFirst_1 : decode b_Li_takeFirst 1 = .ok (.getfield 21, 3) := by decide +kernel
theorem d_Li_takeFirst_4 : decode b_Li_takeFirst 4 = .ok (.ifCond .ne 5, 3) := by decide +kernel
theorem d_Li_takeFirst_7 : decode b_Li_takeFirst 7 = .ok (.aconst_null, 1) := by decide +kernel
theorem d_Li_takeFirst_8 : decode b_Li_takeFirst 8 = .ok (.areturn, 1) := by decide +kernel
theorem d_Li_takeFirst_9 : decode b_Li_takeFirst 9 = .ok (.aload_n 0, 1) := by decide +kernel
theorem d_Li_takeFirst_10 : decode b_Li_takeFirst 10 = .ok (.getfield 11, 3) := by decide +kernel
theorem d_Li_takeFirst_13 : decode b_Li_takeFirst 13 = .ok (.aload_n 0, 1) := by decide +kernel
theorem d_Li_takeFirst_14 : decode b_Li_takeFirst 14 = .ok (.getfield 17, 3) := by decide +kernel
theorem d_Li_takeFirst_17 : decode b_Li_takeFirst 17 = .ok (.aaload, 1) := by decide +kernel
theorem d_Li_takeFirst_18 : decode b_Li_takeFirst 18 = .ok (.astore_n 1, 1) := by decide +kernel
theorem d_Li_takeFirst_19 : decode b_Li_takeFirst 19 = .ok (.aload_n 0, 1) := by decide +kernel
theorem d_Li_takeFirst_20 : decode b_Li_takeFirst 20 = .ok (.aload_n 0, 1) := by decide +kernel
theorem d_Li_takeFirst_21 : decode b_Li_takeFirst 21 = .ok (.getfield 17, 3) := by decide +kernel
theorem d_Li_takeFirst_24 : decode b_Li_takeFirst 24 = .ok (.iconst 1, 1) := by decide +kernel
theorem d_Li_takeFirst_25 : decode b_Li_takeFirst 25 = .ok (.iadd, 1) := by decide +kernel
theorem d_Li_takeFirst_26 : decode b_Li_takeFirst 26 = .ok (.bipush 12, 2) := by decide +kernel
theorem d_Li_takeFirst_28 : decode b_Li_takeFirst 28 = .ok (.irem, 1) := by decide +kernel
theorem d_Li_takeFirst_29 : decode b_Li_takeFirst 29 = .ok (.putfield 17, 3) := by decide +kernel
theorem d_Li_takeFirst_32 : decode b_Li_takeFirst 32 = .ok (.aload_n 0, 1) := by decide +kernel
theorem d_Li_takeFirst_33 : decode b_Li_takeFirst 33 = .ok (.dup, 1) := by decide +kernel
theorem d_Li_takeFirst_34 : decode b_Li_takeFirst 34 = .ok (.getfield 21, 3) := by decide +kernel
theorem d_Li_takeFirst_37 : decode b_Li_takeFirst 37 = .ok (.iconst 1, 1) := by decide +kernel
theorem d_Li_takeFirst_38 : decode b_Li_takeFirst 38 = .ok (.isub, 1) := by decide +kernel
theorem d_Li_takeFirst_39 : decode b_Li_takeFirst 39 = .ok (.putfield 21, 3) := by decide +kernel
theorem d_Li_takeFirst_42 : decode b_Li_takeFirst 42 = .ok (.aload_n 1, 1) := by decide +kernel
theorem d_Li_takeFirst_43 : decode b_Li_takeFirst 43 = .ok (.areturn, 1) := by decide +kernel
theorem d_Ne_tick_0 : decode b_Ne_tick 0 = .ok (.iconst 0, 1) := by decide +kernel
theorem d_Ne_tick_1 : decode b_Ne_tick 1 = .ok (.istore_n 1, 1) := by decide +kernel
theorem d_Ne_tick_2 : decode b_Ne_tick 2 = .ok (.iload_n 1, 1) := by decide +kernel
theorem d_Ne_tick_3 : decode b_Ne_tick 3 = .ok (.iconst 5, 1) := by decide +kernel
theorem d_Ne_tick_4 : decode b_Ne_tick 4 = .ok (.if_icmp .ge 34, 3) := by decide +kernel
theorem d_Ne_tick_7 : decode b_Ne_tick 7 = .ok (.aload_n 0, 1) := by decide +kernel
theorem d_Ne_tick_8 : decode b_Ne_tick 8 = .ok (.getfield 11, 3) := by decide +kernel
theorem d_Ne_tick_11 : decode b_Ne_tick 11 = .ok (.iload_n 1, 1) := by decide +kernel
theorem d_Ne_tick_12 : decode b_Ne_tick 12 = .ok (.aaload, 1) := by decide +kernel
theorem d_Ne_tick_13 : decode b_Ne_tick 13 = .ok (.invokevirtual 157, 3) := by decide +kernel
theorem d_Ne_tick_16 : decode b_Ne_tick 16 = .ok (.aload_n 0, 1) := by decide +kernel
theorem d_Ne_tick_17 : decode b_Ne_tick 17 = .ok (.getfield 21, 3) := by decide +kernel
theorem d_Ne_tick_20 : decode b_Ne_tick 20 = .ok (.ifCond .eq 12, 3) := by decide +kernel
theorem d_Ne_tick_23 : decode b_Ne_tick 23 = .ok (.aload_n 0, 1) := by decide +kernel
theorem d_Ne_tick_24 : decode b_Ne_tick 24 = .ok (.getfield 11, 3) := by decide +kernel
theorem d_Ne_tick_27 : decode b_Ne_tick 27 = .ok (.iload_n 1, 1) := by decide +kernel
theorem d_Ne_tick_28 : decode b_Ne_tick 28 = .ok (.aaload, 1) := by decide +kernel
theorem d_Ne_tick_29 : decode b_Ne_tick 29 = .ok (.invokevirtual 160, 3) := by decide +kernel
theorem d_Ne_tick_32 : decode b_Ne_tick 32 = .ok (.iinc 1 1, 3) := by decide +kernel
theorem d_Ne_tick_35 : decode b_Ne_tick 35 = .ok (.goto (-33), 3) := by decide +kernel
theorem d_Ne_tick_38 : decode b_Ne_tick 38 = .ok (.aload_n 0, 1) := by decide +kernel
theorem d_Ne_tick_39 : decode b_Ne_tick 39 = .ok (.aload_n 0, 1) := by decide +kernel
theorem d_Ne_tick_40 : decode b_Ne_tick 40 = .ok (.getfield 21, 3) := by decide +kernel
theorem d_Ne_tick_43 : decode b_Ne_tick 43 = .ok (.ifCond .ne 7, 3) := by decide +kernel
theorem d_Ne_tick_46 : decode b_Ne_tick 46 = .ok (.iconst 1, 1) := by decide +kernel
theorem d_Ne_tick_47 : decode b_Ne_tick 47 = .ok (.goto 4, 3) := by decide +kernel
theorem d_Ne_tick_50 : decode b_Ne_tick 50 = .ok (.iconst 0, 1) := by decide +kernel
theorem d_Ne_tick_51 : decode b_Ne_tick 51 = .ok (.putfield 21, 3) := by decide +kernel
theorem d_Ne_tick_54 : decode b_Ne_tick 54 = .ok (.return_, 1) := by decide +kernel
theorem d_Br_age_0 : decode b_Br_age 0 = .ok (.aload_n 0, 1) := by decide +kernel
theorem d_Br_age_1 : decode b_Br_age 1 = .ok (.getfield 11, 3) := by decide +kernel
theorem d_Br_age_4 : decode b_Br_age 4 = .ok (.astore_n 1, 1) := by decide +kernel
theorem d_Br_age_5 : decode b_Br_age 5 = .ok (.aload_n 1, 1) := by decide +kernel
theorem d_Br_age_6 : decode b_Br_age 6 = .ok (.arraylength, 1) := by decide +kernel
theorem d_Br_age_7 : decode b_Br_age 7 = .ok (.istore_n 2, 1) := by decide +kernel
theorem d_Br_age_8 : decode b_Br_age 8 = .ok (.iconst 0, 1) := by decide +kernel
theorem d_Br_age_9 : decode b_Br_age 9 = .ok (.istore_n 3, 1) := by decide +kernel
theorem d_Br_age_10 : decode b_Br_age 10 = .ok (.iload_n 3, 1) := by decide +kernel
theorem d_Br_age_11 : decode b_Br_age 11 = .ok (.iload_n 2, 1) := by decide +kernel
theorem d_Br_age_12 : decode b_Br_age 12 = .ok (.if_icmp .ge 19, 3) := by decide +kernel
theorem d_Br_age_15 : decode b_Br_age 15 = .ok (.aload_n 1, 1) := by decide +kernel
theorem d_Br_age_16 : decode b_Br_age 16 = .ok (.iload_n 3, 1) := by decide +kernel
theorem d_Br_age_17 : decode b_Br_age 17 = .ok (.aaload, 1) := by decide +kernel
theorem d_Br_age_18 : decode b_Br_age 18 = .ok (.astore 4, 2) := by decide +kernel
theorem d_Br_age_20 : decode b_Br_age 20 = .ok (.aload 4, 2) := by decide +kernel
theorem d_Br_age_22 : decode b_Br_age 22 = .ok (.invokevirtual 206, 3) := by decide +kernel
theorem d_Br_age_25 : decode b_Br_age 25 = .ok (.iinc 3 1, 3) := by decide +kernel
theorem d_Br_age_28 : decode b_Br_age 28 = .ok (.goto (-18), 3) := by decide +kernel
theorem d_Br_age_31 : decode b_Br_age 31 = .ok (.iconst 0, 1) := by decide +kernel
theorem d_Br_age_32 : decode b_Br_age 32 = .ok (.istore_n 1, 1) := by decide +kernel
theorem d_Br_age_33 : decode b_Br_age 33 = .ok (.iload_n 1, 1) := by decide +kernel
theorem d_Br_age_34 : decode b_Br_age 34 = .ok (.aload_n 0, 1) := by decide +kernel
theorem d_Br_age_35 : decode b_Br_age 35 = .ok (.getfield 32, 3) := by decide +kernel
theorem d_Br_age_38 : decode b_Br_age 38 = .ok (.arraylength, 1) := by decide +kernel
theorem d_Br_age_39 : decode b_Br_age 39 = .ok (.if_icmp .ge 27, 3) := by decide +kernel
theorem d_Br_age_42 : decode b_Br_age 42 = .ok (.aload_n 0, 1) := by decide +kernel
theorem d_Br_age_43 : decode b_Br_age 43 = .ok (.getfield 32, 3) := by decide +kernel
theorem d_Br_age_46 : decode b_Br_age 46 = .ok (.iload_n 1, 1) := by decide +kernel
theorem d_Br_age_47 : decode b_Br_age 47 = .ok (.iconst 0, 1) := by decide +kernel
theorem d_Br_age_48 : decode b_Br_age 48 = .ok (.aload_n 0, 1) := by decide +kernel
theorem d_Br_age_49 : decode b_Br_age 49 = .ok (.getfield 32, 3) := by decide +kernel
theorem d_Br_age_52 : decode b_Br_age 52 = .ok (.iload_n 1, 1) := by decide +kernel
theorem d_Br_age_53 : decode b_Br_age 53 = .ok (.iaload, 1) := by decide +kernel
theorem d_Br_age_54 : decode b_Br_age 54 = .ok (.iconst 1, 1) := by decide +kernel
theorem d_Br_age_55 : decode b_Br_age 55 = .ok (.isub, 1) := by decide +kernel
theorem d_Br_age_56 : decode b_Br_age 56 = .ok (.invokestatic 209, 3) := by decide +kernel
theorem d_Br_age_59 : decode b_Br_age 59 = .ok (.iastore, 1) := by decide +kernel
theorem d_Br_age_60 : decode b_Br_age 60 = .ok (.iinc 1 1, 3) := by decide +kernel
theorem d_Br_age_63 : decode b_Br_age 63 = .ok (.goto (-30), 3) := by decide +kernel
theorem d_Br_age_66 : decode b_Br_age 66 = .ok (.aload_n 0, 1) := by decide +kernel
theorem d_Br_age_67 : decode b_Br_age 67 = .ok (.getfield 11, 3) := by decide +kernel
theorem d_Br_age_70 : decode b_Br_age 70 = .ok (.astore_n 1, 1) := by decide +kernel
theorem d_Br_age_71 : decode b_Br_age 71 = .ok (.aload_n 1, 1) := by decide +kernel
theorem d_Br_age_72 : decode b_Br_age 72 = .ok (.arraylength, 1) := by decide +kernel
theorem d_Br_age_73 : decode b_Br_age 73 = .ok (.istore_n 2, 1) := by decide +kernel
theorem d_Br_age_74 : decode b_Br_age 74 = .ok (.iconst 0, 1) := by decide +kernel
theorem d_Br_age_75 : decode b_Br_age 75 = .ok (.istore_n 3, 1) := by decide +kernel
theorem d_Br_age_76 : decode b_Br_age 76 = .ok (.iload_n 3, 1) := by decide +kernel
theorem d_Br_age_77 : decode b_Br_age 77 = .ok (.iload_n 2, 1) := by decide +kernel
theorem d_Br_age_78 : decode b_Br_age 78 = .ok (.if_icmp .ge 19, 3) := by decide +kernel
theorem d_Br_age_81 : decode b_Br_age 81 = .ok (.aload_n 1, 1) := by decide +kernel
theorem d_Br_age_82 : decode b_Br_age 82 = .ok (.iload_n 3, 1) := by decide +kernel
theorem d_Br_age_83 : decode b_Br_age 83 = .ok (.aaload, 1) := by decide +kernel
theorem d_Br_age_84 : decode b_Br_age 84 = .ok (.astore 4, 2) := by decide +kernel
theorem d_Br_age_86 : decode b_Br_age 86 = .ok (.aload 4, 2) := by decide +kernel
theorem d_Br_age_88 : decode b_Br_age 88 = .ok (.invokevirtual 214, 3) := by decide +kernel
theorem d_Br_age_91 : decode b_Br_age 91 = .ok (.iinc 3 1, 3) := by decide +kernel
theorem d_Br_age_94 : decode b_Br_age 94 = .ok (.goto (-18), 3) := by decide +kernel
theorem d_Br_age_97 : decode b_Br_age 97 = .ok (.aload_n 0, 1) := by decide +kernel
theorem d_Br_age_98 : decode b_Br_age 98 = .ok (.invokevirtual 146, 3) := by decide +kernel
theorem d_Br_age_101 : decode b_Br_age 101 = .ok (.return_, 1) := by decide +kernel
theorem d_Po_ageInfo_0 : decode b_Po_ageInfo 0 = .ok (.aload_n 0, 1) := by decide +kernel
theorem d_Po_ageInfo_1 : decode b_Po_ageInfo 1 = .ok (.getfield 33, 3) := by decide +kernel
theorem d_Po_ageInfo_4 : decode b_Po_ageInfo 4 = .ok (.ifCond .eq 29, 3) := by decide +kernel
theorem d_Po_ageInfo_7 : decode b_Po_ageInfo 7 = .ok (.aload_n 0, 1) := by decide +kernel
theorem d_Po_ageInfo_8 : decode b_Po_ageInfo 8 = .ok (.dup, 1) := by decide +kernel
theorem d_Po_ageInfo_9 : decode b_Po_ageInfo 9 = .ok (.getfield 44, 3) := by decide +kernel
theorem d_Po_ageInfo_12 : decode b_Po_ageInfo 12 = .ok (.iconst 1, 1) := by decide +kernel
theorem d_Po_ageInfo_13 : decode b_Po_ageInfo 13 = .ok (.isub, 1) := by decide +kernel
theorem d_Po_ageInfo_14 : decode b_Po_ageInfo 14 = .ok (.putfield 44, 3) := by decide +kernel
theorem d_Po_ageInfo_17 : decode b_Po_ageInfo 17 = .ok (.aload_n 0, 1) := by decide +kernel
theorem d_Po_ageInfo_18 : decode b_Po_ageInfo 18 = .ok (.aload_n 0, 1) := by decide +kernel
theorem d_Po_ageInfo_19 : decode b_Po_ageInfo 19 = .ok (.getfield 44, 3) := by decide +kernel
theorem d_Po_ageInfo_22 : decode b_Po_ageInfo 22 = .ok (.ifCond .le 7, 3) := by decide +kernel
theorem d_Po_ageInfo_25 : decode b_Po_ageInfo 25 = .ok (.iconst 1, 1) := by decide +kernel
theorem d_Po_ageInfo_26 : decode b_Po_ageInfo 26 = .ok (.goto 4, 3) := by decide +kernel
theorem d_Po_ageInfo_29 : decode b_Po_ageInfo 29 = .ok (.iconst 0, 1) := by decide +kernel
theorem d_Po_ageInfo_30 : decode b_Po_ageInfo 30 = .ok (.putfield 33, 3) := by decide +kernel
theorem d_Po_ageInfo_33 : decode b_Po_ageInfo 33 = .ok (.return_, 1) := by decide +kernel
theorem d_Po_ageWait_0 : decode b_Po_ageWait 0 = .ok (.aload_n 0, 1) := by decide +kernel
theorem d_Po_ageWait_1 : decode b_Po_ageWait 1 = .ok (.invokevirtual 87, 3) := by decide +kernel
theorem d_Po_ageWait_4 : decode b_Po_ageWait 4 = .ok (.ifCond .eq 11, 3) := by decide +kernel
theorem d_Po_ageWait_7 : decode b_Po_ageWait 7 = .ok (.aload_n 0, 1) := by decide +kernel
theorem d_Po_ageWait_8 : decode b_Po_ageWait 8 = .ok (.getfield 50, 3) := by decide +kernel
theorem d_Po_ageWait_11 : decode b_Po_ageWait 11 = .ok (.iconst 2, 1) := by decide +kernel
theorem d_Po_ageWait_12 : decode b_Po_ageWait 12 = .ok (.if_icmp .ne 4, 3) := by decide +kernel
theorem d_Po_ageWait_15 : decode b_Po_ageWait 15 = .ok (.return_, 1) := by decide +kernel
theorem d_Po_ageWait_16 : decode b_Po_ageWait 16 = .ok (.aload_n 0, 1) := by decide +kernel
theorem d_Po_ageWait_17 : decode b_Po_ageWait 17 = .ok (.dup, 1) := by decide +kernel
theorem d_Po_ageWait_18 : decode b_Po_ageWait 18 = .ok (.getfield 59, 3) := by decide +kernel
theorem d_Po_ageWait_21 : decode b_Po_ageWait 21 = .ok (.iconst 1, 1) := by decide +kernel
theorem d_Po_ageWait_22 : decode b_Po_ageWait 22 = .ok (.isub, 1) := by decide +kernel
theorem d_Po_ageWait_23 : decode b_Po_ageWait 23 = .ok (.putfield 59, 3) := by decide +kernel
theorem d_Po_ageWait_26 : decode b_Po_ageWait 26 = .ok (.aload_n 0, 1) := by decide +kernel
theorem d_Po_ageWait_27 : decode b_Po_ageWait 27 = .ok (.getfield 59, 3) := by decide +kernel
theorem d_Po_ageWait_30 : decode b_Po_ageWait 30 = .ok (.ifCond .le 4, 3) := by decide +kernel
theorem d_Po_ageWait_33 : decode b_Po_ageWait 33 = .ok (.return_, 1) := by decide +kernel
theorem d_Po_ageWait_34 : decode b_Po_ageWait 34 = .ok (.aload_n 0, 1) := by decide +kernel
theorem d_Po_ageWait_35 : decode b_Po_ageWait 35 = .ok (.getfield 50, 3) := by decide +kernel
theorem d_Po_ageWait_38 : decode b_Po_ageWait 38 = .ok (.ifCond .ne 16, 3) := by decide +kernel
theorem d_Po_ageWait_41 : decode b_Po_ageWait 41 = .ok (.aload_n 0, 1) := by decide +kernel
theorem d_Po_ageWait_42 : decode b_Po_ageWait 42 = .ok (.iconst 1, 1) := by decide +kernel
theorem d_Po_ageWait_43 : decode b_Po_ageWait 43 = .ok (.putfield 50, 3) := by decide +kernel
theorem d_Po_ageWait_46 : decode b_Po_ageWait 46 = .ok (.aload_n 0, 1) := by decide +kernel
theorem d_Po_ageWait_47 : decode b_Po_ageWait 47 = .ok (.iconst 4, 1) := by decide +kernel
theorem d_Po_ageWait_48 : decode b_Po_ageWait 48 = .ok (.putfield 59, 3) := by decide +kernel
theorem d_Po_ageWait_51 : decode b_Po_ageWait 51 = .ok (.goto 7, 3) := by decide +kernel
theorem d_Po_ageWait_54 : decode b_Po_ageWait 54 = .ok (.aload_n 0, 1) := by decide +kernel
theorem d_Po_ageWait_55 : decode b_Po_ageWait 55 = .ok (.invokevirtual 84, 3) := by decide +kernel
theorem d_Po_ageWait_58 : decode b_Po_ageWait 58 = .ok (.return_, 1) := by decide +kernel
theorem d_Po_forward_0 : decode b_Po_forward 0 = .ok (.aload_n 0, 1) := by decide +kernel
theorem d_Po_forward_1 : decode b_Po_forward 1 = .ok (.iconst 2, 1) := by decide +kernel
theorem d_Po_forward_2 : decode b_Po_forward 2 = .ok (.putfield 50, 3) := by decide +kernel
theorem d_Po_forward_5 : decode b_Po_forward 5 = .ok (.aload_n 0, 1) := by decide +kernel
theorem d_Po_forward_6 : decode b_Po_forward 6 = .ok (.iconst 0, 1) := by decide +kernel
theorem d_Po_forward_7 : decode b_Po_forward 7 = .ok (.putfield 53, 3) := by decide +kernel
theorem d_Po_forward_10 : decode b_Po_forward 10 = .ok (.aload_n 0, 1) := by decide +kernel
theorem d_Po_forward_11 : decode b_Po_forward 11 = .ok (.iconst 0, 1) := by decide +kernel
theorem d_Po_forward_12 : decode b_Po_forward 12 = .ok (.putfield 59, 3) := by decide +kernel
theorem d_Po_forward_15 : decode b_Po_forward 15 = .ok (.return_, 1) := by decide +kernel
theorem d_Ne_port_0 : decode b_Ne_port 0 = .ok (.aload_n 0, 1) := by decide +kernel
theorem d_Ne_port_1 : decode b_Ne_port 1 = .ok (.iload_n 1, 1) := by decide +kernel
theorem d_Ne_port_2 : decode b_Ne_port 2 = .ok (.iload_n 2, 1) := by decide +kernel
theorem d_Ne_port_3 : decode b_Ne_port 3 = .ok (.invokevirtual 46, 3) := by decide +kernel
theorem d_Ne_port_6 : decode b_Ne_port 6 = .ok (.astore_n 3, 1) := by decide +kernel
theorem d_Ne_port_7 : decode b_Ne_port 7 = .ok (.aload_n 3, 1) := by decide +kernel
theorem d_Ne_port_8 : decode b_Ne_port 8 = .ok (.ifnonnull 7, 3) := by decide +kernel
theorem d_Ne_port_11 : decode b_Ne_port 11 = .ok (.iconst (-1), 1) := by decide +kernel
theorem d_Ne_port_12 : decode b_Ne_port 12 = .ok (.goto 7, 3) := by decide +kernel
theorem d_Ne_port_15 : decode b_Ne_port 15 = .ok (.aload_n 3, 1) := by decide +kernel
theorem d_Ne_port_16 : decode b_Ne_port 16 = .ok (.invokevirtual 163, 3) := by decide +kernel
theorem d_Ne_port_19 : decode b_Ne_port 19 = .ok (.ireturn, 1) := by decide +kernel
theorem d_Po_summary_0 : decode b_Po_summary 0 = .ok (.aload_n 0, 1) := by decide +kernel
theorem d_Po_summary_1 : decode b_Po_summary 1 = .ok (.getfield 47, 3) := by decide +kernel
theorem d_Po_summary_4 : decode b_Po_summary 4 = .ok (.iconst 4, 1) := by decide +kernel
theorem d_Po_summary_5 : decode b_Po_summary 5 = .ok (.aload_n 0, 1) := by decide +kernel
theorem d_Po_summary_6 : decode b_Po_summary 6 = .ok (.getfield 50, 3) := by decide +kernel
theorem d_Po_summary_9 : decode b_Po_summary 9 = .ok (.imul, 1) := by decide +kernel
theorem d_Po_summary_10 : decode b_Po_summary 10 = .ok (.iadd, 1) := by decide +kernel
theorem d_Po_summary_11 : decode b_Po_summary 11 = .ok (.aload_n 0, 1) := by decide +kernel
theorem d_Po_summary_12 : decode b_Po_summary 12 = .ok (.getfield 53, 3) := by decide +kernel
theorem d_Po_summary_15 : decode b_Po_summary 15 = .ok (.ifCond .eq 8, 3) := by decide +kernel
theorem d_Po_summary_18 : decode b_Po_summary 18 = .ok (.bipush 16, 2) := by decide +kernel
theorem d_Po_summary_20 : decode b_Po_summary 20 = .ok (.goto 4, 3) := by decide +kernel
theorem d_Po_summary_23 : decode b_Po_summary 23 = .ok (.iconst 0, 1) := by decide +kernel
theorem d_Po_summary_24 : decode b_Po_summary 24 = .ok (.iadd, 1) := by decide +kernel
theorem d_Po_summary_25 : decode b_Po_summary 25 = .ok (.aload_n 0, 1) := by decide +kernel
theorem d_Po_summary_26 : decode b_Po_summary 26 = .ok (.getfield 56, 3) := by decide +kernel
theorem d_Po_summary_29 : decode b_Po_summary 29 = .ok (.ifCond .eq 8, 3) := by decide +kernel
theorem d_Po_summary_32 : decode b_Po_summary 32 = .ok (.bipush 32, 2) := by decide +kernel
theorem d_Po_summary_34 : decode b_Po_summary 34 = .ok (.goto 4, 3) := by decide +kernel
theorem d_Po_summary_37 : decode b_Po_summary 37 = .ok (.iconst 0, 1) := by decide +kernel
theorem d_Po_summary_38 : decode b_Po_summary 38 = .ok (.iadd, 1) := by decide +kernel
theorem d_Po_summary_39 : decode b_Po_summary 39 = .ok (.bipush 64, 2) := by decide +kernel
theorem d_Po_summary_41 : decode b_Po_summary 41 = .ok (.aload_n 0, 1) := by decide +kernel
theorem d_Po_summary_42 : decode b_Po_summary 42 = .ok (.getfield 59, 3) := by decide +kernel
theorem d_Po_summary_45 : decode b_Po_summary 45 = .ok (.imul, 1) := by decide +kernel
theorem d_Po_summary_46 : decode b_Po_summary 46 = .ok (.iadd, 1) := by decide +kernel
theorem d_Po_summary_47 : decode b_Po_summary 47 = .ok (.ireturn, 1) := by decide +kernel
theorem d_Ne_root_0 : decode b_Ne_root 0 = .ok (.iload_n 1, 1) := by decide +kernel
theorem d_Ne_root_1 : decode b_Ne_root 1 = .ok (.invokestatic 32, 3) := by decide +kernel
theorem d_Ne_root_4 : decode b_Ne_root 4 = .ok (.ifCond .eq 15, 3) := by decide +kernel
theorem d_Ne_root_7 : decode b_Ne_root 7 = .ok (.aload_n 0, 1) := by decide +kernel
theorem d_Ne_root_8 : decode b_Ne_root 8 = .ok (.getfield 11, 3) := by decide +kernel
theorem d_Ne_root_11 : decode b_Ne_root 11 = .ok (.iload_n 1, 1) := by decide +kernel
theorem d_Ne_root_12 : decode b_Ne_root 12 = .ok (.aaload, 1) := by decide +kernel
theorem d_Ne_root_13 : decode b_Ne_root 13 = .ok (.invokevirtual 167, 3) := by decide +kernel
theorem d_Ne_root_16 : decode b_Ne_root 16 = .ok (.goto 6, 3) := by decide +kernel
theorem d_Ne_root_19 : decode b_Ne_root 19 = .ok (.ldc2_w 170, 3) := by decide +kernel
theorem d_Ne_root_22 : decode b_Ne_root 22 = .ok (.lreturn, 1) := by decide +kernel
theorem d_Br_summary_0 : decode b_Br_summary 0 = .ok (.aload_n 0, 1) := by decide +kernel
theorem d_Br_summary_1 : decode b_Br_summary 1 = .ok (.getfield 41, 3) := by decide +kernel
theorem d_Br_summary_4 : decode b_Br_summary 4 = .ok (.i2l, 1) := by decide +kernel
theorem d_Br_summary_5 : decode b_Br_summary 5 = .ok (.aload_n 0, 1) := by decide +kernel
theorem d_Br_summary_6 : decode b_Br_summary 6 = .ok (.getfield 17, 3) := by decide +kernel
theorem d_Br_summary_9 : decode b_Br_summary 9 = .ok (.i2l, 1) := by decide +kernel
theorem d_Br_summary_10 : decode b_Br_summary 10 = .ok (.bipush 8, 2) := by decide +kernel
theorem d_Br_summary_12 : decode b_Br_summary 12 = .ok (.lshl, 1) := by decide +kernel
theorem d_Br_summary_13 : decode b_Br_summary 13 = .ok (.ladd, 1) := by decide +kernel
theorem d_Br_summary_14 : decode b_Br_summary 14 = .ok (.aload_n 0, 1) := by decide +kernel
theorem d_Br_summary_15 : decode b_Br_summary 15 = .ok (.getfield 21, 3) := by decide +kernel
theorem d_Br_summary_18 : decode b_Br_summary 18 = .ok (.i2l, 1) := by decide +kernel
theorem d_Br_summary_19 : decode b_Br_summary 19 = .ok (.bipush 24, 2) := by decide +kernel
theorem d_Br_summary_21 : decode b_Br_summary 21 = .ok (.lshl, 1) := by decide +kernel
theorem d_Br_summary_22 : decode b_Br_summary 22 = .ok (.ladd, 1) := by decide +kernel
theorem d_Br_summary_23 : decode b_Br_summary 23 = .ok (.lreturn, 1) := by decide +kernel
theorem d_Ne_info_0 : decode b_Ne_info 0 = .ok (.aload_n 0, 1) := by decide +kernel
theorem d_Ne_info_1 : decode b_Ne_info 1 = .ok (.iload_n 1, 1) := by decide +kernel
theorem d_Ne_info_2 : decode b_Ne_info 2 = .ok (.iload_n 2, 1) := by decide +kernel
theorem d_Ne_info_3 : decode b_Ne_info 3 = .ok (.invokevirtual 46, 3) := by decide +kernel
theorem d_Ne_info_6 : decode b_Ne_info 6 = .ok (.astore_n 3, 1) := by decide +kernel
theorem d_Ne_info_7 : decode b_Ne_info 7 = .ok (.aload_n 3, 1) := by decide +kernel
theorem d_Ne_info_8 : decode b_Ne_info 8 = .ok (.ifnull 10, 3) := by decide +kernel
theorem d_Ne_info_11 : decode b_Ne_info 11 = .ok (.aload_n 3, 1) := by decide +kernel
theorem d_Ne_info_12 : decode b_Ne_info 12 = .ok (.getfield 172, 3) := by decide +kernel
theorem d_Ne_info_15 : decode b_Ne_info 15 = .ok (.ifCond .ne 9, 3) := by decide +kernel
theorem d_Ne_info_18 : decode b_Ne_info 18 = .ok (.ldc2_w 170, 3) := by decide +kernel
theorem d_Ne_info_21 : decode b_Ne_info 21 = .ok (.goto 7, 3) := by decide +kernel
theorem d_Ne_info_24 : decode b_Ne_info 24 = .ok (.aload_n 3, 1) := by decide +kernel
theorem d_Ne_info_25 : decode b_Ne_info 25 = .ok (.invokevirtual 175, 3) := by decide +kernel
theorem d_Ne_info_28 : decode b_Ne_info 28 = .ok (.lreturn, 1) := by decide +kernel
theorem d_Po_infoSummary_0 : decode b_Po_infoSummary 0 = .ok (.aload_n 0, 1) := by decide +kernel
theorem d_Po_infoSummary_1 : decode b_Po_infoSummary 1 = .ok (.getfield 37, 3) := by decide +kernel
theorem d_Po_infoSummary_4 : decode b_Po_infoSummary 4 = .ok (.invokestatic 110, 3) := by decide +kernel
theorem d_Po_infoSummary_7 : decode b_Po_infoSummary 7 = .ok (.i2l, 1) := by decide +kernel
theorem d_Po_infoSummary_8 : decode b_Po_infoSummary 8 = .ok (.aload_n 0, 1) := by decide +kernel
theorem d_Po_infoSummary_9 : decode b_Po_infoSummary 9 = .ok (.getfield 37, 3) := by decide +kernel
theorem d_Po_infoSummary_12 : decode b_Po_infoSummary 12 = .ok (.invokestatic 116, 3) := by decide +kernel
theorem d_Po_infoSummary_15 : decode b_Po_infoSummary 15 = .ok (.i2l, 1) := by decide +kernel
theorem d_Po_infoSummary_16 : decode b_Po_infoSummary 16 = .ok (.bipush 8, 2) := by decide +kernel
theorem d_Po_infoSummary_18 : decode b_Po_infoSummary 18 = .ok (.lshl, 1) := by decide +kernel
theorem d_Po_infoSummary_19 : decode b_Po_infoSummary 19 = .ok (.ladd, 1) := by decide +kernel
theorem d_Po_infoSummary_20 : decode b_Po_infoSummary 20 = .ok (.aload_n 0, 1) := by decide +kernel
theorem d_Po_infoSummary_21 : decode b_Po_infoSummary 21 = .ok (.getfield 37, 3) := by decide +kernel
theorem d_Po_infoSummary_24 : decode b_Po_infoSummary 24 = .ok (.invokestatic 119, 3) := by decide +kernel
theorem d_Po_infoSummary_27 : decode b_Po_infoSummary 27 = .ok (.i2l, 1) := by decide +kernel
theorem d_Po_infoSummary_28 : decode b_Po_infoSummary 28 = .ok (.bipush 24, 2) := by decide +kernel
theorem d_Po_infoSummary_30 : decode b_Po_infoSummary 30 = .ok (.lshl, 1) := by decide +kernel
theorem d_Po_infoSummary_31 : decode b_Po_infoSummary 31 = .ok (.ladd, 1) := by decide +kernel
theorem d_Po_infoSummary_32 : decode b_Po_infoSummary 32 = .ok (.aload_n 0, 1) := by decide +kernel
theorem d_Po_infoSummary_33 : decode b_Po_infoSummary 33 = .ok (.getfield 37, 3) := by decide +kernel
theorem d_Po_infoSummary_36 : decode b_Po_infoSummary 36 = .ok (.invokestatic 122, 3) := by decide +kernel
theorem d_Po_infoSummary_39 : decode b_Po_infoSummary 39 = .ok (.i2l, 1) := by decide +kernel
theorem d_Po_infoSummary_40 : decode b_Po_infoSummary 40 = .ok (.bipush 32, 2) := by decide +kernel
theorem d_Po_infoSummary_42 : decode b_Po_infoSummary 42 = .ok (.lshl, 1) := by decide +kernel
theorem d_Po_infoSummary_43 : decode b_Po_infoSummary 43 = .ok (.ladd, 1) := by decide +kernel
theorem d_Po_infoSummary_44 : decode b_Po_infoSummary 44 = .ok (.aload_n 0, 1) := by decide +kernel
theorem d_Po_infoSummary_45 : decode b_Po_infoSummary 45 = .ok (.getfield 41, 3) := by decide +kernel
theorem d_Po_infoSummary_48 : decode b_Po_infoSummary 48 = .ok (.i2l, 1) := by decide +kernel
theorem d_Po_infoSummary_49 : decode b_Po_infoSummary 49 = .ok (.bipush 40, 2) := by decide +kernel
theorem d_Po_infoSummary_51 : decode b_Po_infoSummary 51 = .ok (.lshl, 1) := by decide +kernel
theorem d_Po_infoSummary_52 : decode b_Po_infoSummary 52 = .ok (.ladd, 1) := by decide +kernel
theorem d_Po_infoSummary_53 : decode b_Po_infoSummary 53 = .ok (.aload_n 0, 1) := by decide +kernel
theorem d_Po_infoSummary_54 : decode b_Po_infoSummary 54 = .ok (.getfield 44, 3) := by decide +kernel
theorem d_Po_infoSummary_57 : decode b_Po_infoSummary 57 = .ok (.i2l, 1) := by decide +kernel
theorem d_Po_infoSummary_58 : decode b_Po_infoSummary 58 = .ok (.bipush 48, 2) := by decide +kernel
theorem d_Po_infoSummary_60 : decode b_Po_infoSummary 60 = .ok (.lshl, 1) := by decide +kernel
theorem d_Po_infoSummary_61 : decode b_Po_infoSummary 61 = .ok (.ladd, 1) := by decide +kernel
theorem d_Po_infoSummary_62 : decode b_Po_infoSummary 62 = .ok (.lreturn, 1) := by decide +kernel
theorem d_Ve_portOf_0 : decode b_Ve_portOf 0 = .ok (.lload_n 0, 1) := by decide +kernel
theorem d_Ve_portOf_1 : decode b_Ve_portOf 1 = .ok (.l2i, 1) := by decide +kernel
theorem d_Ve_portOf_2 : decode b_Ve_portOf 2 = .ok (.sipush 255, 3) := by decide +kernel
theorem d_Ve_portOf_5 : decode b_Ve_portOf 5 = .ok (.iand, 1) := by decide +kernel
theorem d_Ve_portOf_6 : decode b_Ve_portOf 6 = .ok (.ireturn, 1) := by decide +kernel
theorem d_Ne_learned_0 : decode b_Ne_learned 0 = .ok (.iload_n 1, 1) := by decide +kernel
theorem d_Ne_learned_1 : decode b_Ne_learned 1 = .ok (.invokestatic 32, 3) := by decide +kernel
theorem d_Ne_learned_4 : decode b_Ne_learned 4 = .ok (.ifCond .eq 18, 3) := by decide +kernel
theorem d_Ne_learned_7 : decode b_Ne_learned 7 = .ok (.aload_n 0, 1) := by decide +kernel
theorem d_Ne_learned_8 : decode b_Ne_learned 8 = .ok (.iload_n 2, 1) := by decide +kernel
theorem d_Ne_learned_9 : decode b_Ne_learned 9 = .ok (.invokevirtual 74, 3) := by decide +kernel
theorem d_Ne_learned_12 : decode b_Ne_learned 12 = .ok (.ifnull 10, 3) := by decide +kernel
theorem d_Ne_learned_15 : decode b_Ne_learned 15 = .ok (.iload_n 3, 1) := by decide +kernel
theorem d_Ne_learned_16 : decode b_Ne_learned 16 = .ok (.invokestatic 85, 3) := by decide +kernel
theorem d_Ne_learned_19 : decode b_Ne_learned 19 = .ok (.ifCond .ne 5, 3) := by decide +kernel
theorem d_Ne_learned_22 : decode b_Ne_learned 22 = .ok (.iconst (-1), 1) := by decide +kernel
theorem d_Ne_learned_23 : decode b_Ne_learned 23 = .ok (.ireturn, 1) := by decide +kernel
theorem d_Ne_learned_24 : decode b_Ne_learned 24 = .ok (.aload_n 0, 1) := by decide +kernel
theorem d_Ne_learned_25 : decode b_Ne_learned 25 = .ok (.getfield 11, 3) := by decide +kernel
theorem d_Ne_learned_28 : decode b_Ne_learned 28 = .ok (.iload_n 1, 1) := by decide +kernel
theorem d_Ne_learned_29 : decode b_Ne_learned 29 = .ok (.aaload, 1) := by decide +kernel
theorem d_Ne_learned_30 : decode b_Ne_learned 30 = .ok (.iload_n 2, 1) := by decide +kernel
theorem d_Ne_learned_31 : decode b_Ne_learned 31 = .ok (.iload_n 3, 1) := by decide +kernel
theorem d_Ne_learned_32 : decode b_Ne_learned 32 = .ok (.invokevirtual 178, 3) := by decide +kernel
theorem d_Ne_learned_35 : decode b_Ne_learned 35 = .ok (.ireturn, 1) := by decide +kernel
theorem d_Ne_findStation_0 : decode b_Ne_findStation 0 = .ok (.iload_n 1, 1) := by decide +kernel
theorem d_Ne_findStation_1 : decode b_Ne_findStation 1 = .ok (.ifCond .lt 18, 3) := by decide +kernel
theorem d_Ne_findStation_4 : decode b_Ne_findStation 4 = .ok (.iload_n 1, 1) := by decide +kernel
theorem d_Ne_findStation_5 : decode b_Ne_findStation 5 = .ok (.bipush 8, 2) := by decide +kernel
theorem d_Ne_findStation_7 : decode b_Ne_findStation 7 = .ok (.if_icmp .ge 12, 3) := by decide +kernel
theorem d_Ne_findStation_10 : decode b_Ne_findStation 10 = .ok (.aload_n 0, 1) := by decide +kernel
theorem d_Ne_findStation_11 : decode b_Ne_findStation 11 = .ok (.getfield 17, 3) := by decide +kernel
theorem d_Ne_findStation_14 : decode b_Ne_findStation 14 = .ok (.iload_n 1, 1) := by decide +kernel
theorem d_Ne_findStation_15 : decode b_Ne_findStation 15 = .ok (.aaload, 1) := by decide +kernel
theorem d_Ne_findStation_16 : decode b_Ne_findStation 16 = .ok (.goto 4, 3) := by decide +kernel
theorem d_Ne_findStation_19 : decode b_Ne_findStation 19 = .ok (.aconst_null, 1) := by decide +kernel
theorem d_Ne_findStation_20 : decode b_Ne_findStation 20 = .ok (.areturn, 1) := by decide +kernel
theorem d_Ne_isVlan_0 : decode b_Ne_isVlan 0 = .ok (.iload_n 0, 1) := by decide +kernel
theorem d_Ne_isVlan_1 : decode b_Ne_isVlan 1 = .ok (.iconst 1, 1) := by decide +kernel
theorem d_Ne_isVlan_2 : decode b_Ne_isVlan 2 = .ok (.if_icmp .lt 12, 3) := by decide +kernel
theorem d_Ne_isVlan_5 : decode b_Ne_isVlan 5 = .ok (.iload_n 0, 1) := by decide +kernel
theorem d_Ne_isVlan_6 : decode b_Ne_isVlan 6 = .ok (.iconst 2, 1) := by decide +kernel
theorem d_Ne_isVlan_7 : decode b_Ne_isVlan 7 = .ok (.if_icmp .gt 7, 3) := by decide +kernel
theorem d_Ne_isVlan_10 : decode b_Ne_isVlan 10 = .ok (.iconst 1, 1) := by decide +kernel
theorem d_Ne_isVlan_11 : decode b_Ne_isVlan 11 = .ok (.goto 4, 3) := by decide +kernel
theorem d_Ne_isVlan_14 : decode b_Ne_isVlan 14 = .ok (.iconst 0, 1) := by decide +kernel
theorem d_Ne_isVlan_15 : decode b_Ne_isVlan 15 = .ok (.ireturn, 1) := by decide +kernel
theorem d_Br_placeOf_0 : decode b_Br_placeOf 0 = .ok (.iload_n 1, 1) := by decide +kernel
theorem d_Br_placeOf_1 : decode b_Br_placeOf 1 = .ok (.iload_n 2, 1) := by decide +kernel
theorem d_Br_placeOf_2 : decode b_Br_placeOf 2 = .ok (.invokestatic 203, 3) := by decide +kernel
theorem d_Br_placeOf_5 : decode b_Br_placeOf 5 = .ok (.istore_n 3, 1) := by decide +kernel
theorem d_Br_placeOf_6 : decode b_Br_placeOf 6 = .ok (.aload_n 0, 1) := by decide +kernel
theorem d_Br_placeOf_7 : decode b_Br_placeOf 7 = .ok (.getfield 32, 3) := by decide +kernel
theorem d_Br_placeOf_10 : decode b_Br_placeOf 10 = .ok (.iload_n 3, 1) := by decide +kernel
theorem d_Br_placeOf_11 : decode b_Br_placeOf 11 = .ok (.iaload, 1) := by decide +kernel
theorem d_Br_placeOf_12 : decode b_Br_placeOf 12 = .ok (.ifCond .le 12, 3) := by decide +kernel
theorem d_Br_placeOf_15 : decode b_Br_placeOf 15 = .ok (.aload_n 0, 1) := by decide +kernel
theorem d_Br_placeOf_16 : decode b_Br_placeOf 16 = .ok (.getfield 28, 3) := by decide +kernel
theorem d_Br_placeOf_19 : decode b_Br_placeOf 19 = .ok (.iload_n 3, 1) := by decide +kernel
theorem d_Br_placeOf_20 : decode b_Br_placeOf 20 = .ok (.iaload, 1) := by decide +kernel
theorem d_Br_placeOf_21 : decode b_Br_placeOf 21 = .ok (.goto 4, 3) := by decide +kernel
theorem d_Br_placeOf_24 : decode b_Br_placeOf 24 = .ok (.iconst (-1), 1) := by decide +kernel
theorem d_Br_placeOf_25 : decode b_Br_placeOf 25 = .ok (.ireturn, 1) := by decide +kernel
theorem d_Br_placeIndex_0 : decode b_Br_placeIndex 0 = .ok (.iload_n 0, 1) := by decide +kernel
theorem d_Br_placeIndex_1 : decode b_Br_placeIndex 1 = .ok (.iconst 2, 1) := by decide +kernel
theorem d_Br_placeIndex_2 : decode b_Br_placeIndex 2 = .ok (.imul, 1) := by decide +kernel
theorem d_Br_placeIndex_3 : decode b_Br_placeIndex 3 = .ok (.iload_n 1, 1) := by decide +kernel
theorem d_Br_placeIndex_4 : decode b_Br_placeIndex 4 = .ok (.iadd, 1) := by decide +kernel
theorem d_Br_placeIndex_5 : decode b_Br_placeIndex 5 = .ok (.iconst 1, 1) := by decide +kernel
theorem d_Br_placeIndex_6 : decode b_Br_placeIndex 6 = .ok (.isub, 1) := by decide +kernel
theorem d_Br_placeIndex_7 : decode b_Br_placeIndex 7 = .ok (.ireturn, 1) := by decide +kernel
theorem d_Ne_inbox_0 : decode b_Ne_inbox 0 = .ok (.aload_n 0, 1) := by decide +kernel
theorem d_Ne_inbox_1 : decode b_Ne_inbox 1 = .ok (.iload_n 1, 1) := by decide +kernel
theorem d_Ne_inbox_2 : decode b_Ne_inbox 2 = .ok (.invokevirtual 74, 3) := by decide +kernel
theorem d_Ne_inbox_5 : decode b_Ne_inbox 5 = .ok (.astore_n 3, 1) := by decide +kernel
theorem d_Ne_inbox_6 : decode b_Ne_inbox 6 = .ok (.aload_n 3, 1) := by decide +kernel
theorem d_Ne_inbox_7 : decode b_Ne_inbox 7 = .ok (.ifnonnull 7, 3) := by decide +kernel
theorem d_Ne_inbox_10 : decode b_Ne_inbox 10 = .ok (.ldc2_w 170, 3) := by decide +kernel
theorem d_Ne_inbox_13 : decode b_Ne_inbox 13 = .ok (.lreturn, 1) := by decide +kernel
theorem d_Ne_inbox_14 : decode b_Ne_inbox 14 = .ok (.iload_n 2, 1) := by decide +kernel
theorem d_Ne_inbox_15 : decode b_Ne_inbox 15 = .ok (.iconst (-1), 1) := by decide +kernel
theorem d_Ne_inbox_16 : decode b_Ne_inbox 16 = .ok (.if_icmp .ne 11, 3) := by decide +kernel
theorem d_Ne_inbox_19 : decode b_Ne_inbox 19 = .ok (.aload_n 3, 1) := by decide +kernel
theorem d_Ne_inbox_20 : decode b_Ne_inbox 20 = .ok (.getfield 182, 3) := by decide +kernel
theorem d_Ne_inbox_23 : decode b_Ne_inbox 23 = .ok (.i2l, 1) := by decide +kernel
theorem d_Ne_inbox_24 : decode b_Ne_inbox 24 = .ok (.goto 8, 3) := by decide +kernel
theorem d_Ne_inbox_27 : decode b_Ne_inbox 27 = .ok (.aload_n 3, 1) := by decide +kernel
theorem d_Ne_inbox_28 : decode b_Ne_inbox 28 = .ok (.iload_n 2, 1) := by decide +kernel
theorem d_Ne_inbox_29 : decode b_Ne_inbox 29 = .ok (.invokevirtual 185, 3) := by decide +kernel
theorem d_Ne_inbox_32 : decode b_Ne_inbox 32 = .ok (.lreturn, 1) := by decide +kernel
theorem d_St_kept_0 : decode b_St_kept 0 = .ok (.iload_n 1, 1) := by decide +kernel
theorem d_St_kept_1 : decode b_St_kept 1 = .ok (.ifCond .lt 20, 3) := by decide +kernel
theorem d_St_kept_4 : decode b_St_kept 4 = .ok (.iload_n 1, 1) := by decide +kernel
theorem d_St_kept_5 : decode b_St_kept 5 = .ok (.aload_n 0, 1) := by decide +kernel
theorem d_St_kept_6 : decode b_St_kept 6 = .ok (.getfield 23, 3) := by decide +kernel
theorem d_St_kept_9 : decode b_St_kept 9 = .ok (.if_icmp .ge 12, 3) := by decide +kernel
theorem d_St_kept_12 : decode b_St_kept 12 = .ok (.aload_n 0, 1) := by decide +kernel
theorem d_St_kept_13 : decode b_St_kept 13 = .ok (.getfield 19, 3) := by decide +kernel
theorem d_St_kept_16 : decode b_St_kept 16 = .ok (.iload_n 1, 1) := by decide +kernel
theorem d_St_kept_17 : decode b_St_kept 17 = .ok (.laload, 1) := by decide +kernel
theorem d_St_kept_18 : decode b_St_kept 18 = .ok (.goto 6, 3) := by decide +kernel
theorem d_St_kept_21 : decode b_St_kept 21 = .ok (.ldc2_w 47, 3) := by decide +kernel
theorem d_St_kept_24 : decode b_St_kept 24 = .ok (.lreturn, 1) := by decide +kernel
theorem d_Ne_line_0 : decode b_Ne_line 0 = .ok (.aload_n 0, 1) := by decide +kernel
theorem d_Ne_line_1 : decode b_Ne_line 1 = .ok (.iload_n 1, 1) := by decide +kernel
theorem d_Ne_line_2 : decode b_Ne_line 2 = .ok (.iload_n 2, 1) := by decide +kernel
theorem d_Ne_line_3 : decode b_Ne_line 3 = .ok (.invokevirtual 46, 3) := by decide +kernel
theorem d_Ne_line_6 : decode b_Ne_line 6 = .ok (.astore_n 3, 1) := by decide +kernel
theorem d_Ne_line_7 : decode b_Ne_line 7 = .ok (.aload_n 3, 1) := by decide +kernel
theorem d_Ne_line_8 : decode b_Ne_line 8 = .ok (.ifnonnull 7, 3) := by decide +kernel
theorem d_Ne_line_11 : decode b_Ne_line 11 = .ok (.iconst (-1), 1) := by decide +kernel
theorem d_Ne_line_12 : decode b_Ne_line 12 = .ok (.goto 10, 3) := by decide +kernel
theorem d_Ne_line_15 : decode b_Ne_line 15 = .ok (.aload_n 3, 1) := by decide +kernel
theorem d_Ne_line_16 : decode b_Ne_line 16 = .ok (.getfield 128, 3) := by decide +kernel
theorem d_Ne_line_19 : decode b_Ne_line 19 = .ok (.getfield 189, 3) := by decide +kernel
theorem d_Ne_line_22 : decode b_Ne_line 22 = .ok (.ireturn, 1) := by decide +kernel
theorem d_Ne_message_0 : decode b_Ne_message 0 = .ok (.aload_n 0, 1) := by decide +kernel
theorem d_Ne_message_1 : decode b_Ne_message 1 = .ok (.iload_n 1, 1) := by decide +kernel
theorem d_Ne_message_2 : decode b_Ne_message 2 = .ok (.iload_n 2, 1) := by decide +kernel
theorem d_Ne_message_3 : decode b_Ne_message 3 = .ok (.invokevirtual 46, 3) := by decide +kernel
theorem d_Ne_message_6 : decode b_Ne_message 6 = .ok (.astore 4, 2) := by decide +kernel
theorem d_Ne_message_8 : decode b_Ne_message 8 = .ok (.aload 4, 2) := by decide +kernel
theorem d_Ne_message_10 : decode b_Ne_message 10 = .ok (.ifnonnull 5, 3) := by decide +kernel
theorem d_Ne_message_13 : decode b_Ne_message 13 = .ok (.lconst 0, 1) := by decide +kernel
theorem d_Ne_message_14 : decode b_Ne_message 14 = .ok (.lreturn, 1) := by decide +kernel
theorem d_Ne_message_15 : decode b_Ne_message 15 = .ok (.aload 4, 2) := by decide +kernel
theorem d_Ne_message_17 : decode b_Ne_message 17 = .ok (.getfield 128, 3) := by decide +kernel
theorem d_Ne_message_20 : decode b_Ne_message 20 = .ok (.iload_n 3, 1) := by decide +kernel
theorem d_Ne_message_21 : decode b_Ne_message 21 = .ok (.invokevirtual 190, 3) := by decide +kernel
theorem d_Ne_message_24 : decode b_Ne_message 24 = .ok (.astore 5, 2) := by decide +kernel
theorem d_Ne_message_26 : decode b_Ne_message 26 = .ok (.aload 5, 2) := by decide +kernel
theorem d_Ne_message_28 : decode b_Ne_message 28 = .ok (.ifnonnull 7, 3) := by decide +kernel
theorem d_Ne_message_31 : decode b_Ne_message 31 = .ok (.lconst 0, 1) := by decide +kernel
theorem d_Ne_message_32 : decode b_Ne_message 32 = .ok (.goto 8, 3) := by decide +kernel
theorem d_Ne_message_35 : decode b_Ne_message 35 = .ok (.aload 5, 2) := by decide +kernel
theorem d_Ne_message_37 : decode b_Ne_message 37 = .ok (.invokevirtual 194, 3) := by decide +kernel
theorem d_Ne_message_40 : decode b_Ne_message 40 = .ok (.lreturn, 1) := by decide +kernel
theorem d_Li_at_0 : decode b_Li_at 0 = .ok (.iload_n 1, 1) := by decide +kernel
theorem d_Li_at_1 : decode b_Li_at 1 = .ok (.ifCond .lt 28, 3) := by decide +kernel
theorem d_Li_at_4 : decode b_Li_at 4 = .ok (.iload_n 1, 1) := by decide +kernel
theorem d_Li_at_5 : decode b_Li_at 5 = .ok (.aload_n 0, 1) := by decide +kernel
theorem d_Li_at_6 : decode b_Li_at 6 = .ok (.getfield 21, 3) := by decide +kernel
theorem d_Li_at_9 : decode b_Li_at 9 = .ok (.if_icmp .ge 20, 3) := by decide +kernel
theorem d_Li_at_12 : decode b_Li_at 12 = .ok (.aload_n 0, 1) := by decide +kernel
theorem d_Li_at_13 : decode b_Li_at 13 = .ok (.getfield 11, 3) := by decide +kernel
theorem d_Li_at_16 : decode b_Li_at 16 = .ok (.aload_n 0, 1) := by decide +kernel
theorem d_Li_at_17 : decode b_Li_at 17 = .ok (.getfield 17, 3) := by decide +kernel
theorem d_Li_at_20 : decode b_Li_at 20 = .ok (.iload_n 1, 1) := by decide +kernel
theorem d_Li_at_21 : decode b_Li_at 21 = .ok (.iadd, 1) := by decide +kernel
theorem d_Li_at_22 : decode b_Li_at 22 = .ok (.bipush 12, 2) := by decide +kernel
theorem d_Li_at_24 : decode b_Li_at 24 = .ok (.irem, 1) := by decide +kernel
theorem d_Li_at_25 : decode b_Li_at 25 = .ok (.aaload, 1) := by decide +kernel
theorem d_Li_at_26 : decode b_Li_at 26 = .ok (.goto 4, 3) := by decide +kernel
theorem d_Li_at_29 : decode b_Li_at 29 = .ok (.aconst_null, 1) := by decide +kernel
theorem d_Li_at_30 : decode b_Li_at 30 = .ok (.areturn, 1) := by decide +kernel
theorem d_Ms_summary_0 : decode b_Ms_summary 0 = .ok (.aload_n 0, 1) := by decide +kernel
theorem d_Ms_summary_1 : decode b_Ms_summary 1 = .ok (.getfield 29, 3) := by decide +kernel
theorem d_Ms_summary_4 : decode b_Ms_summary 4 = .ok (.ifnull 35, 3) := by decide +kernel
theorem d_Ms_summary_7 : decode b_Ms_summary 7 = .ok (.aload_n 0, 1) := by decide +kernel
theorem d_Ms_summary_8 : decode b_Ms_summary 8 = .ok (.getfield 9, 3) := by decide +kernel
theorem d_Ms_summary_11 : decode b_Ms_summary 11 = .ok (.i2l, 1) := by decide +kernel
theorem d_Ms_summary_12 : decode b_Ms_summary 12 = .ok (.ldc2_w 33, 3) := by decide +kernel
theorem d_Ms_summary_15 : decode b_Ms_summary 15 = .ok (.aload_n 0, 1) := by decide +kernel
theorem d_Ms_summary_16 : decode b_Ms_summary 16 = .ok (.getfield 29, 3) := by decide +kernel
theorem d_Ms_summary_19 : decode b_Ms_summary 19 = .ok (.getfield 35, 3) := by decide +kernel
theorem d_Ms_summary_22 : decode b_Ms_summary 22 = .ok (.i2l, 1) := by decide +kernel
theorem d_Ms_summary_23 : decode b_Ms_summary 23 = .ok (.lmul, 1) := by decide +kernel
theorem d_Ms_summary_24 : decode b_Ms_summary 24 = .ok (.ladd, 1) := by decide +kernel
theorem d_Ms_summary_25 : decode b_Ms_summary 25 = .ok (.ldc2_w 40, 3) := by decide +kernel
theorem d_Ms_summary_28 : decode b_Ms_summary 28 = .ok (.aload_n 0, 1) := by decide +kernel
theorem d_Ms_summary_29 : decode b_Ms_summary 29 = .ok (.getfield 29, 3) := by decide +kernel
theorem d_Ms_summary_32 : decode b_Ms_summary 32 = .ok (.getfield 42, 3) := by decide +kernel
theorem d_Ms_summary_35 : decode b_Ms_summary 35 = .ok (.i2l, 1) := by decide +kernel
theorem d_Ms_summary_36 : decode b_Ms_summary 36 = .ok (.lmul, 1) := by decide +kernel
theorem d_Ms_summary_37 : decode b_Ms_summary 37 = .ok (.ladd, 1) := by decide +kernel
theorem d_Ms_summary_38 : decode b_Ms_summary 38 = .ok (.lreturn, 1) := by decide +kernel
theorem d_Ms_summary_39 : decode b_Ms_summary 39 = .ok (.aload_n 0, 1) := by decide +kernel
theorem d_Ms_summary_40 : decode b_Ms_summary 40 = .ok (.getfield 9, 3) := by decide +kernel
theorem d_Ms_summary_43 : decode b_Ms_summary 43 = .ok (.i2l, 1) := by decide +kernel
theorem d_Ms_summary_44 : decode b_Ms_summary 44 = .ok (.ldc2_w 33, 3) := by decide +kernel
theorem d_Ms_summary_47 : decode b_Ms_summary 47 = .ok (.aload_n 0, 1) := by decide +kernel
theorem d_Ms_summary_48 : decode b_Ms_summary 48 = .ok (.getfield 15, 3) := by decide +kernel
theorem d_Ms_summary_51 : decode b_Ms_summary 51 = .ok (.i2l, 1) := by decide +kernel
theorem d_Ms_summary_52 : decode b_Ms_summary 52 = .ok (.lmul, 1) := by decide +kernel
theorem d_Ms_summary_53 : decode b_Ms_summary 53 = .ok (.ladd, 1) := by decide +kernel
theorem d_Ms_summary_54 : decode b_Ms_summary 54 = .ok (.lreturn, 1) := by decide +kernel
theorem d_Ne_attach_0 : decode b_Ne_attach 0 = .ok (.aload_n 0, 1) := by decide +kernel
theorem d_Ne_attach_1 : decode b_Ne_attach 1 = .ok (.iload_n 1, 1) := by decide +kernel
theorem d_Ne_attach_2 : decode b_Ne_attach 2 = .ok (.invokevirtual 74, 3) := by decide +kernel
theorem d_Ne_attach_5 : decode b_Ne_attach 5 = .ok (.astore 5, 2) := by decide +kernel
theorem d_Ne_attach_7 : decode b_Ne_attach 7 = .ok (.aload_n 0, 1) := by decide +kernel
theorem d_Ne_attach_8 : decode b_Ne_attach 8 = .ok (.iload_n 2, 1) := by decide +kernel
theorem d_Ne_attach_9 : decode b_Ne_attach 9 = .ok (.iload_n 3, 1) := by decide +kernel
theorem d_Ne_attach_10 : decode b_Ne_attach 10 = .ok (.invokevirtual 46, 3) := by decide +kernel
theorem d_Ne_attach_13 : decode b_Ne_attach 13 = .ok (.astore 6, 2) := by decide +kernel
theorem d_Ne_attach_15 : decode b_Ne_attach 15 = .ok (.aload 5, 2) := by decide +kernel
theorem d_Ne_attach_17 : decode b_Ne_attach 17 = .ok (.ifnull 8, 3) := by decide +kernel
theorem d_Ne_attach_20 : decode b_Ne_attach 20 = .ok (.aload 6, 2) := by decide +kernel
theorem d_Ne_attach_22 : decode b_Ne_attach 22 = .ok (.ifnonnull 13, 3) := by decide +kernel
theorem d_Ne_attach_25 : decode b_Ne_attach 25 = .ok (.new 78, 3) := by decide +kernel
theorem d_Ne_attach_28 : decode b_Ne_attach 28 = .ok (.dup, 1) := by decide +kernel
theorem d_Ne_attach_29 : decode b_Ne_attach 29 = .ok (.ldc 80, 2) := by decide +kernel
theorem d_Ne_attach_31 : decode b_Ne_attach 31 = .ok (.invokespecial 82, 3) := by decide +kernel
theorem d_Ne_attach_34 : decode b_Ne_attach 34 = .ok (.athrow, 1) := by decide +kernel
theorem d_Ne_attach_35 : decode b_Ne_attach 35 = .ok (.iload 4, 2) := by decide +kernel
theorem d_Ne_attach_37 : decode b_Ne_attach 37 = .ok (.invokestatic 85, 3) := by decide +kernel
theorem d_Ne_attach_40 : decode b_Ne_attach 40 = .ok (.ifCond .ne 13, 3) := by decide +kernel
theorem d_Ne_attach_43 : decode b_Ne_attach 43 = .ok (.new 88, 3) := by decide +kernel
theorem d_Ne_attach_46 : decode b_Ne_attach 46 = .ok (.dup, 1) := by decide +kernel
theorem d_Ne_attach_47 : decode b_Ne_attach 47 = .ok (.ldc 90, 2) := by decide +kernel
theorem d_Ne_attach_49 : decode b_Ne_attach 49 = .ok (.invokespecial 92, 3) := by decide +kernel
theorem d_Ne_attach_52 : decode b_Ne_attach 52 = .ok (.athrow, 1) := by decide +kernel
theorem d_Ne_attach_53 : decode b_Ne_attach 53 = .ok (.aload 6, 2) := by decide +kernel
theorem d_Ne_attach_55 : decode b_Ne_attach 55 = .ok (.invokevirtual 63, 3) := by decide +kernel
theorem d_Ne_attach_58 : decode b_Ne_attach 58 = .ok (.ifCond .ne 13, 3) := by decide +kernel
theorem d_Ne_attach_61 : decode b_Ne_attach 61 = .ok (.new 93, 3) := by decide +kernel
theorem d_Ne_attach_64 : decode b_Ne_attach 64 = .ok (.dup, 1) := by decide +kernel
theorem d_Ne_attach_65 : decode b_Ne_attach 65 = .ok (.ldc 95, 2) := by decide +kernel
theorem d_Ne_attach_67 : decode b_Ne_attach 67 = .ok (.invokespecial 97, 3) := by decide +kernel
theorem d_Ne_attach_70 : decode b_Ne_attach 70 = .ok (.athrow, 1) := by decide +kernel
theorem d_Ne_attach_71 : decode b_Ne_attach 71 = .ok (.aload 5, 2) := by decide +kernel
theorem d_Ne_attach_73 : decode b_Ne_attach 73 = .ok (.invokevirtual 98, 3) := by decide +kernel
theorem d_Ne_attach_76 : decode b_Ne_attach 76 = .ok (.aload 5, 2) := by decide +kernel
theorem d_Ne_attach_78 : decode b_Ne_attach 78 = .ok (.aload 6, 2) := by decide +kernel
theorem d_Ne_attach_80 : decode b_Ne_attach 80 = .ok (.iload 4, 2) := by decide +kernel
theorem d_Ne_attach_82 : decode b_Ne_attach 82 = .ok (.invokevirtual 101, 3) := by decide +kernel
theorem d_Ne_attach_85 : decode b_Ne_attach 85 = .ok (.return_, 1) := by decide +kernel
theorem d_St_leave_0 : decode b_St_leave 0 = .ok (.aload_n 0, 1) := by decide +kernel
theorem d_St_leave_1 : decode b_St_leave 1 = .ok (.getfield 9, 3) := by decide +kernel
theorem d_St_leave_4 : decode b_St_leave 4 = .ok (.ifnull 27, 3) := by decide +kernel
theorem d_St_leave_7 : decode b_St_leave 7 = .ok (.aload_n 0, 1) := by decide +kernel
theorem d_St_leave_8 : decode b_St_leave 8 = .ok (.getfield 9, 3) := by decide +kernel
theorem d_St_leave_11 : decode b_St_leave 11 = .ok (.aconst_null, 1) := by decide +kernel
theorem d_St_leave_12 : decode b_St_leave 12 = .ok (.aconst_null, 1) := by decide +kernel
theorem d_St_leave_13 : decode b_St_leave 13 = .ok (.invokevirtual 26, 3) := by decide +kernel
theorem d_St_leave_16 : decode b_St_leave 16 = .ok (.aload_n 0, 1) := by decide +kernel
theorem d_St_leave_17 : decode b_St_leave 17 = .ok (.getfield 9, 3) := by decide +kernel
theorem d_St_leave_20 : decode b_St_leave 20 = .ok (.getfield 32, 3) := by decide +kernel
theorem d_St_leave_23 : decode b_St_leave 23 = .ok (.invokevirtual 36, 3) := by decide +kernel
theorem d_St_leave_26 : decode b_St_leave 26 = .ok (.aload_n 0, 1) := by decide +kernel
theorem d_St_leave_27 : decode b_St_leave 27 = .ok (.aconst_null, 1) := by decide +kernel
theorem d_St_leave_28 : decode b_St_leave 28 = .ok (.putfield 9, 3) := by decide +kernel
theorem d_St_leave_31 : decode b_St_leave 31 = .ok (.return_, 1) := by decide +kernel
theorem d_St_settle_0 : decode b_St_settle 0 = .ok (.aload_n 0, 1) := by decide +kernel
theorem d_St_settle_1 : decode b_St_settle 1 = .ok (.aload_n 1, 1) := by decide +kernel
theorem d_St_settle_2 : decode b_St_settle 2 = .ok (.putfield 9, 3) := by decide +kernel
theorem d_St_settle_5 : decode b_St_settle 5 = .ok (.aload_n 0, 1) := by decide +kernel
theorem d_St_settle_6 : decode b_St_settle 6 = .ok (.iload_n 2, 1) := by decide +kernel
theorem d_St_settle_7 : decode b_St_settle 7 = .ok (.putfield 15, 3) := by decide +kernel
theorem d_St_settle_10 : decode b_St_settle 10 = .ok (.aload_n 1, 1) := by decide +kernel
theorem d_St_settle_11 : decode b_St_settle 11 = .ok (.aconst_null, 1) := by decide +kernel
theorem d_St_settle_12 : decode b_St_settle 12 = .ok (.aload_n 0, 1) := by decide +kernel
theorem d_St_settle_13 : decode b_St_settle 13 = .ok (.invokevirtual 26, 3) := by decide +kernel
theorem d_St_settle_16 : decode b_St_settle 16 = .ok (.aload_n 1, 1) := by decide +kernel
theorem d_St_settle_17 : decode b_St_settle 17 = .ok (.getfield 32, 3) := by decide +kernel
theorem d_St_settle_20 : decode b_St_settle 20 = .ok (.invokevirtual 36, 3) := by decide +kernel
theorem d_St_settle_23 : decode b_St_settle 23 = .ok (.return_, 1) := by decide +kernel
theorem d_Ne_send_0 : decode b_Ne_send 0 = .ok (.aload_n 0, 1) := by decide +kernel
theorem d_Ne_send_1 : decode b_Ne_send 1 = .ok (.iload_n 1, 1) := by decide +kernel
theorem d_Ne_send_2 : decode b_Ne_send 2 = .ok (.invokevirtual 74, 3) := by decide +kernel
theorem d_Ne_send_5 : decode b_Ne_send 5 = .ok (.astore 4, 2) := by decide +kernel
theorem d_Ne_send_7 : decode b_Ne_send 7 = .ok (.aload 4, 2) := by decide +kernel
theorem d_Ne_send_9 : decode b_Ne_send 9 = .ok (.ifnonnull 13, 3) := by decide +kernel
theorem d_Ne_send_12 : decode b_Ne_send 12 = .ok (.new 78, 3) := by decide +kernel
theorem d_Ne_send_15 : decode b_Ne_send 15 = .ok (.dup, 1) := by decide +kernel
theorem d_Ne_send_16 : decode b_Ne_send 16 = .ok (.ldc 105, 2) := by decide +kernel
theorem d_Ne_send_18 : decode b_Ne_send 18 = .ok (.invokespecial 82, 3) := by decide +kernel
theorem d_Ne_send_21 : decode b_Ne_send 21 = .ok (.athrow, 1) := by decide +kernel
theorem d_Ne_send_22 : decode b_Ne_send 22 = .ok (.aload 4, 2) := by decide +kernel
theorem d_Ne_send_24 : decode b_Ne_send 24 = .ok (.getfield 107, 3) := by decide +kernel
theorem d_Ne_send_27 : decode b_Ne_send 27 = .ok (.astore 5, 2) := by decide +kernel
theorem d_Ne_send_29 : decode b_Ne_send 29 = .ok (.aload 5, 2) := by decide +kernel
theorem d_Ne_send_31 : decode b_Ne_send 31 = .ok (.ifnonnull 13, 3) := by decide +kernel
theorem d_Ne_send_34 : decode b_Ne_send 34 = .ok (.new 93, 3) := by decide +kernel
theorem d_Ne_send_37 : decode b_Ne_send 37 = .ok (.dup, 1) := by decide +kernel
theorem d_Ne_send_38 : decode b_Ne_send 38 = .ok (.ldc 110, 2) := by decide +kernel
theorem d_Ne_send_40 : decode b_Ne_send 40 = .ok (.invokespecial 97, 3) := by decide +kernel
theorem d_Ne_send_43 : decode b_Ne_send 43 = .ok (.athrow, 1) := by decide +kernel
theorem d_Ne_send_44 : decode b_Ne_send 44 = .ok (.iload_n 2, 1) := by decide +kernel
theorem d_Ne_send_45 : decode b_Ne_send 45 = .ok (.ifCond .lt 9, 3) := by decide +kernel
theorem d_Ne_send_48 : decode b_Ne_send 48 = .ok (.iload_n 2, 1) := by decide +kernel
theorem d_Ne_send_49 : decode b_Ne_send 49 = .ok (.bipush 9, 2) := by decide +kernel
theorem d_Ne_send_51 : decode b_Ne_send 51 = .ok (.if_icmp .le 13, 3) := by decide +kernel
theorem d_Ne_send_54 : decode b_Ne_send 54 = .ok (.new 88, 3) := by decide +kernel
theorem d_Ne_send_57 : decode b_Ne_send 57 = .ok (.dup, 1) := by decide +kernel
theorem d_Ne_send_58 : decode b_Ne_send 58 = .ok (.ldc 112, 2) := by decide +kernel
theorem d_Ne_send_60 : decode b_Ne_send 60 = .ok (.invokespecial 92, 3) := by decide +kernel
theorem d_Ne_send_63 : decode b_Ne_send 63 = .ok (.athrow, 1) := by decide +kernel
theorem d_Ne_send_64 : decode b_Ne_send 64 = .ok (.aload 5, 2) := by decide +kernel
theorem d_Ne_send_66 : decode b_Ne_send 66 = .ok (.getfield 59, 3) := by decide +kernel
theorem d_Ne_send_69 : decode b_Ne_send 69 = .ok (.aload 5, 2) := by decide +kernel
theorem d_Ne_send_71 : decode b_Ne_send 71 = .ok (.new 114, 3) := by decide +kernel
theorem d_Ne_send_74 : decode b_Ne_send 74 = .ok (.dup, 1) := by decide +kernel
theorem d_Ne_send_75 : decode b_Ne_send 75 = .ok (.iload_n 1, 1) := by decide +kernel
theorem d_Ne_send_76 : decode b_Ne_send 76 = .ok (.iload_n 2, 1) := by decide +kernel
theorem d_Ne_send_77 : decode b_Ne_send 77 = .ok (.aload 4, 2) := by decide +kernel
theorem d_Ne_send_79 : decode b_Ne_send 79 = .ok (.getfield 116, 3) := by decide +kernel
theorem d_Ne_send_82 : decode b_Ne_send 82 = .ok (.iload_n 3, 1) := by decide +kernel
theorem d_Ne_send_83 : decode b_Ne_send 83 = .ok (.invokespecial 119, 3) := by decide +kernel
theorem d_Ne_send_86 : decode b_Ne_send 86 = .ok (.invokevirtual 122, 3) := by decide +kernel
theorem d_Ne_send_89 : decode b_Ne_send 89 = .ok (.ireturn, 1) := by decide +kernel
theorem d_Br_hearFrame_0 : decode b_Br_hearFrame 0 = .ok (.aload_n 2, 1) := by decide +kernel
theorem d_Br_hearFrame_1 : decode b_Br_hearFrame 1 = .ok (.ifnull 21, 3) := by decide +kernel
theorem d_Br_hearFrame_4 : decode b_Br_hearFrame 4 = .ok (.aload_n 1, 1) := by decide +kernel
theorem d_Br_hearFrame_5 : decode b_Br_hearFrame 5 = .ok (.getfield 165, 3) := by decide +kernel
theorem d_Br_hearFrame_8 : decode b_Br_hearFrame 8 = .ok (.ifCond .eq 14, 3) := by decide +kernel
theorem d_Br_hearFrame_11 : decode b_Br_hearFrame 11 = .ok (.aload_n 1, 1) := by decide +kernel
theorem d_Br_hearFrame_12 : decode b_Br_hearFrame 12 = .ok (.aload_n 2, 1) := by decide +kernel
theorem d_Br_hearFrame_13 : decode b_Br_hearFrame 13 = .ok (.getfield 168, 3) := by decide +kernel
theorem d_Br_hearFrame_16 : decode b_Br_hearFrame 16 = .ok (.invokevirtual 173, 3) := by decide +kernel
theorem d_Br_hearFrame_19 : decode b_Br_hearFrame 19 = .ok (.ifCond .ne 5, 3) := by decide +kernel
theorem d_Br_hearFrame_22 : decode b_Br_hearFrame 22 = .ok (.iconst 0, 1) := by decide +kernel
theorem d_Br_hearFrame_23 : decode b_Br_hearFrame 23 = .ok (.ireturn, 1) := by decide +kernel
theorem d_Br_hearFrame_24 : decode b_Br_hearFrame 24 = .ok (.aload_n 0, 1) := by decide +kernel
theorem d_Br_hearFrame_25 : decode b_Br_hearFrame 25 = .ok (.aload_n 2, 1) := by decide +kernel
theorem d_Br_hearFrame_26 : decode b_Br_hearFrame 26 = .ok (.getfield 177, 3) := by decide +kernel
theorem d_Br_hearFrame_29 : decode b_Br_hearFrame 29 = .ok (.aload_n 2, 1) := by decide +kernel
theorem d_Br_hearFrame_30 : decode b_Br_hearFrame 30 = .ok (.getfield 168, 3) := by decide +kernel
theorem d_Br_hearFrame_33 : decode b_Br_hearFrame 33 = .ok (.aload_n 1, 1) := by decide +kernel
theorem d_Br_hearFrame_34 : decode b_Br_hearFrame 34 = .ok (.getfield 112, 3) := by decide +kernel
theorem d_Br_hearFrame_37 : decode b_Br_hearFrame 37 = .ok (.invokevirtual 180, 3) := by decide +kernel
theorem d_Br_hearFrame_40 : decode b_Br_hearFrame 40 = .ok (.aload_n 1, 1) := by decide +kernel
theorem d_Br_hearFrame_41 : decode b_Br_hearFrame 41 = .ok (.getfield 165, 3) := by decide +kernel
theorem d_Br_hearFrame_44 : decode b_Br_hearFrame 44 = .ok (.iconst 2, 1) := by decide +kernel
theorem d_Br_hearFrame_45 : decode b_Br_hearFrame 45 = .ok (.if_icmp .ne 12, 3) := by decide +kernel
theorem d_Br_hearFrame_48 : decode b_Br_hearFrame 48 = .ok (.aload_n 2, 1) := by decide +kernel
theorem d_Br_hearFrame_49 : decode b_Br_hearFrame 49 = .ok (.getfield 184, 3) := by decide +kernel
theorem d_Br_hearFrame_52 : decode b_Br_hearFrame 52 = .ok (.bipush 9, 2) := by decide +kernel
theorem d_Br_hearFrame_54 : decode b_Br_hearFrame 54 = .ok (.if_icmp .ne 5, 3) := by decide +kernel
theorem d_Br_hearFrame_57 : decode b_Br_hearFrame 57 = .ok (.iconst 0, 1) := by decide +kernel
theorem d_Br_hearFrame_58 : decode b_Br_hearFrame 58 = .ok (.ireturn, 1) := by decide +kernel
theorem d_Br_hearFrame_59 : decode b_Br_hearFrame 59 = .ok (.aload_n 2, 1) := by decide +kernel
theorem d_Br_hearFrame_60 : decode b_Br_hearFrame 60 = .ok (.getfield 184, 3) := by decide +kernel
theorem d_Br_hearFrame_63 : decode b_Br_hearFrame 63 = .ok (.bipush 8, 2) := by decide +kernel
theorem d_Br_hearFrame_65 : decode b_Br_hearFrame 65 = .ok (.if_icmp .ge 18, 3) := by decide +kernel
theorem d_Br_hearFrame_68 : decode b_Br_hearFrame 68 = .ok (.aload_n 0, 1) := by decide +kernel
theorem d_Br_hearFrame_69 : decode b_Br_hearFrame 69 = .ok (.aload_n 2, 1) := by decide +kernel
theorem d_Br_hearFrame_70 : decode b_Br_hearFrame 70 = .ok (.getfield 184, 3) := by decide +kernel
theorem d_Br_hearFrame_73 : decode b_Br_hearFrame 73 = .ok (.aload_n 2, 1) := by decide +kernel
theorem d_Br_hearFrame_74 : decode b_Br_hearFrame 74 = .ok (.getfield 168, 3) := by decide +kernel
theorem d_Br_hearFrame_77 : decode b_Br_hearFrame 77 = .ok (.invokevirtual 187, 3) := by decide +kernel
theorem d_Br_hearFrame_80 : decode b_Br_hearFrame 80 = .ok (.goto 4, 3) := by decide +kernel
theorem d_Br_hearFrame_83 : decode b_Br_hearFrame 83 = .ok (.iconst (-1), 1) := by decide +kernel
theorem d_Br_hearFrame_84 : decode b_Br_hearFrame 84 = .ok (.istore_n 3, 1) := by decide +kernel
theorem d_Br_hearFrame_85 : decode b_Br_hearFrame 85 = .ok (.iload_n 3, 1) := by decide +kernel
theorem d_Br_hearFrame_86 : decode b_Br_hearFrame 86 = .ok (.ifCond .ge 12, 3) := by decide +kernel
theorem d_Br_hearFrame_89 : decode b_Br_hearFrame 89 = .ok (.aload_n 0, 1) := by decide +kernel
theorem d_Br_hearFrame_90 : decode b_Br_hearFrame 90 = .ok (.aload_n 1, 1) := by decide +kernel
theorem d_Br_hearFrame_91 : decode b_Br_hearFrame 91 = .ok (.aload_n 2, 1) := by decide +kernel
theorem d_Br_hearFrame_92 : decode b_Br_hearFrame 92 = .ok (.invokevirtual 191, 3) := by decide +kernel
theorem d_Br_hearFrame_95 : decode b_Br_hearFrame 95 = .ok (.goto 10, 3) := by decide +kernel
theorem d_Br_hearFrame_98 : decode b_Br_hearFrame 98 = .ok (.aload_n 0, 1) := by decide +kernel
theorem d_Br_hearFrame_99 : decode b_Br_hearFrame 99 = .ok (.iload_n 3, 1) := by decide +kernel
theorem d_Br_hearFrame_100 : decode b_Br_hearFrame 100 = .ok (.aload_n 1, 1) := by decide +kernel
theorem d_Br_hearFrame_101 : decode b_Br_hearFrame 101 = .ok (.aload_n 2, 1) := by decide +kernel
theorem d_Br_hearFrame_102 : decode b_Br_hearFrame 102 = .ok (.invokevirtual 195, 3) := by decide +kernel
theorem d_Br_hearFrame_105 : decode b_Br_hearFrame 105 = .ok (.ireturn, 1) := by decide +kernel
theorem d_Po_carries_0 : decode b_Po_carries 0 = .ok (.aload_n 0, 1) := by decide +kernel
theorem d_Po_carries_1 : decode b_Po_carries 1 = .ok (.getfield 22, 3) := by decide +kernel
theorem d_Po_carries_4 : decode b_Po_carries 4 = .ok (.iload_n 1, 1) := by decide +kernel
theorem d_Po_carries_5 : decode b_Po_carries 5 = .ok (.iand, 1) := by decide +kernel
theorem d_Po_carries_6 : decode b_Po_carries 6 = .ok (.ifCond .eq 7, 3) := by decide +kernel
theorem d_Po_carries_9 : decode b_Po_carries 9 = .ok (.iconst 1, 1) := by decide +kernel
theorem d_Po_carries_10 : decode b_Po_carries 10 = .ok (.goto 4, 3) := by decide +kernel
theorem d_Po_carries_13 : decode b_Po_carries 13 = .ok (.iconst 0, 1) := by decide +kernel
theorem d_Po_carries_14 : decode b_Po_carries 14 = .ok (.ireturn, 1) := by decide +kernel
theorem d_Br_learn_0 : decode b_Br_learn 0 = .ok (.iload_n 1, 1) := by decide +kernel
theorem d_Br_learn_1 : decode b_Br_learn 1 = .ok (.iload_n 2, 1) := by decide +kernel
theorem d_Br_learn_2 : decode b_Br_learn 2 = .ok (.invokestatic 203, 3) := by decide +kernel
theorem d_Br_learn_5 : decode b_Br_learn 5 = .ok (.istore 4, 2) := by decide +kernel
theorem d_Br_learn_7 : decode b_Br_learn 7 = .ok (.aload_n 0, 1) := by decide +kernel
theorem d_Br_learn_8 : decode b_Br_learn 8 = .ok (.getfield 28, 3) := by decide +kernel
theorem d_Br_learn_11 : decode b_Br_learn 11 = .ok (.iload 4, 2) := by decide +kernel
theorem d_Br_learn_13 : decode b_Br_learn 13 = .ok (.iload_n 3, 1) := by decide +kernel
theorem d_Br_learn_14 : decode b_Br_learn 14 = .ok (.iastore, 1) := by decide +kernel
theorem d_Br_learn_15 : decode b_Br_learn 15 = .ok (.aload_n 0, 1) := by decide +kernel
theorem d_Br_learn_16 : decode b_Br_learn 16 = .ok (.getfield 32, 3) := by decide +kernel
theorem d_Br_learn_19 : decode b_Br_learn 19 = .ok (.iload 4, 2) := by decide +kernel
theorem d_Br_learn_21 : decode b_Br_learn 21 = .ok (.bipush 12, 2) := by decide +kernel
theorem d_Br_learn_23 : decode b_Br_learn 23 = .ok (.iastore, 1) := by decide +kernel
theorem d_Br_learn_24 : decode b_Br_learn 24 = .ok (.return_, 1) := by decide +kernel
theorem d_Br_flood_0 : decode b_Br_flood 0 = .ok (.iconst 0, 1) := by decide +kernel
theorem d_Br_flood_1 : decode b_Br_flood 1 = .ok (.istore_n 3, 1) := by decide +kernel
theorem d_Br_flood_2 : decode b_Br_flood 2 = .ok (.aload_n 0, 1) := by decide +kernel
theorem d_Br_flood_3 : decode b_Br_flood 3 = .ok (.getfield 11, 3) := by decide +kernel
theorem d_Br_flood_6 : decode b_Br_flood 6 = .ok (.astore 4, 2) := by decide +kernel
theorem d_Br_flood_8 : decode b_Br_flood 8 = .ok (.aload 4, 2) := by decide +kernel
theorem d_Br_flood_10 : decode b_Br_flood 10 = .ok (.arraylength, 1) := by decide +kernel
theorem d_Br_flood_11 : decode b_Br_flood 11 = .ok (.istore 5, 2) := by decide +kernel
theorem d_Br_flood_13 : decode b_Br_flood 13 = .ok (.iconst 0, 1) := by decide +kernel
theorem d_Br_flood_14 : decode b_Br_flood 14 = .ok (.istore 6, 2) := by decide +kernel
theorem d_Br_flood_16 : decode b_Br_flood 16 = .ok (.iload 6, 2) := by decide +kernel
theorem d_Br_flood_18 : decode b_Br_flood 18 = .ok (.iload 5, 2) := by decide +kernel
theorem d_Br_flood_20 : decode b_Br_flood 20 = .ok (.if_icmp .ge 34, 3) := by decide +kernel
theorem d_Br_flood_23 : decode b_Br_flood 23 = .ok (.aload 4, 2) := by decide +kernel
theorem d_Br_flood_25 : decode b_Br_flood 25 = .ok (.iload 6, 2) := by decide +kernel
theorem d_Br_flood_27 : decode b_Br_flood 27 = .ok (.aaload, 1) := by decide +kernel
theorem d_Br_flood_28 : decode b_Br_flood 28 = .ok (.astore 7, 2) := by decide +kernel
theorem d_Br_flood_30 : decode b_Br_flood 30 = .ok (.aload 7, 2) := by decide +kernel
theorem d_Br_flood_32 : decode b_Br_flood 32 = .ok (.aload_n 1, 1) := by decide +kernel
theorem d_Br_flood_33 : decode b_Br_flood 33 = .ok (.if_acmp .eq 15, 3) := by decide +kernel
theorem d_Br_flood_36 : decode b_Br_flood 36 = .ok (.aload 7, 2) := by decide +kernel
theorem d_Br_flood_38 : decode b_Br_flood 38 = .ok (.aload_n 2, 1) := by decide +kernel
theorem d_Br_flood_39 : decode b_Br_flood 39 = .ok (.invokevirtual 199, 3) := by decide +kernel
theorem d_Br_flood_42 : decode b_Br_flood 42 = .ok (.ifCond .eq 6, 3) := by decide +kernel
theorem d_Br_flood_45 : decode b_Br_flood 45 = .ok (.iinc 3 1, 3) := by decide +kernel
theorem d_Br_flood_48 : decode b_Br_flood 48 = .ok (.iinc 6 1, 3) := by decide +kernel
theorem d_Br_flood_51 : decode b_Br_flood 51 = .ok (.goto (-35), 3) := by decide +kernel
theorem d_Br_flood_54 : decode b_Br_flood 54 = .ok (.iload_n 3, 1) := by decide +kernel
theorem d_Br_flood_55 : decode b_Br_flood 55 = .ok (.ireturn, 1) := by decide +kernel
theorem d_Po_letOut_0 : decode b_Po_letOut 0 = .ok (.aload_n 0, 1) := by decide +kernel
theorem d_Po_letOut_1 : decode b_Po_letOut 1 = .ok (.getfield 50, 3) := by decide +kernel
theorem d_Po_letOut_4 : decode b_Po_letOut 4 = .ok (.iconst 2, 1) := by decide +kernel
theorem d_Po_letOut_5 : decode b_Po_letOut 5 = .ok (.if_icmp .ne 14, 3) := by decide +kernel
theorem d_Po_letOut_8 : decode b_Po_letOut 8 = .ok (.aload_n 0, 1) := by decide +kernel
theorem d_Po_letOut_9 : decode b_Po_letOut 9 = .ok (.aload_n 1, 1) := by decide +kernel
theorem d_Po_letOut_10 : decode b_Po_letOut 10 = .ok (.getfield 91, 3) := by decide +kernel
theorem d_Po_letOut_13 : decode b_Po_letOut 13 = .ok (.invokevirtual 96, 3) := by decide +kernel
theorem d_Po_letOut_16 : decode b_Po_letOut 16 = .ok (.ifCond .ne 5, 3) := by decide +kernel
theorem d_Po_letOut_19 : decode b_Po_letOut 19 = .ok (.iconst 0, 1) := by decide +kernel
theorem d_Po_letOut_20 : decode b_Po_letOut 20 = .ok (.ireturn, 1) := by decide +kernel
theorem d_Po_letOut_21 : decode b_Po_letOut 21 = .ok (.aload_n 0, 1) := by decide +kernel
theorem d_Po_letOut_22 : decode b_Po_letOut 22 = .ok (.getfield 25, 3) := by decide +kernel
theorem d_Po_letOut_25 : decode b_Po_letOut 25 = .ok (.ifnull 17, 3) := by decide +kernel
theorem d_Po_letOut_28 : decode b_Po_letOut 28 = .ok (.aload_n 0, 1) := by decide +kernel
theorem d_Po_letOut_29 : decode b_Po_letOut 29 = .ok (.getfield 25, 3) := by decide +kernel
theorem d_Po_letOut_32 : decode b_Po_letOut 32 = .ok (.getfield 12, 3) := by decide +kernel
theorem d_Po_letOut_35 : decode b_Po_letOut 35 = .ok (.aload_n 1, 1) := by decide +kernel
theorem d_Po_letOut_36 : decode b_Po_letOut 36 = .ok (.invokevirtual 100, 3) := by decide +kernel
theorem d_Po_letOut_39 : decode b_Po_letOut 39 = .ok (.goto 32, 3) := by decide +kernel
theorem d_Po_letOut_42 : decode b_Po_letOut 42 = .ok (.aload_n 0, 1) := by decide +kernel
theorem d_Po_letOut_43 : decode b_Po_letOut 43 = .ok (.getfield 29, 3) := by decide +kernel
theorem d_Po_letOut_46 : decode b_Po_letOut 46 = .ok (.ifnull 25, 3) := by decide +kernel
theorem d_Po_letOut_49 : decode b_Po_letOut 49 = .ok (.aload_n 0, 1) := by decide +kernel
theorem d_Po_letOut_50 : decode b_Po_letOut 50 = .ok (.getfield 29, 3) := by decide +kernel
theorem d_Po_letOut_53 : decode b_Po_letOut 53 = .ok (.getfield 104, 3) := by decide +kernel
theorem d_Po_letOut_56 : decode b_Po_letOut 56 = .ok (.aload_n 1, 1) := by decide +kernel
theorem d_Po_letOut_57 : decode b_Po_letOut 57 = .ok (.getfield 91, 3) := by decide +kernel
theorem d_Po_letOut_60 : decode b_Po_letOut 60 = .ok (.if_icmp .ne 11, 3) := by decide +kernel
theorem d_Po_letOut_63 : decode b_Po_letOut 63 = .ok (.aload_n 0, 1) := by decide +kernel
theorem d_Po_letOut_64 : decode b_Po_letOut 64 = .ok (.getfield 29, 3) := by decide +kernel
theorem d_Po_letOut_67 : decode b_Po_letOut 67 = .ok (.aload_n 1, 1) := by decide +kernel
theorem d_Po_letOut_68 : decode b_Po_letOut 68 = .ok (.invokevirtual 107, 3) := by decide +kernel
theorem d_Po_letOut_71 : decode b_Po_letOut 71 = .ok (.iconst 1, 1) := by decide +kernel
theorem d_Po_letOut_72 : decode b_Po_letOut 72 = .ok (.ireturn, 1) := by decide +kernel
theorem d_Li_putFrame_0 : decode b_Li_putFrame 0 = .ok (.aload_n 0, 1) := by decide +kernel
theorem d_Li_putFrame_1 : decode b_Li_putFrame 1 = .ok (.iconst 3, 1) := by decide +kernel
theorem d_Li_putFrame_2 : decode b_Li_putFrame 2 = .ok (.iconst 0, 1) := by decide +kernel
theorem d_Li_putFrame_3 : decode b_Li_putFrame 3 = .ok (.aload_n 1, 1) := by decide +kernel
theorem d_Li_putFrame_4 : decode b_Li_putFrame 4 = .ok (.invokevirtual 31, 3) := by decide +kernel
theorem d_Li_putFrame_7 : decode b_Li_putFrame 7 = .ok (.pop, 1) := by decide +kernel
theorem d_Li_putFrame_8 : decode b_Li_putFrame 8 = .ok (.return_, 1) := by decide +kernel
theorem d_St_keep_0 : decode b_St_keep 0 = .ok (.aload_n 0, 1) := by decide +kernel
theorem d_St_keep_1 : decode b_St_keep 1 = .ok (.getfield 23, 3) := by decide +kernel
theorem d_St_keep_4 : decode b_St_keep 4 = .ok (.bipush 40, 2) := by decide +kernel
theorem d_St_keep_6 : decode b_St_keep 6 = .ok (.if_icmp .ge 26, 3) := by decide +kernel
theorem d_St_keep_9 : decode b_St_keep 9 = .ok (.aload_n 0, 1) := by decide +kernel
theorem d_St_keep_10 : decode b_St_keep 10 = .ok (.getfield 19, 3) := by decide +kernel
theorem d_St_keep_13 : decode b_St_keep 13 = .ok (.aload_n 0, 1) := by decide +kernel
theorem d_St_keep_14 : decode b_St_keep 14 = .ok (.getfield 23, 3) := by decide +kernel
theorem d_St_keep_17 : decode b_St_keep 17 = .ok (.aload_n 1, 1) := by decide +kernel
theorem d_St_keep_18 : decode b_St_keep 18 = .ok (.invokevirtual 41, 3) := by decide +kernel
theorem d_St_keep_21 : decode b_St_keep 21 = .ok (.lastore, 1) := by decide +kernel
theorem d_St_keep_22 : decode b_St_keep 22 = .ok (.aload_n 0, 1) := by decide +kernel
theorem d_St_keep_23 : decode b_St_keep 23 = .ok (.dup, 1) := by decide +kernel
theorem d_St_keep_24 : decode b_St_keep 24 = .ok (.getfield 23, 3) := by decide +kernel
theorem d_St_keep_27 : decode b_St_keep 27 = .ok (.iconst 1, 1) := by decide +kernel
theorem d_St_keep_28 : decode b_St_keep 28 = .ok (.iadd, 1) := by decide +kernel
theorem d_St_keep_29 : decode b_St_keep 29 = .ok (.putfield 23, 3) := by decide +kernel
theorem d_St_keep_32 : decode b_St_keep 32 = .ok (.return_, 1) := by decide +kernel
theorem d_Fr_inboxEntry_0 : decode b_Fr_inboxEntry 0 = .ok (.aload_n 0, 1) := by decide +kernel
theorem d_Fr_inboxEntry_1 : decode b_Fr_inboxEntry 1 = .ok (.getfield 19, 3) := by decide +kernel
theorem d_Fr_inboxEntry_4 : decode b_Fr_inboxEntry 4 = .ok (.i2l, 1) := by decide +kernel
theorem d_Fr_inboxEntry_5 : decode b_Fr_inboxEntry 5 = .ok (.ldc2_w 22, 3) := by decide +kernel
theorem d_Fr_inboxEntry_8 : decode b_Fr_inboxEntry 8 = .ok (.land, 1) := by decide +kernel
theorem d_Fr_inboxEntry_9 : decode b_Fr_inboxEntry 9 = .ok (.aload_n 0, 1) := by decide +kernel
theorem d_Fr_inboxEntry_10 : decode b_Fr_inboxEntry 10 = .ok (.getfield 7, 3) := by decide +kernel
theorem d_Fr_inboxEntry_13 : decode b_Fr_inboxEntry 13 = .ok (.i2l, 1) := by decide +kernel
theorem d_Fr_inboxEntry_14 : decode b_Fr_inboxEntry 14 = .ok (.bipush 32, 2) := by decide +kernel
theorem d_Fr_inboxEntry_16 : decode b_Fr_inboxEntry 16 = .ok (.lshl, 1) := by decide +kernel
theorem d_Fr_inboxEntry_17 : decode b_Fr_inboxEntry 17 = .ok (.ladd, 1) := by decide +kernel
theorem d_Fr_inboxEntry_18 : decode b_Fr_inboxEntry 18 = .ok (.aload_n 0, 1) := by decide +kernel
theorem d_Fr_inboxEntry_19 : decode b_Fr_inboxEntry 19 = .ok (.getfield 13, 3) := by decide +kernel
theorem d_Fr_inboxEntry_22 : decode b_Fr_inboxEntry 22 = .ok (.i2l, 1) := by decide +kernel
theorem d_Fr_inboxEntry_23 : decode b_Fr_inboxEntry 23 = .ok (.bipush 36, 2) := by decide +kernel
theorem d_Fr_inboxEntry_25 : decode b_Fr_inboxEntry 25 = .ok (.lshl, 1) := by decide +kernel
theorem d_Fr_inboxEntry_26 : decode b_Fr_inboxEntry 26 = .ok (.ladd, 1) := by decide +kernel
theorem d_Fr_inboxEntry_27 : decode b_Fr_inboxEntry 27 = .ok (.lreturn, 1) := by decide +kernel
theorem d_Br_passTo_0 : decode b_Br_passTo 0 = .ok (.iload_n 1, 1) := by decide +kernel
theorem d_Br_passTo_1 : decode b_Br_passTo 1 = .ok (.aload_n 2, 1) := by decide +kernel
theorem d_Br_passTo_2 : decode b_Br_passTo 2 = .ok (.getfield 112, 3) := by decide +kernel
theorem d_Br_passTo_5 : decode b_Br_passTo 5 = .ok (.if_icmp .eq 20, 3) := by decide +kernel
theorem d_Br_passTo_8 : decode b_Br_passTo 8 = .ok (.aload_n 0, 1) := by decide +kernel
theorem d_Br_passTo_9 : decode b_Br_passTo 9 = .ok (.getfield 11, 3) := by decide +kernel
theorem d_Br_passTo_12 : decode b_Br_passTo 12 = .ok (.iload_n 1, 1) := by decide +kernel
theorem d_Br_passTo_13 : decode b_Br_passTo 13 = .ok (.aaload, 1) := by decide +kernel
theorem d_Br_passTo_14 : decode b_Br_passTo 14 = .ok (.aload_n 3, 1) := by decide +kernel
theorem d_Br_passTo_15 : decode b_Br_passTo 15 = .ok (.invokevirtual 199, 3) := by decide +kernel
theorem d_Br_passTo_18 : decode b_Br_passTo 18 = .ok (.ifCond .eq 7, 3) := by decide +kernel
theorem d_Br_passTo_21 : decode b_Br_passTo 21 = .ok (.iconst 1, 1) := by decide +kernel
theorem d_Br_passTo_22 : decode b_Br_passTo 22 = .ok (.goto 4, 3) := by decide +kernel
theorem d_Br_passTo_25 : decode b_Br_passTo 25 = .ok (.iconst 0, 1) := by decide +kernel
theorem d_Br_passTo_26 : decode b_Br_passTo 26 = .ok (.ireturn, 1) := by decide +kernel
theorem d_Ne_deliver_0 : decode b_Ne_deliver 0 = .ok (.aload_n 0, 1) := by decide +kernel
theorem d_Ne_deliver_1 : decode b_Ne_deliver 1 = .ok (.iload_n 1, 1) := by decide +kernel
theorem d_Ne_deliver_2 : decode b_Ne_deliver 2 = .ok (.iload_n 2, 1) := by decide +kernel
theorem d_Ne_deliver_3 : decode b_Ne_deliver 3 = .ok (.invokevirtual 46, 3) := by decide +kernel
theorem d_Ne_deliver_6 : decode b_Ne_deliver 6 = .ok (.astore_n 3, 1) := by decide +kernel
theorem d_Ne_deliver_7 : decode b_Ne_deliver 7 = .ok (.aload_n 3, 1) := by decide +kernel
theorem d_Ne_deliver_8 : decode b_Ne_deliver 8 = .ok (.ifnonnull 13, 3) := by decide +kernel
theorem d_Ne_deliver_11 : decode b_Ne_deliver 11 = .ok (.new 78, 3) := by decide +kernel
theorem d_Ne_deliver_14 : decode b_Ne_deliver 14 = .ok (.dup, 1) := by decide +kernel
theorem d_Ne_deliver_15 : decode b_Ne_deliver 15 = .ok (.ldc 126, 2) := by decide +kernel
theorem d_Ne_deliver_17 : decode b_Ne_deliver 17 = .ok (.invokespecial 82, 3) := by decide +kernel
theorem d_Ne_deliver_20 : decode b_Ne_deliver 20 = .ok (.athrow, 1) := by decide +kernel
theorem d_Ne_deliver_21 : decode b_Ne_deliver 21 = .ok (.aload_n 3, 1) := by decide +kernel
theorem d_Ne_deliver_22 : decode b_Ne_deliver 22 = .ok (.getfield 128, 3) := by decide +kernel
theorem d_Ne_deliver_25 : decode b_Ne_deliver 25 = .ok (.invokevirtual 132, 3) := by decide +kernel
theorem d_Ne_deliver_28 : decode b_Ne_deliver 28 = .ok (.astore 4, 2) := by decide +kernel
theorem d_Ne_deliver_30 : decode b_Ne_deliver 30 = .ok (.aload 4, 2) := by decide +kernel
theorem d_Ne_deliver_32 : decode b_Ne_deliver 32 = .ok (.ifnonnull 5, 3) := by decide +kernel
theorem d_Ne_deliver_35 : decode b_Ne_deliver 35 = .ok (.iconst 0, 1) := by decide +kernel
theorem d_Ne_deliver_36 : decode b_Ne_deliver 36 = .ok (.ireturn, 1) := by decide +kernel
theorem d_Ne_deliver_37 : decode b_Ne_deliver 37 = .ok (.aload 4, 2) := by decide +kernel
theorem d_Ne_deliver_39 : decode b_Ne_deliver 39 = .ok (.getfield 138, 3) := by decide +kernel
theorem d_Ne_deliver_42 : decode b_Ne_deliver 42 = .ok (.lookupswitch 55 #[(1, 26), (2, 39)], 26) := by decide +kernel
theorem d_Ne_deliver_68 : decode b_Ne_deliver 68 = .ok (.aload_n 3, 1) := by decide +kernel
theorem d_Ne_deliver_69 : decode b_Ne_deliver 69 = .ok (.getfield 59, 3) := by decide +kernel
theorem d_Ne_deliver_72 : decode b_Ne_deliver 72 = .ok (.aload_n 3, 1) := by decide +kernel
theorem d_Ne_deliver_73 : decode b_Ne_deliver 73 = .ok (.aload 4, 2) := by decide +kernel
theorem d_Ne_deliver_75 : decode b_Ne_deliver 75 = .ok (.invokevirtual 143, 3) := by decide +kernel
theorem d_Ne_deliver_78 : decode b_Ne_deliver 78 = .ok (.goto 33, 3) := by decide +kernel
theorem d_Ne_deliver_81 : decode b_Ne_deliver 81 = .ok (.aload_n 3, 1) := by decide +kernel
theorem d_Ne_deliver_82 : decode b_Ne_deliver 82 = .ok (.getfield 59, 3) := by decide +kernel
theorem d_Ne_deliver_85 : decode b_Ne_deliver 85 = .ok (.aload_n 3, 1) := by decide +kernel
theorem d_Ne_deliver_86 : decode b_Ne_deliver 86 = .ok (.aload 4, 2) := by decide +kernel
theorem d_Ne_deliver_88 : decode b_Ne_deliver 88 = .ok (.getfield 147, 3) := by decide +kernel
theorem d_Ne_deliver_91 : decode b_Ne_deliver 91 = .ok (.invokevirtual 150, 3) := by decide +kernel
theorem d_Ne_deliver_94 : decode b_Ne_deliver 94 = .ok (.goto 17, 3) := by decide +kernel
theorem d_Ne_deliver_97 : decode b_Ne_deliver 97 = .ok (.aload_n 3, 1) := by decide +kernel
theorem d_Ne_deliver_98 : decode b_Ne_deliver 98 = .ok (.getfield 59, 3) := by decide +kernel
theorem d_Ne_deliver_101 : decode b_Ne_deliver 101 = .ok (.aload_n 3, 1) := by decide +kernel
theorem d_Ne_deliver_102 : decode b_Ne_deliver 102 = .ok (.aload 4, 2) := by decide +kernel
theorem d_Ne_deliver_104 : decode b_Ne_deliver 104 = .ok (.getfield 153, 3) := by decide +kernel
theorem d_Ne_deliver_107 : decode b_Ne_deliver 107 = .ok (.invokevirtual 122, 3) := by decide +kernel
theorem d_Ne_deliver_110 : decode b_Ne_deliver 110 = .ok (.pop, 1) := by decide +kernel
theorem d_Ne_deliver_111 : decode b_Ne_deliver 111 = .ok (.aload 4, 2) := by decide +kernel
theorem d_Ne_deliver_113 : decode b_Ne_deliver 113 = .ok (.getfield 138, 3) := by decide +kernel
theorem d_Ne_deliver_116 : decode b_Ne_deliver 116 = .ok (.ireturn, 1) := by decide +kernel
theorem d_Br_hearTell_0 : decode b_Br_hearTell 0 = .ok (.aload_n 2, 1) := by decide +kernel
theorem d_Br_hearTell_1 : decode b_Br_hearTell 1 = .ok (.getfield 136, 3) := by decide +kernel
theorem d_Br_hearTell_4 : decode b_Br_hearTell 4 = .ok (.bipush 6, 2) := by decide +kernel
theorem d_Br_hearTell_6 : decode b_Br_hearTell 6 = .ok (.if_icmp .lt 4, 3) := by decide +kernel
theorem d_Br_hearTell_9 : decode b_Br_hearTell 9 = .ok (.return_, 1) := by decide +kernel
theorem d_Br_hearTell_10 : decode b_Br_hearTell 10 = .ok (.aload_n 1, 1) := by decide +kernel
theorem d_Br_hearTell_11 : decode b_Br_hearTell 11 = .ok (.aload_n 2, 1) := by decide +kernel
theorem d_Br_hearTell_12 : decode b_Br_hearTell 12 = .ok (.getfield 139, 3) := by decide +kernel
theorem d_Br_hearTell_15 : decode b_Br_hearTell 15 = .ok (.aload_n 2, 1) := by decide +kernel
theorem d_Br_hearTell_16 : decode b_Br_hearTell 16 = .ok (.getfield 136, 3) := by decide +kernel
theorem d_Br_hearTell_19 : decode b_Br_hearTell 19 = .ok (.invokevirtual 142, 3) := by decide +kernel
theorem d_Br_hearTell_22 : decode b_Br_hearTell 22 = .ok (.aload_n 0, 1) := by decide +kernel
theorem d_Br_hearTell_23 : decode b_Br_hearTell 23 = .ok (.invokevirtual 146, 3) := by decide +kernel
theorem d_Br_hearTell_26 : decode b_Br_hearTell 26 = .ok (.aload_n 2, 1) := by decide +kernel
theorem d_Br_hearTell_27 : decode b_Br_hearTell 27 = .ok (.getfield 149, 3) := by decide +kernel
theorem d_Br_hearTell_30 : decode b_Br_hearTell 30 = .ok (.ifCond .eq 8, 3) := by decide +kernel
theorem d_Br_hearTell_33 : decode b_Br_hearTell 33 = .ok (.aload_n 0, 1) := by decide +kernel
theorem d_Br_hearTell_34 : decode b_Br_hearTell 34 = .ok (.aload_n 1, 1) := by decide +kernel
theorem d_Br_hearTell_35 : decode b_Br_hearTell 35 = .ok (.invokevirtual 150, 3) := by decide +kernel
theorem d_Br_hearTell_38 : decode b_Br_hearTell 38 = .ok (.return_, 1) := by decide +kernel
theorem d_Po_hold_0 : decode b_Po_hold 0 = .ok (.aload_n 0, 1) := by decide +kernel
theorem d_Po_hold_1 : decode b_Po_hold 1 = .ok (.iconst 1, 1) := by decide +kernel
theorem d_Po_hold_2 : decode b_Po_hold 2 = .ok (.putfield 33, 3) := by decide +kernel
theorem d_Po_hold_5 : decode b_Po_hold 5 = .ok (.aload_n 0, 1) := by decide +kernel
theorem d_Po_hold_6 : decode b_Po_hold 6 = .ok (.lload_n 1, 1) := by decide +kernel
theorem d_Po_hold_7 : decode b_Po_hold 7 = .ok (.putfield 37, 3) := by decide +kernel
theorem d_Po_hold_10 : decode b_Po_hold 10 = .ok (.aload_n 0, 1) := by decide +kernel
theorem d_Po_hold_11 : decode b_Po_hold 11 = .ok (.iload_n 3, 1) := by decide +kernel
theorem d_Po_hold_12 : decode b_Po_hold 12 = .ok (.putfield 41, 3) := by decide +kernel
theorem d_Po_hold_15 : decode b_Po_hold 15 = .ok (.aload_n 0, 1) := by decide +kernel
theorem d_Po_hold_16 : decode b_Po_hold 16 = .ok (.bipush 6, 2) := by decide +kernel
theorem d_Po_hold_18 : decode b_Po_hold 18 = .ok (.putfield 44, 3) := by decide +kernel
theorem d_Po_hold_21 : decode b_Po_hold 21 = .ok (.return_, 1) := by decide +kernel
theorem d_Br_answerProposal_0 : decode b_Br_answerProposal 0 = .ok (.aload_n 1, 1) := by decide +kernel
theorem d_Br_answerProposal_1 : decode b_Br_answerProposal 1 = .ok (.getfield 97, 3) := by decide +kernel
theorem d_Br_answerProposal_4 : decode b_Br_answerProposal 4 = .ok (.iconst 1, 1) := by decide +kernel
theorem d_Br_answerProposal_5 : decode b_Br_answerProposal 5 = .ok (.if_icmp .ne 8, 3) := by decide +kernel
theorem d_Br_answerProposal_8 : decode b_Br_answerProposal 8 = .ok (.aload_n 0, 1) := by decide +kernel
theorem d_Br_answerProposal_9 : decode b_Br_answerProposal 9 = .ok (.aload_n 1, 1) := by decide +kernel
theorem d_Br_answerProposal_10 : decode b_Br_answerProposal 10 = .ok (.invokevirtual 153, 3) := by decide +kernel
theorem d_Br_answerProposal_13 : decode b_Br_answerProposal 13 = .ok (.aload_n 1, 1) := by decide +kernel
theorem d_Br_answerProposal_14 : decode b_Br_answerProposal 14 = .ok (.getfield 120, 3) := by decide +kernel
theorem d_Br_answerProposal_17 : decode b_Br_answerProposal 17 = .ok (.ifnull 33, 3) := by decide +kernel
theorem d_Br_answerProposal_20 : decode b_Br_answerProposal 20 = .ok (.aload_n 1, 1) := by decide +kernel
theorem d_Br_answerProposal_21 : decode b_Br_answerProposal 21 = .ok (.getfield 97, 3) := by decide +kernel
theorem d_Br_answerProposal_24 : decode b_Br_answerProposal 24 = .ok (.iconst 1, 1) := by decide +kernel
theorem d_Br_answerProposal_25 : decode b_Br_answerProposal 25 = .ok (.if_icmp .eq 11, 3) := by decide +kernel
theorem d_Br_answerProposal_28 : decode b_Br_answerProposal 28 = .ok (.aload_n 1, 1) := by decide +kernel
theorem d_Br_answerProposal_29 : decode b_Br_answerProposal 29 = .ok (.getfield 97, 3) := by decide +kernel
theorem d_Br_answerProposal_32 : decode b_Br_answerProposal 32 = .ok (.iconst 3, 1) := by decide +kernel
theorem d_Br_answerProposal_33 : decode b_Br_answerProposal 33 = .ok (.if_icmp .ne 17, 3) := by decide +kernel
theorem d_Br_answerProposal_36 : decode b_Br_answerProposal 36 = .ok (.aload_n 1, 1) := by decide +kernel
theorem d_Br_answerProposal_37 : decode b_Br_answerProposal 37 = .ok (.getfield 120, 3) := by decide +kernel
theorem d_Br_answerProposal_40 : decode b_Br_answerProposal 40 = .ok (.getfield 123, 3) := by decide +kernel
theorem d_Br_answerProposal_43 : decode b_Br_answerProposal 43 = .ok (.aload_n 0, 1) := by decide +kernel
theorem d_Br_answerProposal_44 : decode b_Br_answerProposal 44 = .ok (.getfield 41, 3) := by decide +kernel
theorem d_Br_answerProposal_47 : decode b_Br_answerProposal 47 = .ok (.invokevirtual 156, 3) := by decide +kernel
theorem d_Br_answerProposal_50 : decode b_Br_answerProposal 50 = .ok (.return_, 1) := by decide +kernel
theorem d_Br_proposeOnOthers_0 : decode b_Br_proposeOnOthers 0 = .ok (.aload_n 0, 1) := by decide +kernel
theorem d_Br_proposeOnOthers_1 : decode b_Br_proposeOnOthers 1 = .ok (.getfield 11, 3) := by decide +kernel
theorem d_Br_proposeOnOthers_4 : decode b_Br_proposeOnOthers 4 = .ok (.astore_n 2, 1) := by decide +kernel
theorem d_Br_proposeOnOthers_5 : decode b_Br_proposeOnOthers 5 = .ok (.aload_n 2, 1) := by decide +kernel
theorem d_Br_proposeOnOthers_6 : decode b_Br_proposeOnOthers 6 = .ok (.arraylength, 1) := by decide +kernel
theorem d_Br_proposeOnOthers_7 : decode b_Br_proposeOnOthers 7 = .ok (.istore_n 3, 1) := by decide +kernel
theorem d_Br_proposeOnOthers_8 : decode b_Br_proposeOnOthers 8 = .ok (.iconst 0, 1) := by decide +kernel
theorem d_Br_proposeOnOthers_9 : decode b_Br_proposeOnOthers 9 = .ok (.istore 4, 2) := by decide +kernel
theorem d_Br_proposeOnOthers_11 : decode b_Br_proposeOnOthers 11 = .ok (.iload 4, 2) := by decide +kernel
theorem d_Br_proposeOnOthers_13 : decode b_Br_proposeOnOthers 13 = .ok (.iload_n 3, 1) := by decide +kernel
theorem d_Br_proposeOnOthers_14 : decode b_Br_proposeOnOthers 14 = .ok (.if_icmp .ge 43, 3) := by decide +kernel
theorem d_Br_proposeOnOthers_17 : decode b_Br_proposeOnOthers 17 = .ok (.aload_n 2, 1) := by decide +kernel
theorem d_Br_proposeOnOthers_18 : decode b_Br_proposeOnOthers 18 = .ok (.iload 4, 2) := by decide +kernel
theorem d_Br_proposeOnOthers_20 : decode b_Br_proposeOnOthers 20 = .ok (.aaload, 1) := by decide +kernel
theorem d_Br_proposeOnOthers_21 : decode b_Br_proposeOnOthers 21 = .ok (.astore 5, 2) := by decide +kernel
theorem d_Br_proposeOnOthers_23 : decode b_Br_proposeOnOthers 23 = .ok (.aload 5, 2) := by decide +kernel
theorem d_Br_proposeOnOthers_25 : decode b_Br_proposeOnOthers 25 = .ok (.aload_n 1, 1) := by decide +kernel
theorem d_Br_proposeOnOthers_26 : decode b_Br_proposeOnOthers 26 = .ok (.if_acmp .eq 25, 3) := by decide +kernel
theorem d_Br_proposeOnOthers_29 : decode b_Br_proposeOnOthers 29 = .ok (.aload 5, 2) := by decide +kernel
theorem d_Br_proposeOnOthers_31 : decode b_Br_proposeOnOthers 31 = .ok (.invokevirtual 113, 3) := by decide +kernel
theorem d_Br_proposeOnOthers_34 : decode b_Br_proposeOnOthers 34 = .ok (.ifCond .eq 17, 3) := by decide +kernel
theorem d_Br_proposeOnOthers_37 : decode b_Br_proposeOnOthers 37 = .ok (.aload 5, 2) := by decide +kernel
theorem d_Br_proposeOnOthers_39 : decode b_Br_proposeOnOthers 39 = .ok (.invokevirtual 159, 3) := by decide +kernel
theorem d_Br_proposeOnOthers_42 : decode b_Br_proposeOnOthers 42 = .ok (.ifCond .eq 9, 3) := by decide +kernel
theorem d_Br_proposeOnOthers_45 : decode b_Br_proposeOnOthers 45 = .ok (.aload_n 0, 1) := by decide +kernel
theorem d_Br_proposeOnOthers_46 : decode b_Br_proposeOnOthers 46 = .ok (.aload 5, 2) := by decide +kernel
theorem d_Br_proposeOnOthers_48 : decode b_Br_proposeOnOthers 48 = .ok (.invokevirtual 116, 3) := by decide +kernel
theorem d_Br_proposeOnOthers_51 : decode b_Br_proposeOnOthers 51 = .ok (.iinc 4 1, 3) := by decide +kernel
theorem d_Br_proposeOnOthers_54 : decode b_Br_proposeOnOthers 54 = .ok (.goto (-43), 3) := by decide +kernel
theorem d_Br_proposeOnOthers_57 : decode b_Br_proposeOnOthers 57 = .ok (.return_, 1) := by decide +kernel
theorem d_Po_proposeUnlessAgreed_0 : decode b_Po_proposeUnlessAgreed 0 = .ok (.aload_n 0, 1) := by decide +kernel
theorem d_Po_proposeUnlessAgreed_1 : decode b_Po_proposeUnlessAgreed 1 = .ok (.getfield 56, 3) := by decide +kernel
theorem d_Po_proposeUnlessAgreed_4 : decode b_Po_proposeUnlessAgreed 4 = .ok (.ifCond .eq 5, 3) := by decide +kernel
theorem d_Po_proposeUnlessAgreed_7 : decode b_Po_proposeUnlessAgreed 7 = .ok (.iconst 0, 1) := by decide +kernel
theorem d_Po_proposeUnlessAgreed_8 : decode b_Po_proposeUnlessAgreed 8 = .ok (.ireturn, 1) := by decide +kernel
theorem d_Po_proposeUnlessAgreed_9 : decode b_Po_proposeUnlessAgreed 9 = .ok (.aload_n 0, 1) := by decide +kernel
theorem d_Po_proposeUnlessAgreed_10 : decode b_Po_proposeUnlessAgreed 10 = .ok (.invokevirtual 81, 3) := by decide +kernel
theorem d_Po_proposeUnlessAgreed_13 : decode b_Po_proposeUnlessAgreed 13 = .ok (.iconst 1, 1) := by decide +kernel
theorem d_Po_proposeUnlessAgreed_14 : decode b_Po_proposeUnlessAgreed 14 = .ok (.ireturn, 1) := by decide +kernel
theorem d_Li_putAgree_0 : decode b_Li_putAgree 0 = .ok (.aload_n 0, 1) := by decide +kernel
theorem d_Li_putAgree_1 : decode b_Li_putAgree 1 = .ok (.iconst 2, 1) := by decide +kernel
theorem d_Li_putAgree_2 : decode b_Li_putAgree 2 = .ok (.iload_n 1, 1) := by decide +kernel
theorem d_Li_putAgree_3 : decode b_Li_putAgree 3 = .ok (.aconst_null, 1) := by decide +kernel
theorem d_Li_putAgree_4 : decode b_Li_putAgree 4 = .ok (.invokevirtual 31, 3) := by decide +kernel
theorem d_Li_putAgree_7 : decode b_Li_putAgree 7 = .ok (.pop, 1) := by decide +kernel
theorem d_Li_putAgree_8 : decode b_Li_putAgree 8 = .ok (.return_, 1) := by decide +kernel
theorem d_Br_hearAgree_0 : decode b_Br_hearAgree 0 = .ok (.aload_n 1, 1) := by decide +kernel
theorem d_Br_hearAgree_1 : decode b_Br_hearAgree 1 = .ok (.getfield 97, 3) := by decide +kernel
theorem d_Br_hearAgree_4 : decode b_Br_hearAgree 4 = .ok (.iconst 2, 1) := by decide +kernel
theorem d_Br_hearAgree_5 : decode b_Br_hearAgree 5 = .ok (.if_icmp .ne 22, 3) := by decide +kernel
theorem d_Br_hearAgree_8 : decode b_Br_hearAgree 8 = .ok (.aload_n 1, 1) := by decide +kernel
theorem d_Br_hearAgree_9 : decode b_Br_hearAgree 9 = .ok (.getfield 127, 3) := by decide +kernel
theorem d_Br_hearAgree_12 : decode b_Br_hearAgree 12 = .ok (.ifCond .eq 15, 3) := by decide +kernel
theorem d_Br_hearAgree_15 : decode b_Br_hearAgree 15 = .ok (.iload_n 2, 1) := by decide +kernel
theorem d_Br_hearAgree_16 : decode b_Br_hearAgree 16 = .ok (.aload_n 0, 1) := by decide +kernel
theorem d_Br_hearAgree_17 : decode b_Br_hearAgree 17 = .ok (.getfield 41, 3) := by decide +kernel
theorem d_Br_hearAgree_20 : decode b_Br_hearAgree 20 = .ok (.if_icmp .ne 7, 3) := by decide +kernel
theorem d_Br_hearAgree_23 : decode b_Br_hearAgree 23 = .ok (.aload_n 1, 1) := by decide +kernel
theorem d_Br_hearAgree_24 : decode b_Br_hearAgree 24 = .ok (.invokevirtual 162, 3) := by decide +kernel
theorem d_Br_hearAgree_27 : decode b_Br_hearAgree 27 = .ok (.return_, 1) := by decide +kernel
theorem d_Po_takeAgreement_0 : decode b_Po_takeAgreement 0 = .ok (.aload_n 0, 1) := by decide +kernel
theorem d_Po_takeAgreement_1 : decode b_Po_takeAgreement 1 = .ok (.invokevirtual 84, 3) := by decide +kernel
theorem d_Po_takeAgreement_4 : decode b_Po_takeAgreement 4 = .ok (.aload_n 0, 1) := by decide +kernel
theorem d_Po_takeAgreement_5 : decode b_Po_takeAgreement 5 = .ok (.iconst 1, 1) := by decide +kernel
theorem d_Po_takeAgreement_6 : decode b_Po_takeAgreement 6 = .ok (.putfield 56, 3) := by decide +kernel
theorem d_Po_takeAgreement_9 : decode b_Po_takeAgreement 9 = .ok (.return_, 1) := by decide +kernel
end
section
/-! A world by index: a list of (kind, number); where each cell lies (ad), what each cell holds (ce). A state of a system is four tables of numbers. -/
abbrev bn_S : Type := (Nat → Nat → Int32) × (Nat → Nat → Nat) × (Nat → Nat → Int64) × (Nat → Nat → Option Nat)
def bn_up {α : Type} (f : Nat → Nat → α) (c x : Nat) (v : α) : Nat → Nat → α := fun c' x' => if c' = c ∧ x' = x then v else f c' x'
theorem bn_up_s {α : Type} (f : Nat → Nat → α) (c x : Nat) (v : α) : bn_up f c x v c x = v := by simp [bn_up]
theorem bn_up_c {α : Type} (f : Nat → Nat → α) {c c' x x' : Nat} (v : α) (h : ¬ c' = c) : bn_up f c x v c' x' = f c' x' := by simp [bn_up, h]
theorem bn_up_x {α : Type} (f : Nat → Nat → α) {c c' x x' : Nat} (v : α) (h : ¬ x' = x) : bn_up f c x v c' x' = f c' x' := by simp [bn_up, h]
theorem bn_up_cf {α : Type} (f : Nat → Nat → α) {c c' x : Nat} (v : α) (h : ¬ c' = c) : bn_up f c x v c' = f c' := by
  funext x'
  exact bn_up_c f v h
def sI (N : bn_S) (c x : Nat) (v : Int32) : bn_S := (bn_up N.1 c x v, N.2)
def sU (N : bn_S) (c x : Nat) (v : Nat) : bn_S := (N.1, bn_up N.2.1 c x v, N.2.2)
def sJ (N : bn_S) (c x : Nat) (v : Int64) : bn_S := (N.1, N.2.1, bn_up N.2.2.1 c x v, N.2.2.2)
def sO (N : bn_S) (c x : Nat) (v : Option Nat) : bn_S := (N.1, N.2.1, N.2.2.1, bn_up N.2.2.2 c x v)
def bn_wl (ix : List (Nat × Nat)) (ad : Nat → Nat → Nat) (ce : Nat → Nat → va_E) : va_W := ix.map (fun i => (ad i.1 i.2, ce i.1 i.2))
theorem bn_wl_get {ix : List (Nat × Nat)} {ad : Nat → Nat → Nat} {ce : Nat → Nat → va_E} {k x : Nat} (h : (k, x) ∈ ix) : ∃ q : Nat, (bn_wl ix ad ce)[q]? = some (ad k x, ce k x) := by
  obtain ⟨q, hq⟩ := List.getElem?_of_mem h
  exact ⟨q, by simp [bn_wl, hq]⟩
theorem bn_wl_of {ix : List (Nat × Nat)} {ad : Nat → Nat → Nat} {ce : Nat → Nat → va_E} {q : Nat} {e : Nat × va_E} (h : (bn_wl ix ad ce)[q]? = some e) : ∃ k x : Nat, ix[q]? = some (k, x) ∧ e = (ad k x, ce k x) := by
  unfold bn_wl at h
  rw [List.getElem?_map] at h
  cases hi : ix[q]? with
  | none => rw [hi] at h; cases h
  | some i => rw [hi] at h; exact ⟨i.1, i.2, rfl, (Option.some.inj h).symm⟩
theorem bn_wl_set {A : Nat → Prop} {ix : List (Nat × Nat)} {ad : Nat → Nat → Nat} {ce ce' : Nat → Nat → va_E} {k x q : Nat} {e0 e : va_E} (hD : va_D A (bn_wl ix ad ce)) (hm : (k, x) ∈ ix) (hq : (bn_wl ix ad ce)[q]? = some (ad k x, e0)) (h1 : ce' k x = e)
    (h2 : ∀ k' x' : Nat, ¬ (k' = k ∧ x' = x) → ce' k' x' = ce k' x') : (bn_wl ix ad ce).set q (ad k x, e) = bn_wl ix ad ce' := by
  have hl := (List.getElem?_eq_some_iff.mp hq).1
  obtain ⟨p, hp⟩ := List.getElem?_of_mem hm
  have hp2 : (bn_wl ix ad ce)[p]? = some (ad k x, ce k x) := by simp [bn_wl, hp]
  have hpq : p = q := hD.1 p q _ _ hp2 hq rfl
  subst hpq
  apply List.ext_getElem?
  intro j
  by_cases hj : p = j
  · subst hj
    rw [List.getElem?_set_self hl]
    simp [bn_wl, hp, h1]
  · rw [List.getElem?_set_ne hj]
    unfold bn_wl
    rw [List.getElem?_map, List.getElem?_map]
    cases hi : ix[j]? with
    | none => rfl
    | some i =>
      obtain ⟨k', x'⟩ := i
      have hne : ¬ (k' = k ∧ x' = x) := by
        rintro ⟨rfl, rfl⟩
        have hj2 : (bn_wl ix ad ce)[j]? = some (ad k' x', ce k' x') := by simp [bn_wl, hi]
        exact hj (hD.1 p j _ _ hp2 hj2 rfl)
      simp [h2 k' x' hne]
/-- which cells a method of the world may change -/
def bn_A (ix : List (Nat × Nat)) (ad : Nat → Nat → Nat) (sz : Nat) : Nat → Prop := fun q => (∃ k x : Nat, (k, x) ∈ ix ∧ ad k x = q) ∨ sz ≤ q
theorem bn_A.mono {ix : List (Nat × Nat)} {ad : Nat → Nat → Nat} {sz sz' q : Nat} (h : sz ≤ sz') (hq : bn_A ix ad sz' q) : bn_A ix ad sz q := by
  rcases hq with h1 | h1
  · exact Or.inl h1
  · exact Or.inr (Nat.le_trans h h1)
theorem bn_D_self {A : Nat → Prop} {ix : List (Nat × Nat)} {ad : Nat → Nat → Nat} {ce : Nat → Nat → va_E} {sz : Nat} (h : va_D A (bn_wl ix ad ce)) : va_D (bn_A ix ad sz) (bn_wl ix ad ce) := by
  refine ⟨h.1, fun q e hq => ?_⟩
  obtain ⟨k, x, h1, rfl⟩ := bn_wl_of hq
  exact Or.inl ⟨k, x, List.mem_of_getElem? h1, rfl⟩
theorem bn_ne {A : Nat → Prop} {ix : List (Nat × Nat)} {ad : Nat → Nat → Nat} {ce : Nat → Nat → va_E} (h : va_D A (bn_wl ix ad ce)) {k x k' x' : Nat} (h1 : (k, x) ∈ ix) (h2 : (k', x') ∈ ix) (hn : ¬ (k = k' ∧ x = x')) : ¬ ad k x = ad k' x' := by
  intro he
  obtain ⟨p, hp⟩ := List.getElem?_of_mem h1
  obtain ⟨q, hq⟩ := List.getElem?_of_mem h2
  have hp2 : (bn_wl ix ad ce)[p]? = some (ad k x, ce k x) := by simp [bn_wl, hp]
  have hq2 : (bn_wl ix ad ce)[q]? = some (ad k' x', ce k' x') := by simp [bn_wl, hq]
  have hpq := h.1 p q _ _ hp2 hq2 he
  subst hpq
  rw [hp] at hq
  cases hq
  exact hn ⟨rfl, rfl⟩
/-- a system: the classes' numbers, the array classes, which cells there are, where they lie, what they hold in a state, which states are sound -/
abbrev bn_Y : Type := va_G × List (ClassId × FieldType) × List (Nat × Nat) × (Nat → Nat → Nat) × (bn_S → Nat → Nat → va_E) × (bn_S → Prop)
abbrev bn_ws (Y : bn_Y) (N : bn_S) : va_W := bn_wl Y.2.2.1 Y.2.2.2.1 (Y.2.2.2.2.1 N)
abbrev bn_AY (Y : bn_Y) (sz : Nat) : Nat → Prop := bn_A Y.2.2.1 Y.2.2.2.1 sz
def bn_Pre (Y : bn_Y) (N : bn_S) (sz : Nat) (U : State) : Prop := U.heap.size = sz ∧ va_P Y.1 bn_cl (bn_ws Y N) U.heap ∧ va_K Y.1 bn_cl Y.2.1 U ∧ va_D (fun _ => True) (bn_ws Y N) ∧ Y.2.2.2.2.2 N
def bn_Post (Y : bn_Y) (A : Nat → Prop) (u : bn_S) (t : State) : Prop := va_P Y.1 bn_cl (bn_ws Y u) t.heap ∧ va_K Y.1 bn_cl Y.2.1 t ∧ va_D A (bn_ws Y u) ∧ Y.2.2.2.2.2 u
/-- contracts: from the state N, with these arguments, to the state N' (and the answer r) -/
def bn_V (l : Launch) (y : MethodName) (ws : List Cond) (rm : Room) (Y : bn_Y) (N : bn_S) (av : List Value) (N' : bn_S) : Prop := ∀ sz : Nat, Met l y ws rm (va_Pc av (bn_Pre Y N sz)) (va_Qv (fun u : bn_S => u = N') (bn_Post Y (bn_AY Y sz)) (bn_AY Y sz)) 0 0 (bn_AY Y sz)
def bn_I (l : Launch) (y : MethodName) (ws : List Cond) (rm : Room) (Y : bn_Y) (N : bn_S) (av : List Value) (r : Int32) (N' : bn_S) : Prop := ∀ sz : Nat, Met l y ws rm (va_Pc av (bn_Pre Y N sz)) (va_Qi (fun (v : Int32) (u : bn_S) => v = r ∧ u = N') (bn_Post Y (bn_AY Y sz)) (bn_AY Y sz)) 0 0 (bn_AY Y sz)
def bn_L (l : Launch) (y : MethodName) (ws : List Cond) (rm : Room) (Y : bn_Y) (N : bn_S) (av : List Value) (r : Int64) (N' : bn_S) : Prop := ∀ sz : Nat, Met l y ws rm (va_Pc av (bn_Pre Y N sz)) (va_Ql (fun (v : Int64) (u : bn_S) => v = r ∧ u = N') (bn_Post Y (bn_AY Y sz)) (bn_AY Y sz)) 0 0 (bn_AY Y sz)
def bn_R (l : Launch) (y : MethodName) (ws : List Cond) (rm : Room) (Y : bn_Y) (N : bn_S) (av : List Value) (r : Option Nat) (N' : bn_S) : Prop := ∀ sz : Nat, Met l y ws rm (va_Pc av (bn_Pre Y N sz)) (va_Qq (fun (v : Option Nat) (u : bn_S) => v = r ∧ u = N') (bn_Post Y (bn_AY Y sz)) (bn_AY Y sz)) 0 0 (bn_AY Y sz)
theorem bn_blind (Y : bn_Y) (N : bn_S) (av : List Value) (sz : Nat) : FrameBlind (va_Pc av (bn_Pre Y N sz)) := fun a U g mk q => by
  obtain ⟨q0, q1, qP, qK, qD, qN⟩ := q
  exact ⟨q0, q1, qP, va_K.moved (u := U) (U := U.calling g mk a) (Vm.Alike.refl U.vm) qK, qD, qN⟩
/-- what a walk of a method knows of the machine -/
def bn_F (p : Program) (s : State) (m : MethodId) (args : Array Value) (c : Code) (cc : ByteArray) (own : String) (Y : bn_Y) : Prop := p.tables.exec = Jvm.exec ∧ c.code = cc ∧ s.vm.findClass own = some m.cls ∧ (∀ w ∈ bn_all, w.before args s = true) ∧ va_K Y.1 bn_cl Y.2.1 s
/-- the heap, now, holds the system in the state N; nothing outside A has changed since H0 -/
def bn_H (Y : bn_Y) (H0 H : Heap) (locs : List Loc) (N : bn_S) : Prop := va_P Y.1 bn_cl (bn_ws Y N) H ∧ va_D (bn_AY Y H0.size) (bn_ws Y N) ∧ va_S (bn_AY Y H0.size) H0 H locs ∧ Y.2.2.2.2.2 N
section BNS
variable {l : Launch} {y : MethodName} {rm : Room} {Y : bn_Y} {N : bn_S} {av : List Value} {cc : ByteArray} {maxL : Nat} {ret : Option FieldType} {ws : List Cond} {sz : Nat}
theorem bn_start {Qc : Array Value → State → Outcome → State → Prop} {free : Addr → Prop} (hy : plainName y.cls = true) (hw : ws = Cond.code y cc maxL ret :: bn_all) (hlen : (lg_sl av).length ≤ maxL)
    (body : ∀ (p : Program) (e : Env) (s : State) (m : MethodId) (args : Array Value) (below : List Frame) (meth : Method) (c : Code) (ls : Array Slot), s.heap.size = sz → bn_F p s m args c cc y.cls Y → c.maxLocals = maxL → meth.sig.returnType = ret → meth.locks = false → lv_has ls maxL (lv_args 0 av) → bn_H Y s.heap s.heap [] N →
      W p l e rm s m args below meth c s.heap [] 0 0 (MQ below Qc args s 0 0 free) (F0 m 0 ls [])) : Met l y ws rm (va_Pc av (bn_Pre Y N sz)) Qc 0 0 free := by
  refine Met.ofW (cc := cc) (maxL := maxL) (ret := ret) hy hw ?_
  intro p e s m args below meth c s₁ B hml hv
  obtain ⟨rfl, hsz, hP, hK, hD0, hN⟩ := hv
  have hts := atoms_spec (ws := ws) B.pre
  have hl := lv_entry av (n := maxL) hlen
  rw [lg_entry_eq]
  refine body p e s m _ below meth c _ hsz ⟨B.exec, B.bytes, findClass_of_methodNamed B.named, fun w h => hts w (by rw [hw]; exact List.mem_cons_of_mem _ h), hK⟩ hml B.returns B.notSynchronized hl ⟨hP, bn_D_self hD0, va_S.rf, hN⟩
end BNS
section BNE
variable {p : Program} {l : Launch} {e : Env} {R : Room} {s : State} {m : MethodId} {args : Array Value} {below : List Frame} {meth : Method} {c : Code} {H : Heap} {locs : List Loc} {cells slots : Nat} {Q : State → Prop}
variable {cc : ByteArray} {pc : Nat} {ls : Array Slot} {rest st0 : List Value} {Y : bn_Y} {N N' : bn_S} {own : String}
theorem bn_retv (F : bn_F p s m args c cc own Y) (hr : meth.sig.returnType = none) (hk : meth.locks = false) (h : bn_H Y s.heap H locs N) (he : N = N') (hdg : decode cc pc = .ok (.return_, 1)) : W p l e R s m args below meth c H locs 0 0 (MQ below (va_Qv (fun u : bn_S => u = N') (bn_Post Y (bn_AY Y s.heap.size)) (bn_AY Y s.heap.size)) args s 0 0 (bn_AY Y s.heap.size)) (F0 m pc ls []) := by
  obtain ⟨hP, hD, hS, hN⟩ := h
  exact W.vret F.1 F.2.1 hr (fun t ht hW => ⟨⟨N, rfl, he, by rw [ht]; exact hP, va_K.moved hW.alike F.2.2.2.2, hD, hN⟩, hS.F ht⟩) hS.2.2 hdg hk
theorem bn_reti (F : bn_F p s m args c cc own Y) {v r : Int32} (hr : meth.sig.returnType = some .int) (hk : meth.locks = false) (h : bn_H Y s.heap H locs N) (hv : v = r) (he : N = N') (hdg : decode cc pc = .ok (.ireturn, 1)) : W p l e R s m args below meth c H locs 0 0 (MQ below (va_Qi (fun (v : Int32) (u : bn_S) => v = r ∧ u = N') (bn_Post Y (bn_AY Y s.heap.size)) (bn_AY Y s.heap.size)) args s 0 0 (bn_AY Y s.heap.size)) (F0 m pc ls [.int v]) := by
  obtain ⟨hP, hD, hS, hN⟩ := h
  exact W.iret F.1 F.2.1 hr (fun t ht hW => ⟨⟨v, N, rfl, ⟨hv, he⟩, by rw [ht]; exact hP, va_K.moved hW.alike F.2.2.2.2, hD, hN⟩, hS.F ht⟩) hS.2.2 hdg hk
theorem bn_retz (F : bn_F p s m args c cc own Y) {v r : Int32} (hr : meth.sig.returnType = some .boolean) (hn : narrow .boolean (.int v) = .int v) (hk : meth.locks = false) (h : bn_H Y s.heap H locs N) (hv : v = r) (he : N = N') (hdg : decode cc pc = .ok (.ireturn, 1)) : W p l e R s m args below meth c H locs 0 0 (MQ below (va_Qi (fun (v : Int32) (u : bn_S) => v = r ∧ u = N') (bn_Post Y (bn_AY Y s.heap.size)) (bn_AY Y s.heap.size)) args s 0 0 (bn_AY Y s.heap.size)) (F0 m pc ls [.int v]) := by
  obtain ⟨hP, hD, hS, hN⟩ := h
  exact W.zret F.1 F.2.1 hr hn (fun t ht hW => ⟨⟨v, N, rfl, ⟨hv, he⟩, by rw [ht]; exact hP, va_K.moved hW.alike F.2.2.2.2, hD, hN⟩, hS.F ht⟩) hS.2.2 hdg hk
theorem bn_retl (F : bn_F p s m args c cc own Y) {v r : Int64} (hr : meth.sig.returnType = some .long) (hk : meth.locks = false) (h : bn_H Y s.heap H locs N) (hv : v = r) (he : N = N') (hdg : decode cc pc = .ok (.lreturn, 1)) : W p l e R s m args below meth c H locs 0 0 (MQ below (va_Ql (fun (v : Int64) (u : bn_S) => v = r ∧ u = N') (bn_Post Y (bn_AY Y s.heap.size)) (bn_AY Y s.heap.size)) args s 0 0 (bn_AY Y s.heap.size)) (F0 m pc ls [.long v]) := by
  obtain ⟨hP, hD, hS, hN⟩ := h
  exact W.lret F.1 F.2.1 hr (fun t ht hW => ⟨⟨v, N, rfl, ⟨hv, he⟩, by rw [ht]; exact hP, va_K.moved hW.alike F.2.2.2.2, hD, hN⟩, hS.F ht⟩) hS.2.2 hdg hk
theorem bn_retq (F : bn_F p s m args c cc own Y) {v r : Option Nat} {C : String} (hr : meth.sig.returnType = some (.object C)) (hk : meth.locks = false) (h : bn_H Y s.heap H locs N) (hv : v = r) (he : N = N') (hdg : decode cc pc = .ok (.areturn, 1)) : W p l e R s m args below meth c H locs 0 0 (MQ below (va_Qq (fun (v : Option Nat) (u : bn_S) => v = r ∧ u = N') (bn_Post Y (bn_AY Y s.heap.size)) (bn_AY Y s.heap.size)) args s 0 0 (bn_AY Y s.heap.size)) (F0 m pc ls [va_rf v]) := by
  obtain ⟨hP, hD, hS, hN⟩ := h
  exact W.aret F.1 F.2.1 hr (Or.inl ⟨C, rfl⟩) (va_rf_or v) (fun t ht hW => ⟨⟨v, N, rfl, ⟨hv, he⟩, by rw [ht]; exact hP, va_K.moved hW.alike F.2.2.2.2, hD, hN⟩, hS.F ht⟩) hS.2.2 hdg hk
/-- a call's start: what the callee asks of the heap -/
theorem bn_preS (F : bn_F p s m args c cc own Y) (h : bn_H Y s.heap H locs N) {As : List Value} : PreS s H (va_Pc As (bn_Pre Y N H.size)) As := by
  obtain ⟨hP, hD, hS, hN⟩ := h
  exact ⟨bn_blind Y N As H.size, fun U hU hW => ⟨rfl, by rw [hU], by rw [hU]; exact hP, va_K.moved hW.alike F.2.2.2.2, hD.weaken (fun _ _ _ _ => trivial), hN⟩⟩
theorem bn_preV (F : bn_F p s m args c cc own Y) (h : bn_H Y s.heap H locs N) {k x ci : Nat} {fs : List Value} {q : vw_C} (hm : (k, x) ∈ Y.2.2.1) (he : Y.2.2.2.2.1 N k x = .inr (ci, fs)) (hc : bn_cl[ci]? = some q) {As : List Value} : PreV s H q.1 (Y.2.2.2.1 k x) (va_Pc (.ref (Y.2.2.2.1 k x) :: As) (bn_Pre Y N H.size)) As := by
  obtain ⟨hP, hD, hS, hN⟩ := h
  obtain ⟨q0, h0⟩ := bn_wl_get (ad := Y.2.2.2.1) (ce := Y.2.2.2.2.1 N) hm
  rw [he] at h0
  exact ⟨bn_blind Y N _ H.size, va_recv F.2.2.2.2 hP hc h0, fun U hU hW => ⟨rfl, by rw [hU], by rw [hU]; exact hP, va_K.moved hW.alike F.2.2.2.2, hD.weaken (fun _ _ _ _ => trivial), hN⟩⟩
/-- behind a call -/
theorem bn_back {H1 : Heap} {locs1 : List Loc} {t : State} (F : bn_F p s m args c cc own Y) (ht : t.heap = H1) (hvm : s.vm.Alike t.vm) (hB : bn_Post Y (bn_AY Y H.size) N' t) (h : bn_H Y s.heap H locs N) (hS1 : va_S (bn_AY Y s.heap.size) s.heap H1 locs1) : bn_H Y s.heap H1 locs1 N' := by
  obtain ⟨hP1, -, hD1, hN1⟩ := hB
  rw [ht] at hP1
  exact ⟨hP1, hD1.weaken (fun _ _ _ hq => bn_A.mono h.2.2.1.1 hq), hS1, hN1⟩
theorem bn_callv {a : Array Value} (F : bn_F p s m args c cc own Y) (h : bn_H Y s.heap H locs N) (hr : va_Run p l e R s m args below meth c H locs cells slots 0 0 (F0 m pc ls st0) rest (va_Qv (fun u : bn_S => u = N') (bn_Post Y (bn_AY Y H.size)) (bn_AY Y H.size) a) (bn_AY Y H.size))
    (kk : ∀ (H1 : Heap) (locs1 : List Loc), bn_H Y s.heap H1 locs1 N' → W p l e R s m args below meth c H1 locs1 cells slots Q (F0 m (pc + 3) ls rest)) : W p l e R s m args below meth c H locs cells slots Q (F0 m pc ls st0) := by
  refine va_callv hr h.2.2.1 (fun q _ hq => bn_A.mono h.2.2.1.1 hq) (fun q hq => bn_A.mono h.2.2.1.1 hq) (fun u t H1 locs1 ht hvm hu hB _ _ hS1 => ?_)
  subst hu
  exact kk H1 locs1 (bn_back F ht hvm hB h hS1)
theorem bn_calli {a : Array Value} {r : Int32} (F : bn_F p s m args c cc own Y) (h : bn_H Y s.heap H locs N) (hr : va_Run p l e R s m args below meth c H locs cells slots 0 0 (F0 m pc ls st0) rest (va_Qi (fun (v : Int32) (u : bn_S) => v = r ∧ u = N') (bn_Post Y (bn_AY Y H.size)) (bn_AY Y H.size) a) (bn_AY Y H.size))
    (kk : ∀ (H1 : Heap) (locs1 : List Loc), bn_H Y s.heap H1 locs1 N' → W p l e R s m args below meth c H1 locs1 cells slots Q (F0 m (pc + 3) ls (.int r :: rest))) : W p l e R s m args below meth c H locs cells slots Q (F0 m pc ls st0) := by
  refine va_calli hr h.2.2.1 (fun q _ hq => bn_A.mono h.2.2.1.1 hq) (fun q hq => bn_A.mono h.2.2.1.1 hq) (fun v u t H1 locs1 ht hvm hu hB _ _ hS1 => ?_)
  obtain ⟨rfl, rfl⟩ := hu
  exact kk H1 locs1 (bn_back F ht hvm hB h hS1)
theorem bn_calll {a : Array Value} {r : Int64} (F : bn_F p s m args c cc own Y) (h : bn_H Y s.heap H locs N) (hr : va_Run p l e R s m args below meth c H locs cells slots 0 0 (F0 m pc ls st0) rest (va_Ql (fun (v : Int64) (u : bn_S) => v = r ∧ u = N') (bn_Post Y (bn_AY Y H.size)) (bn_AY Y H.size) a) (bn_AY Y H.size))
    (kk : ∀ (H1 : Heap) (locs1 : List Loc), bn_H Y s.heap H1 locs1 N' → W p l e R s m args below meth c H1 locs1 cells slots Q (F0 m (pc + 3) ls (.long r :: rest))) : W p l e R s m args below meth c H locs cells slots Q (F0 m pc ls st0) := by
  refine va_calll hr h.2.2.1 (fun q _ hq => bn_A.mono h.2.2.1.1 hq) (fun q hq => bn_A.mono h.2.2.1.1 hq) (fun v u t H1 locs1 ht hvm hu hB _ _ hS1 => ?_)
  obtain ⟨rfl, rfl⟩ := hu
  exact kk H1 locs1 (bn_back F ht hvm hB h hS1)
theorem bn_callq {a : Array Value} {r : Option Nat} (F : bn_F p s m args c cc own Y) (h : bn_H Y s.heap H locs N) (hr : va_Run p l e R s m args below meth c H locs cells slots 0 0 (F0 m pc ls st0) rest (va_Qq (fun (v : Option Nat) (u : bn_S) => v = r ∧ u = N') (bn_Post Y (bn_AY Y H.size)) (bn_AY Y H.size) a) (bn_AY Y H.size))
    (kk : ∀ (H1 : Heap) (locs1 : List Loc), bn_H Y s.heap H1 locs1 N' → W p l e R s m args below meth c H1 locs1 cells slots Q (F0 m (pc + 3) ls (va_rf r :: rest))) : W p l e R s m args below meth c H locs cells slots Q (F0 m pc ls st0) := by
  refine va_callq hr h.2.2.1 (fun q _ hq => bn_A.mono h.2.2.1.1 hq) (fun q hq => bn_A.mono h.2.2.1.1 hq) (fun v u t H1 locs1 ht hvm hu hB _ _ hS1 => ?_)
  obtain ⟨rfl, rfl⟩ := hu
  exact kk H1 locs1 (bn_back F ht hvm hB h hS1)
end BNE
section BNG
variable {p : Program} {l : Launch} {e : Env} {R : Room} {s : State} {m : MethodId} {args : Array Value} {below : List Frame} {meth : Method} {c : Code} {H : Heap} {locs : List Loc} {cells slots : Nat} {Q : State → Prop}
variable {cc : ByteArray} {pc : Nat} {ls : Array Slot} {rest st0 : List Value} {Y : bn_Y} {N N' : bn_S} {own : String} {k x : Nat}
theorem bn_ti {x y : Int32} (h : x = y) (kk : W p l e R s m args below meth c H locs cells slots Q (F0 m pc ls (.int y :: rest))) : W p l e R s m args below meth c H locs cells slots Q (F0 m pc ls (.int x :: rest)) := h ▸ kk
theorem bn_tl {x y : Int64} (h : x = y) (kk : W p l e R s m args below meth c H locs cells slots Q (F0 m pc ls (.long y :: rest))) : W p l e R s m args below meth c H locs cells slots Q (F0 m pc ls (.long x :: rest)) := h ▸ kk
theorem bn_st {st st' : List Value} (h : st = st') (kk : W p l e R s m args below meth c H locs cells slots Q (F0 m pc ls st')) : W p l e R s m args below meth c H locs cells slots Q (F0 m pc ls st) := h ▸ kk
theorem bn_get (F : bn_F p s m args c cc own Y) (h : bn_H Y s.heap H locs N) (hm : (k, x) ∈ Y.2.2.1) {C : String} {T : u_T} {n ci index : Nat} {fs : List Value} (he : Y.2.2.2.2.1 N k x = .inr (ci, fs)) (hc : bn_cl[ci]? = some (C, T, n)) (hin : ∀ w ∈ u_ws C T n, w ∈ bn_all) (j : Nat) (hj : j < n) (hT : (T j).1 = C)
    (hlink : Cond.fieldLink own index C (T j).2.1 (T j).2.2.1 ∈ bn_all) {v : Value} (hv : fs[j]? = some v) (hdg : decode cc pc = .ok (.getfield index, 3)) (kk : W p l e R s m args below meth c H locs cells slots Q (F0 m (pc + 3) ls (v :: rest))) : W p l e R s m args below meth c H locs cells slots Q (F0 m pc ls (.ref (Y.2.2.2.1 k x) :: rest)) := by
  obtain ⟨q, hq⟩ := bn_wl_get (ad := Y.2.2.2.1) (ce := Y.2.2.2.2.1 N) hm
  rw [he] at hq
  exact va_get (ref := C) F.1 F.2.1 F.2.2.2.1 hin F.2.2.1 F.2.2.2.2 h.1 q hq hc j hj (F.2.2.2.1 _ hlink) (fun _ h9 => by rw [hT] at h9; exact h9) hv hdg kk
theorem bn_put (F : bn_F p s m args c cc own Y) (h : bn_H Y s.heap H locs N) (hm : (k, x) ∈ Y.2.2.1) {C : String} {T : u_T} {n ci index : Nat} {fs : List Value} (he : Y.2.2.2.2.1 N k x = .inr (ci, fs)) (hc : bn_cl[ci]? = some (C, T, n)) (hin : ∀ w ∈ u_ws C T n, w ∈ bn_all)
    (ty0 : Nat → FieldType) (hty : ∀ k, k < n → parseFieldDescriptor (T k).2.2.1 = some (ty0 k)) (hnm : ∀ a, a < n → ∀ b, b < n → a ≠ b → (T a).2.1 ≠ (T b).2.1) (j : Nat) (hj : j < n) (hT : (T j).1 = C) (hfin : (T j).2.2.2 = false)
    (hlink : Cond.fieldLink own index C (T j).2.1 (T j).2.2.1 ∈ bn_all) {v : Value} (hn : narrow (ty0 j) v = v) (hfit : fits (ty0 j) v = true) (hl : j < fs.length) (h1 : Y.2.2.2.2.1 N' k x = .inr (ci, fs.set j v)) (h2 : ∀ k' x' : Nat, ¬ (k' = k ∧ x' = x) → Y.2.2.2.2.1 N' k' x' = Y.2.2.2.2.1 N k' x') (hN' : Y.2.2.2.2.2 N')
    (hdg : decode cc pc = .ok (.putfield index, 3)) (kk : ∀ (H1 : Heap) (locs1 : List Loc), bn_H Y s.heap H1 locs1 N' → W p l e R s m args below meth c H1 locs1 cells slots Q (F0 m (pc + 3) ls rest)) : W p l e R s m args below meth c H locs cells slots Q (F0 m pc ls (v :: .ref (Y.2.2.2.1 k x) :: rest)) := by
  obtain ⟨q, hq⟩ := bn_wl_get (ad := Y.2.2.2.1) (ce := Y.2.2.2.2.1 N) hm
  rw [he] at hq
  obtain ⟨hP, hD, hS, hN⟩ := h
  refine va_put (ref := C) F.1 F.2.1 F.2.2.2.1 hin ty0 hty hnm F.2.2.1 F.2.2.2.2 hP hD hS q hq hc j hj (F.2.2.2.1 _ hlink) (fun _ h9 => by rw [hT] at h9; exact h9) hfin (hty j hj) hn hfit hl hdg (fun H1 locs1 hP1 hD1 hS1 => ?_)
  have hs := bn_wl_set hD hm hq h1 h2
  rw [hs] at hP1 hD1
  exact kk H1 locs1 ⟨hP1, hD1, hS1, hN'⟩
/-- arrays: of ints (also of small naturals), of longs, of references that stay -/
theorem bn_ild (F : bn_F p s m args c cc own Y) (h : bn_H Y s.heap H locs N) (hm : (k, x) ∈ Y.2.2.1) {cA : ClassId} {n t0 : Nat} {f : Nat → Int32} (he : Y.2.2.2.2.1 N k x = .inl (cA, n, .inl f)) (ht : Y.2.1[t0]? = some (cA, .int)) {i : Nat} (hi : i < n) (hn : n < 2 ^ 31) (hdg : decode cc pc = .ok (.iaload, 1))
    (kk : W p l e R s m args below meth c H locs cells slots Q (F0 m (pc + 1) ls (.int (f i) :: rest))) : W p l e R s m args below meth c H locs cells slots Q (F0 m pc ls (.int (nI i) :: .ref (Y.2.2.2.1 k x) :: rest)) := by
  obtain ⟨q, hq⟩ := bn_wl_get (ad := Y.2.2.2.1) (ce := Y.2.2.2.2.1 N) hm
  rw [he] at hq
  refine va_iald F.1 F.2.1 F.2.2.2.2 h.1 q t0 hq ht (vp_in_nI hi hn) hdg ?_
  rw [nI_clamp (by omega)]
  exact kk
theorem bn_zld (F : bn_F p s m args c cc own Y) (h : bn_H Y s.heap H locs N) (hm : (k, x) ∈ Y.2.2.1) {cA : ClassId} {n t0 : Nat} {f : Nat → Int32} (he : Y.2.2.2.2.1 N k x = .inl (cA, n, .inl f)) (ht : Y.2.1[t0]? = some (cA, .boolean)) {i : Nat} (hi : i < n) (hn : n < 2 ^ 31) (hdg : decode cc pc = .ok (.baload, 1))
    (kk : W p l e R s m args below meth c H locs cells slots Q (F0 m (pc + 1) ls (.int (f i) :: rest))) : W p l e R s m args below meth c H locs cells slots Q (F0 m pc ls (.int (nI i) :: .ref (Y.2.2.2.1 k x) :: rest)) := by
  obtain ⟨q, hq⟩ := bn_wl_get (ad := Y.2.2.2.1) (ce := Y.2.2.2.2.1 N) hm
  rw [he] at hq
  refine va_zald F.1 F.2.1 F.2.2.2.2 h.1 q t0 hq ht (vp_in_nI hi hn) hdg ?_
  rw [nI_clamp (by omega)]
  exact kk
theorem bn_lld (F : bn_F p s m args c cc own Y) (h : bn_H Y s.heap H locs N) (hm : (k, x) ∈ Y.2.2.1) {cA : ClassId} {n t0 : Nat} {f : Nat → Int64} (he : Y.2.2.2.2.1 N k x = .inl (cA, n, .inr (.inl f))) (ht : Y.2.1[t0]? = some (cA, .long)) {i : Nat} (hi : i < n) (hn : n < 2 ^ 31) (hdg : decode cc pc = .ok (.laload, 1))
    (kk : W p l e R s m args below meth c H locs cells slots Q (F0 m (pc + 1) ls (.long (f i) :: rest))) : W p l e R s m args below meth c H locs cells slots Q (F0 m pc ls (.int (nI i) :: .ref (Y.2.2.2.1 k x) :: rest)) := by
  obtain ⟨q, hq⟩ := bn_wl_get (ad := Y.2.2.2.1) (ce := Y.2.2.2.2.1 N) hm
  rw [he] at hq
  refine va_lald F.1 F.2.1 F.2.2.2.2 h.1 q t0 hq ht (vp_in_nI hi hn) hdg ?_
  rw [nI_clamp (by omega)]
  exact kk
theorem bn_ald (F : bn_F p s m args c cc own Y) (h : bn_H Y s.heap H locs N) (hm : (k, x) ∈ Y.2.2.1) {cA : ClassId} {C : String} {n t0 a : Nat} {f : Nat → Option Nat} (he : Y.2.2.2.2.1 N k x = .inl (cA, n, .inr (.inr (.inr (.inr f))))) (ht : Y.2.1[t0]? = some (cA, .object C)) {i : Nat} (hi : i < n) (hn : n < 2 ^ 31) (hf : f i = some a) (hdg : decode cc pc = .ok (.aaload, 1))
    (kk : W p l e R s m args below meth c H locs cells slots Q (F0 m (pc + 1) ls (.ref a :: rest))) : W p l e R s m args below meth c H locs cells slots Q (F0 m pc ls (.int (nI i) :: .ref (Y.2.2.2.1 k x) :: rest)) := by
  obtain ⟨q, hq⟩ := bn_wl_get (ad := Y.2.2.2.1) (ce := Y.2.2.2.2.1 N) hm
  rw [he] at hq
  refine va_aldq F.1 F.2.1 F.2.2.2.2 h.1 q t0 hq ht (vp_in_nI hi hn) hdg ?_
  rw [nI_clamp (by omega), hf]
  exact kk
theorem bn_alen (F : bn_F p s m args c cc own Y) (h : bn_H Y s.heap H locs N) (hm : (k, x) ∈ Y.2.2.1) {cA : ClassId} {a : vp_A} {t0 n : Nat} {ty : FieldType} (he : Y.2.2.2.2.1 N k x = .inl (cA, a)) (ht : Y.2.1[t0]? = some (cA, ty)) (hn : a.1 = n) (hdg : decode cc pc = .ok (.arraylength, 1))
    (kk : W p l e R s m args below meth c H locs cells slots Q (F0 m (pc + 1) ls (.int (nI n) :: rest))) : W p l e R s m args below meth c H locs cells slots Q (F0 m pc ls (.ref (Y.2.2.2.1 k x) :: rest)) := by
  obtain ⟨q, hq⟩ := bn_wl_get (ad := Y.2.2.2.1) (ce := Y.2.2.2.2.1 N) hm
  rw [he] at hq
  exact va_alen F.1 F.2.1 F.2.2.2.2 h.1 q t0 hq ht (by rw [hn]; rfl) hdg kk
theorem bn_ist (F : bn_F p s m args c cc own Y) (h : bn_H Y s.heap H locs N) (hm : (k, x) ∈ Y.2.2.1) {cA : ClassId} {n t0 : Nat} {f : Nat → Int32} (he : Y.2.2.2.2.1 N k x = .inl (cA, n, .inl f)) (ht : Y.2.1[t0]? = some (cA, .int)) {i : Nat} {v : Int32} (hi : i < n) (hn : n < 2 ^ 31)
    (h1 : Y.2.2.2.2.1 N' k x = .inl (cA, n, .inl (upd f i v))) (h2 : ∀ k' x' : Nat, ¬ (k' = k ∧ x' = x) → Y.2.2.2.2.1 N' k' x' = Y.2.2.2.2.1 N k' x') (hN' : Y.2.2.2.2.2 N') (hdg : decode cc pc = .ok (.iastore, 1))
    (kk : ∀ (H1 : Heap) (locs1 : List Loc), bn_H Y s.heap H1 locs1 N' → W p l e R s m args below meth c H1 locs1 cells slots Q (F0 m (pc + 1) ls rest)) : W p l e R s m args below meth c H locs cells slots Q (F0 m pc ls (.int v :: .int (nI i) :: .ref (Y.2.2.2.1 k x) :: rest)) := by
  obtain ⟨q, hq⟩ := bn_wl_get (ad := Y.2.2.2.1) (ce := Y.2.2.2.2.1 N) hm
  rw [he] at hq
  obtain ⟨hP, hD, hS, hN⟩ := h
  refine va_iast F.1 F.2.1 F.2.2.2.2 hP hD hS q t0 hq ht (vp_in_nI hi hn) hdg (fun H1 locs1 hP1 hD1 hS1 => ?_)
  rw [nI_clamp (by omega)] at hP1 hD1
  have hs := bn_wl_set hD hm hq h1 h2
  rw [hs] at hP1 hD1
  exact kk H1 locs1 ⟨hP1, hD1, hS1, hN'⟩
theorem bn_zst (F : bn_F p s m args c cc own Y) (h : bn_H Y s.heap H locs N) (hm : (k, x) ∈ Y.2.2.1) {cA : ClassId} {n t0 : Nat} {f : Nat → Int32} (he : Y.2.2.2.2.1 N k x = .inl (cA, n, .inl f)) (ht : Y.2.1[t0]? = some (cA, .boolean)) {i : Nat} {v : Int32} (hi : i < n) (hn : n < 2 ^ 31) (hv : vp_nar .boolean v = v)
    (h1 : Y.2.2.2.2.1 N' k x = .inl (cA, n, .inl (upd f i v))) (h2 : ∀ k' x' : Nat, ¬ (k' = k ∧ x' = x) → Y.2.2.2.2.1 N' k' x' = Y.2.2.2.2.1 N k' x') (hN' : Y.2.2.2.2.2 N') (hdg : decode cc pc = .ok (.bastore, 1))
    (kk : ∀ (H1 : Heap) (locs1 : List Loc), bn_H Y s.heap H1 locs1 N' → W p l e R s m args below meth c H1 locs1 cells slots Q (F0 m (pc + 1) ls rest)) : W p l e R s m args below meth c H locs cells slots Q (F0 m pc ls (.int v :: .int (nI i) :: .ref (Y.2.2.2.1 k x) :: rest)) := by
  obtain ⟨q, hq⟩ := bn_wl_get (ad := Y.2.2.2.1) (ce := Y.2.2.2.2.1 N) hm
  rw [he] at hq
  obtain ⟨hP, hD, hS, hN⟩ := h
  refine va_zast F.1 F.2.1 F.2.2.2.2 hP hD hS q t0 hq ht (vp_in_nI hi hn) hdg (fun H1 locs1 hP1 hD1 hS1 => ?_)
  rw [nI_clamp (by omega), hv] at hP1 hD1
  have hs := bn_wl_set hD hm hq h1 h2
  rw [hs] at hP1 hD1
  exact kk H1 locs1 ⟨hP1, hD1, hS1, hN'⟩
theorem bn_lst (F : bn_F p s m args c cc own Y) (h : bn_H Y s.heap H locs N) (hm : (k, x) ∈ Y.2.2.1) {cA : ClassId} {n t0 : Nat} {f : Nat → Int64} (he : Y.2.2.2.2.1 N k x = .inl (cA, n, .inr (.inl f))) (ht : Y.2.1[t0]? = some (cA, .long)) {i : Nat} {v : Int64} (hi : i < n) (hn : n < 2 ^ 31)
    (h1 : Y.2.2.2.2.1 N' k x = .inl (cA, n, .inr (.inl (vp_updL f i v)))) (h2 : ∀ k' x' : Nat, ¬ (k' = k ∧ x' = x) → Y.2.2.2.2.1 N' k' x' = Y.2.2.2.2.1 N k' x') (hN' : Y.2.2.2.2.2 N') (hdg : decode cc pc = .ok (.lastore, 1))
    (kk : ∀ (H1 : Heap) (locs1 : List Loc), bn_H Y s.heap H1 locs1 N' → W p l e R s m args below meth c H1 locs1 cells slots Q (F0 m (pc + 1) ls rest)) : W p l e R s m args below meth c H locs cells slots Q (F0 m pc ls (.long v :: .int (nI i) :: .ref (Y.2.2.2.1 k x) :: rest)) := by
  obtain ⟨q, hq⟩ := bn_wl_get (ad := Y.2.2.2.1) (ce := Y.2.2.2.2.1 N) hm
  rw [he] at hq
  obtain ⟨hP, hD, hS, hN⟩ := h
  refine va_last F.1 F.2.1 F.2.2.2.2 hP hD hS q t0 hq ht (vp_in_nI hi hn) hdg (fun H1 locs1 hP1 hD1 hS1 => ?_)
  rw [nI_clamp (by omega)] at hP1 hD1
  have hs := bn_wl_set hD hm hq h1 h2
  rw [hs] at hP1 hD1
  exact kk H1 locs1 ⟨hP1, hD1, hS1, hN'⟩
end BNG
/-- words -/
theorem bn_goodW {w : Cond} (h : w ∈ bn_all) : (w.onTables && w.keeps) = true ∨ ∃ ty, w = .arrayClass ty := good_of_word (List.mem_filter.mp h).2
theorem bn_goodV {own C : String} {idx maxL : Nat} {y : MethodName} {cc : ByteArray} {ret : Option FieldType} (h1 : Cond.methodLink own idx y ∈ bn_all) (h2 : Cond.instanceMethod y ∈ bn_all) (h3 : Cond.selects C y y ∈ bn_all) (h4 : Cond.initialized C ∈ bn_all) (h5 : Cond.code y cc maxL ret ∈ bn_all) : GoodIn bn_all (wsV own idx C y (Cond.code y cc maxL ret :: bn_all)) := by
  intro w hw
  have h : w ∈ bn_all := by
    simp only [wsV, List.cons_append, List.nil_append, List.mem_cons] at hw
    rcases hw with rfl | rfl | rfl | rfl | rfl | hw
    · exact h1
    · exact h2
    · exact h3
    · exact h4
    · exact h5
    · exact hw
  exact ⟨h, bn_goodW h⟩
theorem bn_goodS {own : String} {idx maxL : Nat} {y : MethodName} {cc : ByteArray} {ret : Option FieldType} (h1 : Cond.methodLink own idx y ∈ bn_all) (h2 : Cond.static y ∈ bn_all) (h4 : Cond.initialized y.cls ∈ bn_all) (h5 : Cond.code y cc maxL ret ∈ bn_all) : GoodIn bn_all (va_wsS own idx y (Cond.code y cc maxL ret :: bn_all)) := by
  intro w hw
  have h : w ∈ bn_all := by
    simp only [va_wsS, List.cons_append, List.nil_append, List.mem_cons] at hw
    rcases hw with rfl | rfl | rfl | rfl | hw
    · exact h1
    · exact h2
    · exact h4
    · exact h5
    · exact hw
  exact ⟨h, bn_goodW h⟩
theorem bn_goodC {maxL : Nat} {y : MethodName} {cc : ByteArray} {ret : Option FieldType} (h5 : Cond.code y cc maxL ret ∈ bn_all) : GoodIn bn_all (Cond.code y cc maxL ret :: bn_all) := by
  intro w hw
  have h : w ∈ bn_all := by
    rcases List.mem_cons.mp hw with rfl | hw
    · exact h5
    · exact hw
  exact ⟨h, bn_goodW h⟩
section BNC
variable {p : Program} {l : Launch} {e : Env} {R : Room} {s : State} {m : MethodId} {args : Array Value} {below : List Frame} {meth : Method} {c : Code} {H : Heap} {locs : List Loc} {cells slots : Nat} {Q : State → Prop}
variable {cc bytes : ByteArray} {pc nL n index maxL : Nat} {ls : Array Slot} {rest st0 As : List Value} {Y : bn_Y} {N N' : bn_S} {own C : String} {k x ci : Nat} {y : MethodName} {ret : Option FieldType} {rm : Room} {Qc : Array Value → State → Outcome → State → Prop} {free : Addr → Prop} {fs : List Value} {q : vw_C}
theorem bn_runV (F : bn_F p s m args c cc own Y) (hml : c.maxLocals = nL) (hsz : ls.size = nL) (h : bn_H Y s.heap H locs N) (hm : (k, x) ∈ Y.2.2.1) (he : Y.2.2.2.2.1 N k x = .inr (ci, fs)) (hc : bn_cl[ci]? = some q) (hM : Met l y (Cond.code y bytes maxL ret :: bn_all) rm (va_Pc (.ref (Y.2.2.2.1 k x) :: As) (bn_Pre Y N H.size)) Qc 0 0 free)
    (G : GoodIn bn_all (wsV own index q.1 y (Cond.code y bytes maxL ret :: bn_all))) (hrc : rm.cells = 0) (hrs : rm.slots = 0) (hd : y.cls = q.1 ∧ y.cls ≠ "java/lang/invoke/MethodHandle" ∧ y.cls ≠ "java/lang/invoke/VarHandle" ∧ (parseMethodDescriptor y.desc).map (fun d => d.parameters.length) = some n) (hR : rm.frames + 1 ≤ R.frames ∧ 8 + (maxL + 11) + rm.locals ≤ R.locals)
    (hn : As.length = n) (hst : st0 = As.reverse ++ .ref (Y.2.2.2.1 k x) :: rest) (hW : (rest.map fun v => v.category).sum ≤ 8) (hdg : decode cc pc = .ok (.invokevirtual index, 3)) (hf : cells ≤ R.cells ∧ slots ≤ R.slots) :
    va_Run p l e R s m args below meth c H locs cells slots 0 0 (F0 m pc ls st0) rest (Qc (Value.ref (Y.2.2.2.1 k x) :: As).toArray) free :=
  va_runV ⟨F.1, F.2.1, hml, F.2.2.1, F.2.2.2.1⟩ hM (cwV n F.2.2.2.1 G rfl hrc hrs hd hR) (bn_preV F h hm he hc) rfl hn hsz hst (lv_room hW) hdg hf
theorem bn_runS (F : bn_F p s m args c cc own Y) (hml : c.maxLocals = nL) (hsz : ls.size = nL) (h : bn_H Y s.heap H locs N) (hM : Met l y (Cond.code y bytes maxL ret :: bn_all) rm (va_Pc As (bn_Pre Y N H.size)) Qc 0 0 free)
    (G : GoodIn bn_all (va_wsS own index y (Cond.code y bytes maxL ret :: bn_all))) (hrc : rm.cells = 0) (hrs : rm.slots = 0) (hd : y.cls ≠ "java/lang/invoke/MethodHandle" ∧ y.cls ≠ "java/lang/invoke/VarHandle" ∧ (parseMethodDescriptor y.desc).map (fun d => d.parameters.length) = some n) (hR : rm.frames + 1 ≤ R.frames ∧ 8 + (maxL + 11) + rm.locals ≤ R.locals)
    (hn : As.length = n) (hst : st0 = As.reverse ++ rest) (hW : (rest.map fun v => v.category).sum ≤ 8) (hdg : decode cc pc = .ok (.invokestatic index, 3)) (hf : cells ≤ R.cells ∧ slots ≤ R.slots) :
    va_Run p l e R s m args below meth c H locs cells slots 0 0 (F0 m pc ls st0) rest (Qc As.toArray) free :=
  va_runS ⟨F.1, F.2.1, hml, F.2.2.1, F.2.2.2.1⟩ hM (va_cwS n F.2.2.2.1 G rfl hrc hrs hd hR) (bn_preS F h) rfl hn hsz hst (lv_room hW) hdg hf
end BNC
end
section
/-! the class: its cells, by kind and number; rows of its fields and arrays: written by wip/whole/emit_state.py -/
def bn_uB (c : Nat) : Nat := if c ≤ 5 then 2 else if c = 6 then 12 else if c = 7 then 13 else if c = 8 then 3 else if c = 9 then 41 else if c = 10 then 8 else if c = 11 then 10 else if c = 12 then 3 else 4
def bn_uL (c : Nat) : Nat := if c = 8 then 1 else if c = 12 then 1 else 0
def bn_oB (nf c : Nat) : Nat := if c = 3 then 8 else if c = 5 then nf else 20
def bn_wf (nf : Nat) (N : bn_S) : Prop := (∀ c x : Nat, bn_uL c ≤ N.2.1 c x ∧ N.2.1 c x < bn_uB c) ∧ ∀ c x y : Nat, N.2.2.2 c x = some y → y < bn_oB nf c
theorem bn_wf_I {nf : Nat} {N : bn_S} (h : bn_wf nf N) (c x : Nat) (v : Int32) : bn_wf nf (sI N c x v) := h
theorem bn_wf_J {nf : Nat} {N : bn_S} (h : bn_wf nf N) (c x : Nat) (v : Int64) : bn_wf nf (sJ N c x v) := h
theorem bn_wf_U {nf : Nat} {N : bn_S} (h : bn_wf nf N) (c x : Nat) {v : Nat} (h1 : bn_uL c ≤ v) (h2 : v < bn_uB c) : bn_wf nf (sU N c x v) := by
  refine ⟨fun c' x' => ?_, h.2⟩
  show bn_uL c' ≤ bn_up N.2.1 c x v c' x' ∧ bn_up N.2.1 c x v c' x' < bn_uB c'
  unfold bn_up
  split
  · rename_i he
    rw [he.1]
    exact ⟨h1, h2⟩
  · exact h.1 c' x'
theorem bn_wf_O {nf : Nat} {N : bn_S} (h : bn_wf nf N) (c x : Nat) {v : Option Nat} (h1 : ∀ y, v = some y → y < bn_oB nf c) : bn_wf nf (sO N c x v) := by
  refine ⟨h.1, fun c' x' y hy => ?_⟩
  have hy : bn_up N.2.2.2 c x v c' x' = some y := hy
  unfold bn_up at hy
  split at hy
  · rename_i he
    rw [he.1]
    exact h1 y hy
  · exact h.2 c' x' y hy
theorem wf_tells {nf : Nat} {N : bn_S} (h : bn_wf nf N) (x : Nat) : N.2.1 1 x < 2 := (h.1 1 x).2
theorem wf_hasInfo {nf : Nat} {N : bn_S} (h : bn_wf nf N) (x : Nat) : N.2.1 2 x < 2 := (h.1 2 x).2
theorem wf_prop {nf : Nat} {N : bn_S} (h : bn_wf nf N) (x : Nat) : N.2.1 3 x < 2 := (h.1 3 x).2
theorem wf_agr {nf : Nat} {N : bn_S} (h : bn_wf nf N) (x : Nat) : N.2.1 4 x < 2 := (h.1 4 x).2
theorem wf_mprop {nf : Nat} {N : bn_S} (h : bn_wf nf N) (x : Nat) : N.2.1 5 x < 2 := (h.1 5 x).2
theorem wf_first {nf : Nat} {N : bn_S} (h : bn_wf nf N) (x : Nat) : N.2.1 6 x < 12 := (h.1 6 x).2
theorem wf_count {nf : Nat} {N : bn_S} (h : bn_wf nf N) (x : Nat) : N.2.1 7 x < 13 := (h.1 7 x).2
theorem wf_svlan {nf : Nat} {N : bn_S} (h : bn_wf nf N) (x : Nat) : N.2.1 8 x < 3 := (h.1 8 x).2
theorem wf_svlan_lo {nf : Nat} {N : bn_S} (h : bn_wf nf N) (x : Nat) : 1 ≤ N.2.1 8 x := (h.1 8 x).1
theorem wf_scount {nf : Nat} {N : bn_S} (h : bn_wf nf N) (x : Nat) : N.2.1 9 x < 41 := (h.1 9 x).2
theorem wf_src {nf : Nat} {N : bn_S} (h : bn_wf nf N) (x : Nat) : N.2.1 10 x < 8 := (h.1 10 x).2
theorem wf_dst {nf : Nat} {N : bn_S} (h : bn_wf nf N) (x : Nat) : N.2.1 11 x < 10 := (h.1 11 x).2
theorem wf_fvlan {nf : Nat} {N : bn_S} (h : bn_wf nf N) (x : Nat) : N.2.1 12 x < 3 := (h.1 12 x).2
theorem wf_fvlan_lo {nf : Nat} {N : bn_S} (h : bn_wf nf N) (x : Nat) : 1 ≤ N.2.1 12 x := (h.1 12 x).1
theorem bn_uB_p (b : Nat) : bn_uB (b + 20) = 4 := by
  unfold bn_uB
  rw [if_neg (by omega), if_neg (by omega), if_neg (by omega), if_neg (by omega), if_neg (by omega), if_neg (by omega), if_neg (by omega), if_neg (by omega)]
theorem bn_uL_p (b : Nat) : bn_uL (b + 20) = 0 := by
  unfold bn_uL
  rw [if_neg (by omega), if_neg (by omega)]
theorem wf_place {nf : Nat} {N : bn_S} (h : bn_wf nf N) (b i : Nat) : N.2.1 (b + 20) i < 4 := by
  have h1 := (h.1 (b + 20) i).2
  rw [bn_uB_p] at h1
  exact h1
def bn_c (ar : Nat → ClassId) (ad : Nat → Nat → Nat) (N : bn_S) (k x : Nat) : va_E := match k with
  | 0 => .inr (0, [.ref (ad 1 0), .ref (ad 10 0), .int (nI (N.2.1 1 x))])
  | 1 => .inl (ar 3, 5, .inr (.inr (.inr (.inr (fun i => some (ad 2 i))))))
  | 2 => .inr (1, [.int (nI x), .int (N.1 1 x), .ref (ad 3 x), .int (N.1 2 x), .int (N.1 3 x), .int (N.1 4 x), va_rf ((N.2.2.2 1 x).map (ad 6)), .ref (ad 4 x), .ref (ad 5 x)])
  | 3 => .inl (ar 4, 4, .inr (.inr (.inr (.inr (fun i => some (ad 6 (4 * x + i)))))))
  | 4 => .inl (ar 0, 16, .inl (fun i => nI (N.2.1 (x + 20) i)))
  | 5 => .inl (ar 0, 16, .inl (N.1 (x + 20)))
  | 6 => .inr (2, [.ref (ad 2 (x / 4)), .int (nI (x % 4)), .ref (ad 7 x), .int (N.1 5 x), .int (N.1 6 x), va_rf ((N.2.2.2 2 x).map (ad 6)), va_rf ((N.2.2.2 3 x).map (ad 11)), .int (nI (N.2.1 2 x)), .long (N.2.2.1 1 x), .int (N.1 7 x), .int (N.1 8 x), .int (N.1 9 x), .int (N.1 10 x), .int (nI (N.2.1 3 x)), .int (nI (N.2.1 4 x)), .int (N.1 11 x)])
  | 7 => .inr (3, [.ref (ad 8 x), .int (nI (N.2.1 6 x)), .int (nI (N.2.1 7 x))])
  | 8 => .inl (ar 5, 12, .inr (.inr (.inr (.inr (fun i => some (ad 9 (12 * x + i)))))))
  | 9 => .inr (4, [.int (N.1 12 x), .int (N.1 13 x), .long (N.2.2.1 2 x), .int (N.1 14 x), .int (nI (N.2.1 5 x)), va_rf ((N.2.2.2 5 x).map (ad 13))])
  | 10 => .inl (ar 6, 8, .inr (.inr (.inr (.inr (fun i => some (ad 11 i))))))
  | 11 => .inr (5, [va_rf ((N.2.2.2 4 x).map (ad 6)), .int (nI (N.2.1 8 x)), .ref (ad 12 x), .int (nI (N.2.1 9 x))])
  | 12 => .inl (ar 1, 40, .inr (.inl (N.2.2.1 (x + 20))))
  | _ => .inr (6, [.int (nI (N.2.1 10 x)), .int (nI (N.2.1 11 x)), .int (nI (N.2.1 12 x)), .int (N.1 15 x)])
def bn_ty (ar : Nat → ClassId) : List (ClassId × FieldType) := [(ar 0, .int), (ar 1, .long), (ar 2, .boolean), (ar 3, .object "BridgeNet$Bridge"), (ar 4, .object "BridgeNet$Port"), (ar 5, .object "BridgeNet$Message"), (ar 6, .object "BridgeNet$Station")]
def bn_ix (nf : Nat) : List (Nat × Nat) := (0, 0) :: (1, 0) :: (10, 0) :: ((List.range 5).map (fun i => (2, i)) ++ (List.range 5).map (fun i => (3, i)) ++ (List.range 5).map (fun i => (4, i)) ++ (List.range 5).map (fun i => (5, i)) ++ (List.range 20).map (fun i => (6, i)) ++ (List.range 20).map (fun i => (7, i)) ++ (List.range 20).map (fun i => (8, i)) ++ (List.range 240).map (fun i => (9, i)) ++ (List.range 8).map (fun i => (11, i)) ++ (List.range 8).map (fun i => (12, i)) ++ (List.range nf).map (fun i => (13, i)))
theorem mm_2 {nf x : Nat} (h : x < 5) : (2, x) ∈ bn_ix nf := by simp [bn_ix, h]
theorem mm_3 {nf x : Nat} (h : x < 5) : (3, x) ∈ bn_ix nf := by simp [bn_ix, h]
theorem mm_4 {nf x : Nat} (h : x < 5) : (4, x) ∈ bn_ix nf := by simp [bn_ix, h]
theorem mm_5 {nf x : Nat} (h : x < 5) : (5, x) ∈ bn_ix nf := by simp [bn_ix, h]
theorem mm_6 {nf x : Nat} (h : x < 20) : (6, x) ∈ bn_ix nf := by simp [bn_ix, h]
theorem mm_7 {nf x : Nat} (h : x < 20) : (7, x) ∈ bn_ix nf := by simp [bn_ix, h]
theorem mm_8 {nf x : Nat} (h : x < 20) : (8, x) ∈ bn_ix nf := by simp [bn_ix, h]
theorem mm_9 {nf x : Nat} (h : x < 240) : (9, x) ∈ bn_ix nf := by simp [bn_ix, h]
theorem mm_11 {nf x : Nat} (h : x < 8) : (11, x) ∈ bn_ix nf := by simp [bn_ix, h]
theorem mm_12 {nf x : Nat} (h : x < 8) : (12, x) ∈ bn_ix nf := by simp [bn_ix, h]
theorem mm_13 {nf x : Nat} (h : x < nf) : (13, x) ∈ bn_ix nf := by simp [bn_ix, h]
theorem mm_0 {nf : Nat} : (0, 0) ∈ bn_ix nf := by simp [bn_ix]
theorem mm_1 {nf : Nat} : (1, 0) ∈ bn_ix nf := by simp [bn_ix]
theorem mm_10 {nf : Nat} : (10, 0) ∈ bn_ix nf := by simp [bn_ix]
abbrev bn_y (D : va_G) (ar : Nat → ClassId) (ad : Nat → Nat → Nat) (nf : Nat) : bn_Y := (D, bn_ty ar, bn_ix nf, ad, bn_c ar ad, bn_wf nf)
theorem o_Ne_tellsAtNextTick (ar : Nat → ClassId) (ad : Nat → Nat → Nat) (N : bn_S) (x : Nat) (v : Nat) : ∀ k' x' : Nat, ¬ (k' = 0 ∧ x' = x) → bn_c ar ad (sU N 1 x v) k' x' = bn_c ar ad N k' x' := by
  intro k' x' h
  unfold bn_c
  split <;> first | (simp_all [sI, sU, sJ, sO, bn_up]; done) | (simp_all [sI, sU, sJ, sO]; exact bn_up_cf _ _ (by omega))
theorem o_Br_id (ar : Nat → ClassId) (ad : Nat → Nat → Nat) (N : bn_S) (x : Nat) (v : Int32) : ∀ k' x' : Nat, ¬ (k' = 2 ∧ x' = x) → bn_c ar ad (sI N 1 x v) k' x' = bn_c ar ad N k' x' := by
  intro k' x' h
  unfold bn_c
  split <;> first | (simp_all [sI, sU, sJ, sO, bn_up]; done) | (simp_all [sI, sU, sJ, sO]; exact bn_up_cf _ _ (by omega))
theorem o_Br_root (ar : Nat → ClassId) (ad : Nat → Nat → Nat) (N : bn_S) (x : Nat) (v : Int32) : ∀ k' x' : Nat, ¬ (k' = 2 ∧ x' = x) → bn_c ar ad (sI N 2 x v) k' x' = bn_c ar ad N k' x' := by
  intro k' x' h
  unfold bn_c
  split <;> first | (simp_all [sI, sU, sJ, sO, bn_up]; done) | (simp_all [sI, sU, sJ, sO]; exact bn_up_cf _ _ (by omega))
theorem o_Br_cost (ar : Nat → ClassId) (ad : Nat → Nat → Nat) (N : bn_S) (x : Nat) (v : Int32) : ∀ k' x' : Nat, ¬ (k' = 2 ∧ x' = x) → bn_c ar ad (sI N 3 x v) k' x' = bn_c ar ad N k' x' := by
  intro k' x' h
  unfold bn_c
  split <;> first | (simp_all [sI, sU, sJ, sO, bn_up]; done) | (simp_all [sI, sU, sJ, sO]; exact bn_up_cf _ _ (by omega))
theorem o_Br_hops (ar : Nat → ClassId) (ad : Nat → Nat → Nat) (N : bn_S) (x : Nat) (v : Int32) : ∀ k' x' : Nat, ¬ (k' = 2 ∧ x' = x) → bn_c ar ad (sI N 4 x v) k' x' = bn_c ar ad N k' x' := by
  intro k' x' h
  unfold bn_c
  split <;> first | (simp_all [sI, sU, sJ, sO, bn_up]; done) | (simp_all [sI, sU, sJ, sO]; exact bn_up_cf _ _ (by omega))
theorem o_Br_rootPort (ar : Nat → ClassId) (ad : Nat → Nat → Nat) (N : bn_S) (x : Nat) (v : Option Nat) : ∀ k' x' : Nat, ¬ (k' = 2 ∧ x' = x) → bn_c ar ad (sO N 1 x v) k' x' = bn_c ar ad N k' x' := by
  intro k' x' h
  unfold bn_c
  split <;> first | (simp_all [sI, sU, sJ, sO, bn_up]; done) | (simp_all [sI, sU, sJ, sO]; exact bn_up_cf _ _ (by omega))
theorem o_Po_cost (ar : Nat → ClassId) (ad : Nat → Nat → Nat) (N : bn_S) (x : Nat) (v : Int32) : ∀ k' x' : Nat, ¬ (k' = 6 ∧ x' = x) → bn_c ar ad (sI N 5 x v) k' x' = bn_c ar ad N k' x' := by
  intro k' x' h
  unfold bn_c
  split <;> first | (simp_all [sI, sU, sJ, sO, bn_up]; done) | (simp_all [sI, sU, sJ, sO]; exact bn_up_cf _ _ (by omega))
theorem o_Po_vlans (ar : Nat → ClassId) (ad : Nat → Nat → Nat) (N : bn_S) (x : Nat) (v : Int32) : ∀ k' x' : Nat, ¬ (k' = 6 ∧ x' = x) → bn_c ar ad (sI N 6 x v) k' x' = bn_c ar ad N k' x' := by
  intro k' x' h
  unfold bn_c
  split <;> first | (simp_all [sI, sU, sJ, sO, bn_up]; done) | (simp_all [sI, sU, sJ, sO]; exact bn_up_cf _ _ (by omega))
theorem o_Po_peer (ar : Nat → ClassId) (ad : Nat → Nat → Nat) (N : bn_S) (x : Nat) (v : Option Nat) : ∀ k' x' : Nat, ¬ (k' = 6 ∧ x' = x) → bn_c ar ad (sO N 2 x v) k' x' = bn_c ar ad N k' x' := by
  intro k' x' h
  unfold bn_c
  split <;> first | (simp_all [sI, sU, sJ, sO, bn_up]; done) | (simp_all [sI, sU, sJ, sO]; exact bn_up_cf _ _ (by omega))
theorem o_Po_station (ar : Nat → ClassId) (ad : Nat → Nat → Nat) (N : bn_S) (x : Nat) (v : Option Nat) : ∀ k' x' : Nat, ¬ (k' = 6 ∧ x' = x) → bn_c ar ad (sO N 3 x v) k' x' = bn_c ar ad N k' x' := by
  intro k' x' h
  unfold bn_c
  split <;> first | (simp_all [sI, sU, sJ, sO, bn_up]; done) | (simp_all [sI, sU, sJ, sO]; exact bn_up_cf _ _ (by omega))
theorem o_Po_hasInfo (ar : Nat → ClassId) (ad : Nat → Nat → Nat) (N : bn_S) (x : Nat) (v : Nat) : ∀ k' x' : Nat, ¬ (k' = 6 ∧ x' = x) → bn_c ar ad (sU N 2 x v) k' x' = bn_c ar ad N k' x' := by
  intro k' x' h
  unfold bn_c
  split <;> first | (simp_all [sI, sU, sJ, sO, bn_up]; done) | (simp_all [sI, sU, sJ, sO]; exact bn_up_cf _ _ (by omega))
theorem o_Po_info (ar : Nat → ClassId) (ad : Nat → Nat → Nat) (N : bn_S) (x : Nat) (v : Int64) : ∀ k' x' : Nat, ¬ (k' = 6 ∧ x' = x) → bn_c ar ad (sJ N 1 x v) k' x' = bn_c ar ad N k' x' := by
  intro k' x' h
  unfold bn_c
  split <;> first | (simp_all [sI, sU, sJ, sO, bn_up]; done) | (simp_all [sI, sU, sJ, sO]; exact bn_up_cf _ _ (by omega))
theorem o_Po_infoHops (ar : Nat → ClassId) (ad : Nat → Nat → Nat) (N : bn_S) (x : Nat) (v : Int32) : ∀ k' x' : Nat, ¬ (k' = 6 ∧ x' = x) → bn_c ar ad (sI N 7 x v) k' x' = bn_c ar ad N k' x' := by
  intro k' x' h
  unfold bn_c
  split <;> first | (simp_all [sI, sU, sJ, sO, bn_up]; done) | (simp_all [sI, sU, sJ, sO]; exact bn_up_cf _ _ (by omega))
theorem o_Po_infoLife (ar : Nat → ClassId) (ad : Nat → Nat → Nat) (N : bn_S) (x : Nat) (v : Int32) : ∀ k' x' : Nat, ¬ (k' = 6 ∧ x' = x) → bn_c ar ad (sI N 8 x v) k' x' = bn_c ar ad N k' x' := by
  intro k' x' h
  unfold bn_c
  split <;> first | (simp_all [sI, sU, sJ, sO, bn_up]; done) | (simp_all [sI, sU, sJ, sO]; exact bn_up_cf _ _ (by omega))
theorem o_Po_role (ar : Nat → ClassId) (ad : Nat → Nat → Nat) (N : bn_S) (x : Nat) (v : Int32) : ∀ k' x' : Nat, ¬ (k' = 6 ∧ x' = x) → bn_c ar ad (sI N 9 x v) k' x' = bn_c ar ad N k' x' := by
  intro k' x' h
  unfold bn_c
  split <;> first | (simp_all [sI, sU, sJ, sO, bn_up]; done) | (simp_all [sI, sU, sJ, sO]; exact bn_up_cf _ _ (by omega))
theorem o_Po_state (ar : Nat → ClassId) (ad : Nat → Nat → Nat) (N : bn_S) (x : Nat) (v : Int32) : ∀ k' x' : Nat, ¬ (k' = 6 ∧ x' = x) → bn_c ar ad (sI N 10 x v) k' x' = bn_c ar ad N k' x' := by
  intro k' x' h
  unfold bn_c
  split <;> first | (simp_all [sI, sU, sJ, sO, bn_up]; done) | (simp_all [sI, sU, sJ, sO]; exact bn_up_cf _ _ (by omega))
theorem o_Po_proposing (ar : Nat → ClassId) (ad : Nat → Nat → Nat) (N : bn_S) (x : Nat) (v : Nat) : ∀ k' x' : Nat, ¬ (k' = 6 ∧ x' = x) → bn_c ar ad (sU N 3 x v) k' x' = bn_c ar ad N k' x' := by
  intro k' x' h
  unfold bn_c
  split <;> first | (simp_all [sI, sU, sJ, sO, bn_up]; done) | (simp_all [sI, sU, sJ, sO]; exact bn_up_cf _ _ (by omega))
theorem o_Po_agreed (ar : Nat → ClassId) (ad : Nat → Nat → Nat) (N : bn_S) (x : Nat) (v : Nat) : ∀ k' x' : Nat, ¬ (k' = 6 ∧ x' = x) → bn_c ar ad (sU N 4 x v) k' x' = bn_c ar ad N k' x' := by
  intro k' x' h
  unfold bn_c
  split <;> first | (simp_all [sI, sU, sJ, sO, bn_up]; done) | (simp_all [sI, sU, sJ, sO]; exact bn_up_cf _ _ (by omega))
theorem o_Po_waits (ar : Nat → ClassId) (ad : Nat → Nat → Nat) (N : bn_S) (x : Nat) (v : Int32) : ∀ k' x' : Nat, ¬ (k' = 6 ∧ x' = x) → bn_c ar ad (sI N 11 x v) k' x' = bn_c ar ad N k' x' := by
  intro k' x' h
  unfold bn_c
  split <;> first | (simp_all [sI, sU, sJ, sO, bn_up]; done) | (simp_all [sI, sU, sJ, sO]; exact bn_up_cf _ _ (by omega))
theorem o_Li_first (ar : Nat → ClassId) (ad : Nat → Nat → Nat) (N : bn_S) (x : Nat) (v : Nat) : ∀ k' x' : Nat, ¬ (k' = 7 ∧ x' = x) → bn_c ar ad (sU N 6 x v) k' x' = bn_c ar ad N k' x' := by
  intro k' x' h
  unfold bn_c
  split <;> first | (simp_all [sI, sU, sJ, sO, bn_up]; done) | (simp_all [sI, sU, sJ, sO]; exact bn_up_cf _ _ (by omega))
theorem o_Li_count (ar : Nat → ClassId) (ad : Nat → Nat → Nat) (N : bn_S) (x : Nat) (v : Nat) : ∀ k' x' : Nat, ¬ (k' = 7 ∧ x' = x) → bn_c ar ad (sU N 7 x v) k' x' = bn_c ar ad N k' x' := by
  intro k' x' h
  unfold bn_c
  split <;> first | (simp_all [sI, sU, sJ, sO, bn_up]; done) | (simp_all [sI, sU, sJ, sO]; exact bn_up_cf _ _ (by omega))
theorem o_Ms_kind (ar : Nat → ClassId) (ad : Nat → Nat → Nat) (N : bn_S) (x : Nat) (v : Int32) : ∀ k' x' : Nat, ¬ (k' = 9 ∧ x' = x) → bn_c ar ad (sI N 12 x v) k' x' = bn_c ar ad N k' x' := by
  intro k' x' h
  unfold bn_c
  split <;> first | (simp_all [sI, sU, sJ, sO, bn_up]; done) | (simp_all [sI, sU, sJ, sO]; exact bn_up_cf _ _ (by omega))
theorem o_Ms_root (ar : Nat → ClassId) (ad : Nat → Nat → Nat) (N : bn_S) (x : Nat) (v : Int32) : ∀ k' x' : Nat, ¬ (k' = 9 ∧ x' = x) → bn_c ar ad (sI N 13 x v) k' x' = bn_c ar ad N k' x' := by
  intro k' x' h
  unfold bn_c
  split <;> first | (simp_all [sI, sU, sJ, sO, bn_up]; done) | (simp_all [sI, sU, sJ, sO]; exact bn_up_cf _ _ (by omega))
theorem o_Ms_vector (ar : Nat → ClassId) (ad : Nat → Nat → Nat) (N : bn_S) (x : Nat) (v : Int64) : ∀ k' x' : Nat, ¬ (k' = 9 ∧ x' = x) → bn_c ar ad (sJ N 2 x v) k' x' = bn_c ar ad N k' x' := by
  intro k' x' h
  unfold bn_c
  split <;> first | (simp_all [sI, sU, sJ, sO, bn_up]; done) | (simp_all [sI, sU, sJ, sO]; exact bn_up_cf _ _ (by omega))
theorem o_Ms_hops (ar : Nat → ClassId) (ad : Nat → Nat → Nat) (N : bn_S) (x : Nat) (v : Int32) : ∀ k' x' : Nat, ¬ (k' = 9 ∧ x' = x) → bn_c ar ad (sI N 14 x v) k' x' = bn_c ar ad N k' x' := by
  intro k' x' h
  unfold bn_c
  split <;> first | (simp_all [sI, sU, sJ, sO, bn_up]; done) | (simp_all [sI, sU, sJ, sO]; exact bn_up_cf _ _ (by omega))
theorem o_Ms_proposing (ar : Nat → ClassId) (ad : Nat → Nat → Nat) (N : bn_S) (x : Nat) (v : Nat) : ∀ k' x' : Nat, ¬ (k' = 9 ∧ x' = x) → bn_c ar ad (sU N 5 x v) k' x' = bn_c ar ad N k' x' := by
  intro k' x' h
  unfold bn_c
  split <;> first | (simp_all [sI, sU, sJ, sO, bn_up]; done) | (simp_all [sI, sU, sJ, sO]; exact bn_up_cf _ _ (by omega))
theorem o_Ms_frame (ar : Nat → ClassId) (ad : Nat → Nat → Nat) (N : bn_S) (x : Nat) (v : Option Nat) : ∀ k' x' : Nat, ¬ (k' = 9 ∧ x' = x) → bn_c ar ad (sO N 5 x v) k' x' = bn_c ar ad N k' x' := by
  intro k' x' h
  unfold bn_c
  split <;> first | (simp_all [sI, sU, sJ, sO, bn_up]; done) | (simp_all [sI, sU, sJ, sO]; exact bn_up_cf _ _ (by omega))
theorem o_St_place (ar : Nat → ClassId) (ad : Nat → Nat → Nat) (N : bn_S) (x : Nat) (v : Option Nat) : ∀ k' x' : Nat, ¬ (k' = 11 ∧ x' = x) → bn_c ar ad (sO N 4 x v) k' x' = bn_c ar ad N k' x' := by
  intro k' x' h
  unfold bn_c
  split <;> first | (simp_all [sI, sU, sJ, sO, bn_up]; done) | (simp_all [sI, sU, sJ, sO]; exact bn_up_cf _ _ (by omega))
theorem o_St_vlan (ar : Nat → ClassId) (ad : Nat → Nat → Nat) (N : bn_S) (x : Nat) (v : Nat) : ∀ k' x' : Nat, ¬ (k' = 11 ∧ x' = x) → bn_c ar ad (sU N 8 x v) k' x' = bn_c ar ad N k' x' := by
  intro k' x' h
  unfold bn_c
  split <;> first | (simp_all [sI, sU, sJ, sO, bn_up]; done) | (simp_all [sI, sU, sJ, sO]; exact bn_up_cf _ _ (by omega))
theorem o_St_count (ar : Nat → ClassId) (ad : Nat → Nat → Nat) (N : bn_S) (x : Nat) (v : Nat) : ∀ k' x' : Nat, ¬ (k' = 11 ∧ x' = x) → bn_c ar ad (sU N 9 x v) k' x' = bn_c ar ad N k' x' := by
  intro k' x' h
  unfold bn_c
  split <;> first | (simp_all [sI, sU, sJ, sO, bn_up]; done) | (simp_all [sI, sU, sJ, sO]; exact bn_up_cf _ _ (by omega))
theorem o_arr_4 (ar : Nat → ClassId) (ad : Nat → Nat → Nat) (N : bn_S) (x i : Nat) (v : Nat) : ∀ k' x' : Nat, ¬ (k' = 4 ∧ x' = x) → bn_c ar ad (sU N (x + 20) i v) k' x' = bn_c ar ad N k' x' := by
  intro k' x' h
  unfold bn_c
  split <;> first | (simp_all [sI, sU, sJ, sO, bn_up]; done) | (simp_all [sI, sU, sJ, sO]; exact bn_up_cf _ _ (by omega)) | (simp [sI, sU, sJ, sO, bn_up]; intros; omega)
theorem o_arr_5 (ar : Nat → ClassId) (ad : Nat → Nat → Nat) (N : bn_S) (x i : Nat) (v : Int32) : ∀ k' x' : Nat, ¬ (k' = 5 ∧ x' = x) → bn_c ar ad (sI N (x + 20) i v) k' x' = bn_c ar ad N k' x' := by
  intro k' x' h
  unfold bn_c
  split <;> first | (simp_all [sI, sU, sJ, sO, bn_up]; done) | (simp_all [sI, sU, sJ, sO]; exact bn_up_cf _ _ (by omega)) | (simp [sI, sU, sJ, sO, bn_up]; intros; omega)
theorem o_arr_12 (ar : Nat → ClassId) (ad : Nat → Nat → Nat) (N : bn_S) (x i : Nat) (v : Int64) : ∀ k' x' : Nat, ¬ (k' = 12 ∧ x' = x) → bn_c ar ad (sJ N (x + 20) i v) k' x' = bn_c ar ad N k' x' := by
  intro k' x' h
  unfold bn_c
  split <;> first | (simp_all [sI, sU, sJ, sO, bn_up]; done) | (simp_all [sI, sU, sJ, sO]; exact bn_up_cf _ _ (by omega)) | (simp [sI, sU, sJ, sO, bn_up]; intros; omega)
end
section
/-! the class: a row a field read or written, an array read or written: written by wip/whole/emit_state.py -/
theorem bn_nz {u : Nat} (h : u < 2) : narrow .boolean (.int (nI u)) = .int (nI u) := by
  rcases (show u = 0 ∨ u = 1 by omega) with rfl | rfl <;> decide
theorem bn_fz {u : Nat} (h : u < 2) : fits .boolean (.int (nI u)) = true := by
  rcases (show u = 0 ∨ u = 1 by omega) with rfl | rfl <;> decide
theorem bn_nq (C : String) (r : Option Nat) : narrow (.object C) (va_rf r) = va_rf r := by cases r <;> rfl
theorem bn_fq (C : String) (r : Option Nat) : fits (.object C) (va_rf r) = true := by cases r <;> rfl
theorem bn_arrU (N : bn_S) (x i v : Nat) : (fun j => nI ((sU N (x + 20) i v).2.1 (x + 20) j)) = upd (fun j => nI (N.2.1 (x + 20) j)) i (nI v) := by
  funext j
  by_cases hj : j = i
  · subst hj
    simp [sU, bn_up, upd]
  · simp [sU, bn_up, upd, hj]
theorem bn_arrI (N : bn_S) (x i : Nat) (v : Int32) : (sI N (x + 20) i v).1 (x + 20) = upd (N.1 (x + 20)) i v := by
  funext j
  by_cases hj : j = i
  · subst hj
    simp [sI, bn_up, upd]
  · simp [sI, bn_up, upd, hj]
theorem bn_arrJ (N : bn_S) (x i : Nat) (v : Int64) : (sJ N (x + 20) i v).2.2.1 (x + 20) = vp_updL (N.2.2.1 (x + 20)) i v := by
  funext j
  by_cases hj : j = i
  · subst hj
    simp [sJ, bn_up, vp_updL]
  · simp [sJ, bn_up, vp_updL, hj]
section BNF
variable {p : Program} {l : Launch} {e : Env} {R : Room} {s : State} {m : MethodId} {args : Array Value} {below : List Frame} {meth : Method} {c : Code} {H : Heap} {locs : List Loc} {cells slots : Nat} {Q : State → Prop}
variable {cc : ByteArray} {pc : Nat} {ls : Array Slot} {rest : List Value} {N : bn_S} {own : String} {D : va_G} {ar : Nat → ClassId} {ad : Nat → Nat → Nat} {nf x index : Nat}
theorem g_Ne_bridges (F : bn_F p s m args c cc own (bn_y D ar ad nf)) (h : bn_H (bn_y D ar ad nf) s.heap H locs N) (hl : Cond.fieldLink own index "BridgeNet" "bridges" "[LBridgeNet$Bridge;" ∈ bn_all) (hdg : decode cc pc = .ok (.getfield index, 3)) (kk : W p l e R s m args below meth c H locs cells slots Q (F0 m (pc + 3) ls (.ref (ad 1 0) :: rest))) : W p l e R s m args below meth c H locs cells slots Q (F0 m pc ls (.ref (ad 0 0) :: rest)) := bn_get F h mm_0 rfl rfl i_Ne 0 (by decide) rfl hl rfl hdg kk
theorem g_Ne_stations (F : bn_F p s m args c cc own (bn_y D ar ad nf)) (h : bn_H (bn_y D ar ad nf) s.heap H locs N) (hl : Cond.fieldLink own index "BridgeNet" "stations" "[LBridgeNet$Station;" ∈ bn_all) (hdg : decode cc pc = .ok (.getfield index, 3)) (kk : W p l e R s m args below meth c H locs cells slots Q (F0 m (pc + 3) ls (.ref (ad 10 0) :: rest))) : W p l e R s m args below meth c H locs cells slots Q (F0 m pc ls (.ref (ad 0 0) :: rest)) := bn_get F h mm_0 rfl rfl i_Ne 1 (by decide) rfl hl rfl hdg kk
theorem g_Ne_tellsAtNextTick (F : bn_F p s m args c cc own (bn_y D ar ad nf)) (h : bn_H (bn_y D ar ad nf) s.heap H locs N) (hl : Cond.fieldLink own index "BridgeNet" "tellsAtNextTick" "Z" ∈ bn_all) {v : Nat} (hv : N.2.1 1 0 = v) (hdg : decode cc pc = .ok (.getfield index, 3)) (kk : W p l e R s m args below meth c H locs cells slots Q (F0 m (pc + 3) ls (.int (nI v) :: rest))) : W p l e R s m args below meth c H locs cells slots Q (F0 m pc ls (.ref (ad 0 0) :: rest)) := bn_get F h mm_0 rfl rfl i_Ne 2 (by decide) rfl hl (by rw [← hv]; rfl) hdg kk
theorem p_Ne_tellsAtNextTick (F : bn_F p s m args c cc own (bn_y D ar ad nf)) (h : bn_H (bn_y D ar ad nf) s.heap H locs N) (hl : Cond.fieldLink own index "BridgeNet" "tellsAtNextTick" "Z" ∈ bn_all) {v : Nat} (hv : v < 2) (hdg : decode cc pc = .ok (.putfield index, 3)) (kk : ∀ (H1 : Heap) (locs1 : List Loc), bn_H (bn_y D ar ad nf) s.heap H1 locs1 (sU N 1 0 v) → W p l e R s m args below meth c H1 locs1 cells slots Q (F0 m (pc + 3) ls rest)) : W p l e R s m args below meth c H locs cells slots Q (F0 m pc ls (.int (nI v) :: .ref (ad 0 0) :: rest)) := bn_put F h mm_0 rfl rfl i_Ne t_Ne t_Ne_ok n_Ne 2 (by decide) rfl rfl hl (bn_nz hv) (bn_fz hv) (Nat.le_of_ble_eq_true rfl) (by simp [bn_c, sI, sU, sJ, sO, bn_up]) (o_Ne_tellsAtNextTick ar ad N 0 v) (bn_wf_U h.2.2.2 _ _ (Nat.zero_le _) hv) hdg kk
theorem g_Br_number (F : bn_F p s m args c cc own (bn_y D ar ad nf)) (h : bn_H (bn_y D ar ad nf) s.heap H locs N) (hx : x < 5) (hl : Cond.fieldLink own index "BridgeNet$Bridge" "number" "I" ∈ bn_all) (hdg : decode cc pc = .ok (.getfield index, 3)) (kk : W p l e R s m args below meth c H locs cells slots Q (F0 m (pc + 3) ls (.int (nI x) :: rest))) : W p l e R s m args below meth c H locs cells slots Q (F0 m pc ls (.ref (ad 2 x) :: rest)) := bn_get F h (mm_2 hx) rfl rfl i_Br 0 (by decide) rfl hl rfl hdg kk
theorem g_Br_id (F : bn_F p s m args c cc own (bn_y D ar ad nf)) (h : bn_H (bn_y D ar ad nf) s.heap H locs N) (hx : x < 5) (hl : Cond.fieldLink own index "BridgeNet$Bridge" "id" "I" ∈ bn_all) {v : Int32} (hv : N.1 1 x = v) (hdg : decode cc pc = .ok (.getfield index, 3)) (kk : W p l e R s m args below meth c H locs cells slots Q (F0 m (pc + 3) ls (.int v :: rest))) : W p l e R s m args below meth c H locs cells slots Q (F0 m pc ls (.ref (ad 2 x) :: rest)) := bn_get F h (mm_2 hx) rfl rfl i_Br 1 (by decide) rfl hl (by rw [← hv]; rfl) hdg kk
theorem p_Br_id (F : bn_F p s m args c cc own (bn_y D ar ad nf)) (h : bn_H (bn_y D ar ad nf) s.heap H locs N) (hx : x < 5) (hl : Cond.fieldLink own index "BridgeNet$Bridge" "id" "I" ∈ bn_all) {v : Int32} (hdg : decode cc pc = .ok (.putfield index, 3)) (kk : ∀ (H1 : Heap) (locs1 : List Loc), bn_H (bn_y D ar ad nf) s.heap H1 locs1 (sI N 1 x v) → W p l e R s m args below meth c H1 locs1 cells slots Q (F0 m (pc + 3) ls rest)) : W p l e R s m args below meth c H locs cells slots Q (F0 m pc ls (.int v :: .ref (ad 2 x) :: rest)) := bn_put F h (mm_2 hx) rfl rfl i_Br t_Br t_Br_ok n_Br 1 (by decide) rfl rfl hl rfl rfl (Nat.le_of_ble_eq_true rfl) (by simp [bn_c, sI, sU, sJ, sO, bn_up]) (o_Br_id ar ad N x v) (bn_wf_I h.2.2.2 _ _ _) hdg kk
theorem g_Br_ports (F : bn_F p s m args c cc own (bn_y D ar ad nf)) (h : bn_H (bn_y D ar ad nf) s.heap H locs N) (hx : x < 5) (hl : Cond.fieldLink own index "BridgeNet$Bridge" "ports" "[LBridgeNet$Port;" ∈ bn_all) (hdg : decode cc pc = .ok (.getfield index, 3)) (kk : W p l e R s m args below meth c H locs cells slots Q (F0 m (pc + 3) ls (.ref (ad 3 x) :: rest))) : W p l e R s m args below meth c H locs cells slots Q (F0 m pc ls (.ref (ad 2 x) :: rest)) := bn_get F h (mm_2 hx) rfl rfl i_Br 2 (by decide) rfl hl rfl hdg kk
theorem g_Br_root (F : bn_F p s m args c cc own (bn_y D ar ad nf)) (h : bn_H (bn_y D ar ad nf) s.heap H locs N) (hx : x < 5) (hl : Cond.fieldLink own index "BridgeNet$Bridge" "root" "I" ∈ bn_all) {v : Int32} (hv : N.1 2 x = v) (hdg : decode cc pc = .ok (.getfield index, 3)) (kk : W p l e R s m args below meth c H locs cells slots Q (F0 m (pc + 3) ls (.int v :: rest))) : W p l e R s m args below meth c H locs cells slots Q (F0 m pc ls (.ref (ad 2 x) :: rest)) := bn_get F h (mm_2 hx) rfl rfl i_Br 3 (by decide) rfl hl (by rw [← hv]; rfl) hdg kk
theorem p_Br_root (F : bn_F p s m args c cc own (bn_y D ar ad nf)) (h : bn_H (bn_y D ar ad nf) s.heap H locs N) (hx : x < 5) (hl : Cond.fieldLink own index "BridgeNet$Bridge" "root" "I" ∈ bn_all) {v : Int32} (hdg : decode cc pc = .ok (.putfield index, 3)) (kk : ∀ (H1 : Heap) (locs1 : List Loc), bn_H (bn_y D ar ad nf) s.heap H1 locs1 (sI N 2 x v) → W p l e R s m args below meth c H1 locs1 cells slots Q (F0 m (pc + 3) ls rest)) : W p l e R s m args below meth c H locs cells slots Q (F0 m pc ls (.int v :: .ref (ad 2 x) :: rest)) := bn_put F h (mm_2 hx) rfl rfl i_Br t_Br t_Br_ok n_Br 3 (by decide) rfl rfl hl rfl rfl (Nat.le_of_ble_eq_true rfl) (by simp [bn_c, sI, sU, sJ, sO, bn_up]) (o_Br_root ar ad N x v) (bn_wf_I h.2.2.2 _ _ _) hdg kk
theorem g_Br_cost (F : bn_F p s m args c cc own (bn_y D ar ad nf)) (h : bn_H (bn_y D ar ad nf) s.heap H locs N) (hx : x < 5) (hl : Cond.fieldLink own index "BridgeNet$Bridge" "cost" "I" ∈ bn_all) {v : Int32} (hv : N.1 3 x = v) (hdg : decode cc pc = .ok (.getfield index, 3)) (kk : W p l e R s m args below meth c H locs cells slots Q (F0 m (pc + 3) ls (.int v :: rest))) : W p l e R s m args below meth c H locs cells slots Q (F0 m pc ls (.ref (ad 2 x) :: rest)) := bn_get F h (mm_2 hx) rfl rfl i_Br 4 (by decide) rfl hl (by rw [← hv]; rfl) hdg kk
theorem p_Br_cost (F : bn_F p s m args c cc own (bn_y D ar ad nf)) (h : bn_H (bn_y D ar ad nf) s.heap H locs N) (hx : x < 5) (hl : Cond.fieldLink own index "BridgeNet$Bridge" "cost" "I" ∈ bn_all) {v : Int32} (hdg : decode cc pc = .ok (.putfield index, 3)) (kk : ∀ (H1 : Heap) (locs1 : List Loc), bn_H (bn_y D ar ad nf) s.heap H1 locs1 (sI N 3 x v) → W p l e R s m args below meth c H1 locs1 cells slots Q (F0 m (pc + 3) ls rest)) : W p l e R s m args below meth c H locs cells slots Q (F0 m pc ls (.int v :: .ref (ad 2 x) :: rest)) := bn_put F h (mm_2 hx) rfl rfl i_Br t_Br t_Br_ok n_Br 4 (by decide) rfl rfl hl rfl rfl (Nat.le_of_ble_eq_true rfl) (by simp [bn_c, sI, sU, sJ, sO, bn_up]) (o_Br_cost ar ad N x v) (bn_wf_I h.2.2.2 _ _ _) hdg kk
theorem g_Br_hops (F : bn_F p s m args c cc own (bn_y D ar ad nf)) (h : bn_H (bn_y D ar ad nf) s.heap H locs N) (hx : x < 5) (hl : Cond.fieldLink own index "BridgeNet$Bridge" "hops" "I" ∈ bn_all) {v : Int32} (hv : N.1 4 x = v) (hdg : decode cc pc = .ok (.getfield index, 3)) (kk : W p l e R s m args below meth c H locs cells slots Q (F0 m (pc + 3) ls (.int v :: rest))) : W p l e R s m args below meth c H locs cells slots Q (F0 m pc ls (.ref (ad 2 x) :: rest)) := bn_get F h (mm_2 hx) rfl rfl i_Br 5 (by decide) rfl hl (by rw [← hv]; rfl) hdg kk
theorem p_Br_hops (F : bn_F p s m args c cc own (bn_y D ar ad nf)) (h : bn_H (bn_y D ar ad nf) s.heap H locs N) (hx : x < 5) (hl : Cond.fieldLink own index "BridgeNet$Bridge" "hops" "I" ∈ bn_all) {v : Int32} (hdg : decode cc pc = .ok (.putfield index, 3)) (kk : ∀ (H1 : Heap) (locs1 : List Loc), bn_H (bn_y D ar ad nf) s.heap H1 locs1 (sI N 4 x v) → W p l e R s m args below meth c H1 locs1 cells slots Q (F0 m (pc + 3) ls rest)) : W p l e R s m args below meth c H locs cells slots Q (F0 m pc ls (.int v :: .ref (ad 2 x) :: rest)) := bn_put F h (mm_2 hx) rfl rfl i_Br t_Br t_Br_ok n_Br 5 (by decide) rfl rfl hl rfl rfl (Nat.le_of_ble_eq_true rfl) (by simp [bn_c, sI, sU, sJ, sO, bn_up]) (o_Br_hops ar ad N x v) (bn_wf_I h.2.2.2 _ _ _) hdg kk
theorem g_Br_rootPort_n (F : bn_F p s m args c cc own (bn_y D ar ad nf)) (h : bn_H (bn_y D ar ad nf) s.heap H locs N) (hx : x < 5) (hl : Cond.fieldLink own index "BridgeNet$Bridge" "rootPort" "LBridgeNet$Port;" ∈ bn_all) (ho : N.2.2.2 1 x = none) (hdg : decode cc pc = .ok (.getfield index, 3)) (kk : W p l e R s m args below meth c H locs cells slots Q (F0 m (pc + 3) ls (.null :: rest))) : W p l e R s m args below meth c H locs cells slots Q (F0 m pc ls (.ref (ad 2 x) :: rest)) := bn_get F h (mm_2 hx) rfl rfl i_Br 6 (by decide) rfl hl (show some (va_rf ((N.2.2.2 1 x).map (ad 6))) = some .null by rw [ho]; rfl) hdg kk
theorem g_Br_rootPort_s (F : bn_F p s m args c cc own (bn_y D ar ad nf)) (h : bn_H (bn_y D ar ad nf) s.heap H locs N) (hx : x < 5) (hl : Cond.fieldLink own index "BridgeNet$Bridge" "rootPort" "LBridgeNet$Port;" ∈ bn_all) {y : Nat} (ho : N.2.2.2 1 x = some y) (hdg : decode cc pc = .ok (.getfield index, 3)) (kk : W p l e R s m args below meth c H locs cells slots Q (F0 m (pc + 3) ls (.ref (ad 6 y) :: rest))) : W p l e R s m args below meth c H locs cells slots Q (F0 m pc ls (.ref (ad 2 x) :: rest)) := bn_get F h (mm_2 hx) rfl rfl i_Br 6 (by decide) rfl hl (show some (va_rf ((N.2.2.2 1 x).map (ad 6))) = some (.ref (ad 6 y)) by rw [ho]; rfl) hdg kk
theorem g_Br_rootPort (F : bn_F p s m args c cc own (bn_y D ar ad nf)) (h : bn_H (bn_y D ar ad nf) s.heap H locs N) (hx : x < 5) (hl : Cond.fieldLink own index "BridgeNet$Bridge" "rootPort" "LBridgeNet$Port;" ∈ bn_all) (hdg : decode cc pc = .ok (.getfield index, 3)) (kn : N.2.2.2 1 x = none → W p l e R s m args below meth c H locs cells slots Q (F0 m (pc + 3) ls (.null :: rest))) (ks : ∀ y : Nat, N.2.2.2 1 x = some y → y < 20 → W p l e R s m args below meth c H locs cells slots Q (F0 m (pc + 3) ls (.ref (ad 6 y) :: rest))) : W p l e R s m args below meth c H locs cells slots Q (F0 m pc ls (.ref (ad 2 x) :: rest)) := by
  cases ho : N.2.2.2 1 x with
  | none => exact g_Br_rootPort_n F h hx hl ho hdg (kn ho)
  | some y => exact g_Br_rootPort_s F h hx hl ho hdg (ks y ho (h.2.2.2.2 1 x y ho))
theorem p_Br_rootPort (F : bn_F p s m args c cc own (bn_y D ar ad nf)) (h : bn_H (bn_y D ar ad nf) s.heap H locs N) (hx : x < 5) (hl : Cond.fieldLink own index "BridgeNet$Bridge" "rootPort" "LBridgeNet$Port;" ∈ bn_all) (o : Option Nat) (hv : ∀ y, o = some y → y < 20) (hdg : decode cc pc = .ok (.putfield index, 3)) (kk : ∀ (H1 : Heap) (locs1 : List Loc), bn_H (bn_y D ar ad nf) s.heap H1 locs1 (sO N 1 x o) → W p l e R s m args below meth c H1 locs1 cells slots Q (F0 m (pc + 3) ls rest)) : W p l e R s m args below meth c H locs cells slots Q (F0 m pc ls (va_rf (o.map (ad 6)) :: .ref (ad 2 x) :: rest)) := bn_put F h (mm_2 hx) rfl rfl i_Br t_Br t_Br_ok n_Br 6 (by decide) rfl rfl hl (bn_nq _ _) (bn_fq _ _) (Nat.le_of_ble_eq_true rfl) (by simp [bn_c, sI, sU, sJ, sO, bn_up]) (o_Br_rootPort ar ad N x o) (bn_wf_O h.2.2.2 _ _ hv) hdg kk
theorem g_Br_places (F : bn_F p s m args c cc own (bn_y D ar ad nf)) (h : bn_H (bn_y D ar ad nf) s.heap H locs N) (hx : x < 5) (hl : Cond.fieldLink own index "BridgeNet$Bridge" "places" "[I" ∈ bn_all) (hdg : decode cc pc = .ok (.getfield index, 3)) (kk : W p l e R s m args below meth c H locs cells slots Q (F0 m (pc + 3) ls (.ref (ad 4 x) :: rest))) : W p l e R s m args below meth c H locs cells slots Q (F0 m pc ls (.ref (ad 2 x) :: rest)) := bn_get F h (mm_2 hx) rfl rfl i_Br 7 (by decide) rfl hl rfl hdg kk
theorem g_Br_placeLives (F : bn_F p s m args c cc own (bn_y D ar ad nf)) (h : bn_H (bn_y D ar ad nf) s.heap H locs N) (hx : x < 5) (hl : Cond.fieldLink own index "BridgeNet$Bridge" "placeLives" "[I" ∈ bn_all) (hdg : decode cc pc = .ok (.getfield index, 3)) (kk : W p l e R s m args below meth c H locs cells slots Q (F0 m (pc + 3) ls (.ref (ad 5 x) :: rest))) : W p l e R s m args below meth c H locs cells slots Q (F0 m pc ls (.ref (ad 2 x) :: rest)) := bn_get F h (mm_2 hx) rfl rfl i_Br 8 (by decide) rfl hl rfl hdg kk
theorem g_Po_owner (F : bn_F p s m args c cc own (bn_y D ar ad nf)) (h : bn_H (bn_y D ar ad nf) s.heap H locs N) (hx : x < 20) (hl : Cond.fieldLink own index "BridgeNet$Port" "owner" "LBridgeNet$Bridge;" ∈ bn_all) (hdg : decode cc pc = .ok (.getfield index, 3)) (kk : W p l e R s m args below meth c H locs cells slots Q (F0 m (pc + 3) ls (.ref (ad 2 (x / 4)) :: rest))) : W p l e R s m args below meth c H locs cells slots Q (F0 m pc ls (.ref (ad 6 x) :: rest)) := bn_get F h (mm_6 hx) rfl rfl i_Po 0 (by decide) rfl hl rfl hdg kk
theorem g_Po_number (F : bn_F p s m args c cc own (bn_y D ar ad nf)) (h : bn_H (bn_y D ar ad nf) s.heap H locs N) (hx : x < 20) (hl : Cond.fieldLink own index "BridgeNet$Port" "number" "I" ∈ bn_all) (hdg : decode cc pc = .ok (.getfield index, 3)) (kk : W p l e R s m args below meth c H locs cells slots Q (F0 m (pc + 3) ls (.int (nI (x % 4)) :: rest))) : W p l e R s m args below meth c H locs cells slots Q (F0 m pc ls (.ref (ad 6 x) :: rest)) := bn_get F h (mm_6 hx) rfl rfl i_Po 1 (by decide) rfl hl rfl hdg kk
theorem g_Po_line (F : bn_F p s m args c cc own (bn_y D ar ad nf)) (h : bn_H (bn_y D ar ad nf) s.heap H locs N) (hx : x < 20) (hl : Cond.fieldLink own index "BridgeNet$Port" "line" "LBridgeNet$Line;" ∈ bn_all) (hdg : decode cc pc = .ok (.getfield index, 3)) (kk : W p l e R s m args below meth c H locs cells slots Q (F0 m (pc + 3) ls (.ref (ad 7 x) :: rest))) : W p l e R s m args below meth c H locs cells slots Q (F0 m pc ls (.ref (ad 6 x) :: rest)) := bn_get F h (mm_6 hx) rfl rfl i_Po 2 (by decide) rfl hl rfl hdg kk
theorem g_Po_cost (F : bn_F p s m args c cc own (bn_y D ar ad nf)) (h : bn_H (bn_y D ar ad nf) s.heap H locs N) (hx : x < 20) (hl : Cond.fieldLink own index "BridgeNet$Port" "cost" "I" ∈ bn_all) {v : Int32} (hv : N.1 5 x = v) (hdg : decode cc pc = .ok (.getfield index, 3)) (kk : W p l e R s m args below meth c H locs cells slots Q (F0 m (pc + 3) ls (.int v :: rest))) : W p l e R s m args below meth c H locs cells slots Q (F0 m pc ls (.ref (ad 6 x) :: rest)) := bn_get F h (mm_6 hx) rfl rfl i_Po 3 (by decide) rfl hl (by rw [← hv]; rfl) hdg kk
theorem p_Po_cost (F : bn_F p s m args c cc own (bn_y D ar ad nf)) (h : bn_H (bn_y D ar ad nf) s.heap H locs N) (hx : x < 20) (hl : Cond.fieldLink own index "BridgeNet$Port" "cost" "I" ∈ bn_all) {v : Int32} (hdg : decode cc pc = .ok (.putfield index, 3)) (kk : ∀ (H1 : Heap) (locs1 : List Loc), bn_H (bn_y D ar ad nf) s.heap H1 locs1 (sI N 5 x v) → W p l e R s m args below meth c H1 locs1 cells slots Q (F0 m (pc + 3) ls rest)) : W p l e R s m args below meth c H locs cells slots Q (F0 m pc ls (.int v :: .ref (ad 6 x) :: rest)) := bn_put F h (mm_6 hx) rfl rfl i_Po t_Po t_Po_ok n_Po 3 (by decide) rfl rfl hl rfl rfl (Nat.le_of_ble_eq_true rfl) (by simp [bn_c, sI, sU, sJ, sO, bn_up]) (o_Po_cost ar ad N x v) (bn_wf_I h.2.2.2 _ _ _) hdg kk
theorem g_Po_vlans (F : bn_F p s m args c cc own (bn_y D ar ad nf)) (h : bn_H (bn_y D ar ad nf) s.heap H locs N) (hx : x < 20) (hl : Cond.fieldLink own index "BridgeNet$Port" "vlans" "I" ∈ bn_all) {v : Int32} (hv : N.1 6 x = v) (hdg : decode cc pc = .ok (.getfield index, 3)) (kk : W p l e R s m args below meth c H locs cells slots Q (F0 m (pc + 3) ls (.int v :: rest))) : W p l e R s m args below meth c H locs cells slots Q (F0 m pc ls (.ref (ad 6 x) :: rest)) := bn_get F h (mm_6 hx) rfl rfl i_Po 4 (by decide) rfl hl (by rw [← hv]; rfl) hdg kk
theorem p_Po_vlans (F : bn_F p s m args c cc own (bn_y D ar ad nf)) (h : bn_H (bn_y D ar ad nf) s.heap H locs N) (hx : x < 20) (hl : Cond.fieldLink own index "BridgeNet$Port" "vlans" "I" ∈ bn_all) {v : Int32} (hdg : decode cc pc = .ok (.putfield index, 3)) (kk : ∀ (H1 : Heap) (locs1 : List Loc), bn_H (bn_y D ar ad nf) s.heap H1 locs1 (sI N 6 x v) → W p l e R s m args below meth c H1 locs1 cells slots Q (F0 m (pc + 3) ls rest)) : W p l e R s m args below meth c H locs cells slots Q (F0 m pc ls (.int v :: .ref (ad 6 x) :: rest)) := bn_put F h (mm_6 hx) rfl rfl i_Po t_Po t_Po_ok n_Po 4 (by decide) rfl rfl hl rfl rfl (Nat.le_of_ble_eq_true rfl) (by simp [bn_c, sI, sU, sJ, sO, bn_up]) (o_Po_vlans ar ad N x v) (bn_wf_I h.2.2.2 _ _ _) hdg kk
theorem g_Po_peer_n (F : bn_F p s m args c cc own (bn_y D ar ad nf)) (h : bn_H (bn_y D ar ad nf) s.heap H locs N) (hx : x < 20) (hl : Cond.fieldLink own index "BridgeNet$Port" "peer" "LBridgeNet$Port;" ∈ bn_all) (ho : N.2.2.2 2 x = none) (hdg : decode cc pc = .ok (.getfield index, 3)) (kk : W p l e R s m args below meth c H locs cells slots Q (F0 m (pc + 3) ls (.null :: rest))) : W p l e R s m args below meth c H locs cells slots Q (F0 m pc ls (.ref (ad 6 x) :: rest)) := bn_get F h (mm_6 hx) rfl rfl i_Po 5 (by decide) rfl hl (show some (va_rf ((N.2.2.2 2 x).map (ad 6))) = some .null by rw [ho]; rfl) hdg kk
theorem g_Po_peer_s (F : bn_F p s m args c cc own (bn_y D ar ad nf)) (h : bn_H (bn_y D ar ad nf) s.heap H locs N) (hx : x < 20) (hl : Cond.fieldLink own index "BridgeNet$Port" "peer" "LBridgeNet$Port;" ∈ bn_all) {y : Nat} (ho : N.2.2.2 2 x = some y) (hdg : decode cc pc = .ok (.getfield index, 3)) (kk : W p l e R s m args below meth c H locs cells slots Q (F0 m (pc + 3) ls (.ref (ad 6 y) :: rest))) : W p l e R s m args below meth c H locs cells slots Q (F0 m pc ls (.ref (ad 6 x) :: rest)) := bn_get F h (mm_6 hx) rfl rfl i_Po 5 (by decide) rfl hl (show some (va_rf ((N.2.2.2 2 x).map (ad 6))) = some (.ref (ad 6 y)) by rw [ho]; rfl) hdg kk
theorem g_Po_peer (F : bn_F p s m args c cc own (bn_y D ar ad nf)) (h : bn_H (bn_y D ar ad nf) s.heap H locs N) (hx : x < 20) (hl : Cond.fieldLink own index "BridgeNet$Port" "peer" "LBridgeNet$Port;" ∈ bn_all) (hdg : decode cc pc = .ok (.getfield index, 3)) (kn : N.2.2.2 2 x = none → W p l e R s m args below meth c H locs cells slots Q (F0 m (pc + 3) ls (.null :: rest))) (ks : ∀ y : Nat, N.2.2.2 2 x = some y → y < 20 → W p l e R s m args below meth c H locs cells slots Q (F0 m (pc + 3) ls (.ref (ad 6 y) :: rest))) : W p l e R s m args below meth c H locs cells slots Q (F0 m pc ls (.ref (ad 6 x) :: rest)) := by
  cases ho : N.2.2.2 2 x with
  | none => exact g_Po_peer_n F h hx hl ho hdg (kn ho)
  | some y => exact g_Po_peer_s F h hx hl ho hdg (ks y ho (h.2.2.2.2 2 x y ho))
theorem p_Po_peer (F : bn_F p s m args c cc own (bn_y D ar ad nf)) (h : bn_H (bn_y D ar ad nf) s.heap H locs N) (hx : x < 20) (hl : Cond.fieldLink own index "BridgeNet$Port" "peer" "LBridgeNet$Port;" ∈ bn_all) (o : Option Nat) (hv : ∀ y, o = some y → y < 20) (hdg : decode cc pc = .ok (.putfield index, 3)) (kk : ∀ (H1 : Heap) (locs1 : List Loc), bn_H (bn_y D ar ad nf) s.heap H1 locs1 (sO N 2 x o) → W p l e R s m args below meth c H1 locs1 cells slots Q (F0 m (pc + 3) ls rest)) : W p l e R s m args below meth c H locs cells slots Q (F0 m pc ls (va_rf (o.map (ad 6)) :: .ref (ad 6 x) :: rest)) := bn_put F h (mm_6 hx) rfl rfl i_Po t_Po t_Po_ok n_Po 5 (by decide) rfl rfl hl (bn_nq _ _) (bn_fq _ _) (Nat.le_of_ble_eq_true rfl) (by simp [bn_c, sI, sU, sJ, sO, bn_up]) (o_Po_peer ar ad N x o) (bn_wf_O h.2.2.2 _ _ hv) hdg kk
theorem g_Po_station_n (F : bn_F p s m args c cc own (bn_y D ar ad nf)) (h : bn_H (bn_y D ar ad nf) s.heap H locs N) (hx : x < 20) (hl : Cond.fieldLink own index "BridgeNet$Port" "station" "LBridgeNet$Station;" ∈ bn_all) (ho : N.2.2.2 3 x = none) (hdg : decode cc pc = .ok (.getfield index, 3)) (kk : W p l e R s m args below meth c H locs cells slots Q (F0 m (pc + 3) ls (.null :: rest))) : W p l e R s m args below meth c H locs cells slots Q (F0 m pc ls (.ref (ad 6 x) :: rest)) := bn_get F h (mm_6 hx) rfl rfl i_Po 6 (by decide) rfl hl (show some (va_rf ((N.2.2.2 3 x).map (ad 11))) = some .null by rw [ho]; rfl) hdg kk
theorem g_Po_station_s (F : bn_F p s m args c cc own (bn_y D ar ad nf)) (h : bn_H (bn_y D ar ad nf) s.heap H locs N) (hx : x < 20) (hl : Cond.fieldLink own index "BridgeNet$Port" "station" "LBridgeNet$Station;" ∈ bn_all) {y : Nat} (ho : N.2.2.2 3 x = some y) (hdg : decode cc pc = .ok (.getfield index, 3)) (kk : W p l e R s m args below meth c H locs cells slots Q (F0 m (pc + 3) ls (.ref (ad 11 y) :: rest))) : W p l e R s m args below meth c H locs cells slots Q (F0 m pc ls (.ref (ad 6 x) :: rest)) := bn_get F h (mm_6 hx) rfl rfl i_Po 6 (by decide) rfl hl (show some (va_rf ((N.2.2.2 3 x).map (ad 11))) = some (.ref (ad 11 y)) by rw [ho]; rfl) hdg kk
theorem g_Po_station (F : bn_F p s m args c cc own (bn_y D ar ad nf)) (h : bn_H (bn_y D ar ad nf) s.heap H locs N) (hx : x < 20) (hl : Cond.fieldLink own index "BridgeNet$Port" "station" "LBridgeNet$Station;" ∈ bn_all) (hdg : decode cc pc = .ok (.getfield index, 3)) (kn : N.2.2.2 3 x = none → W p l e R s m args below meth c H locs cells slots Q (F0 m (pc + 3) ls (.null :: rest))) (ks : ∀ y : Nat, N.2.2.2 3 x = some y → y < 8 → W p l e R s m args below meth c H locs cells slots Q (F0 m (pc + 3) ls (.ref (ad 11 y) :: rest))) : W p l e R s m args below meth c H locs cells slots Q (F0 m pc ls (.ref (ad 6 x) :: rest)) := by
  cases ho : N.2.2.2 3 x with
  | none => exact g_Po_station_n F h hx hl ho hdg (kn ho)
  | some y => exact g_Po_station_s F h hx hl ho hdg (ks y ho (h.2.2.2.2 3 x y ho))
theorem p_Po_station (F : bn_F p s m args c cc own (bn_y D ar ad nf)) (h : bn_H (bn_y D ar ad nf) s.heap H locs N) (hx : x < 20) (hl : Cond.fieldLink own index "BridgeNet$Port" "station" "LBridgeNet$Station;" ∈ bn_all) (o : Option Nat) (hv : ∀ y, o = some y → y < 8) (hdg : decode cc pc = .ok (.putfield index, 3)) (kk : ∀ (H1 : Heap) (locs1 : List Loc), bn_H (bn_y D ar ad nf) s.heap H1 locs1 (sO N 3 x o) → W p l e R s m args below meth c H1 locs1 cells slots Q (F0 m (pc + 3) ls rest)) : W p l e R s m args below meth c H locs cells slots Q (F0 m pc ls (va_rf (o.map (ad 11)) :: .ref (ad 6 x) :: rest)) := bn_put F h (mm_6 hx) rfl rfl i_Po t_Po t_Po_ok n_Po 6 (by decide) rfl rfl hl (bn_nq _ _) (bn_fq _ _) (Nat.le_of_ble_eq_true rfl) (by simp [bn_c, sI, sU, sJ, sO, bn_up]) (o_Po_station ar ad N x o) (bn_wf_O h.2.2.2 _ _ hv) hdg kk
theorem g_Po_hasInfo (F : bn_F p s m args c cc own (bn_y D ar ad nf)) (h : bn_H (bn_y D ar ad nf) s.heap H locs N) (hx : x < 20) (hl : Cond.fieldLink own index "BridgeNet$Port" "hasInfo" "Z" ∈ bn_all) {v : Nat} (hv : N.2.1 2 x = v) (hdg : decode cc pc = .ok (.getfield index, 3)) (kk : W p l e R s m args below meth c H locs cells slots Q (F0 m (pc + 3) ls (.int (nI v) :: rest))) : W p l e R s m args below meth c H locs cells slots Q (F0 m pc ls (.ref (ad 6 x) :: rest)) := bn_get F h (mm_6 hx) rfl rfl i_Po 7 (by decide) rfl hl (by rw [← hv]; rfl) hdg kk
theorem p_Po_hasInfo (F : bn_F p s m args c cc own (bn_y D ar ad nf)) (h : bn_H (bn_y D ar ad nf) s.heap H locs N) (hx : x < 20) (hl : Cond.fieldLink own index "BridgeNet$Port" "hasInfo" "Z" ∈ bn_all) {v : Nat} (hv : v < 2) (hdg : decode cc pc = .ok (.putfield index, 3)) (kk : ∀ (H1 : Heap) (locs1 : List Loc), bn_H (bn_y D ar ad nf) s.heap H1 locs1 (sU N 2 x v) → W p l e R s m args below meth c H1 locs1 cells slots Q (F0 m (pc + 3) ls rest)) : W p l e R s m args below meth c H locs cells slots Q (F0 m pc ls (.int (nI v) :: .ref (ad 6 x) :: rest)) := bn_put F h (mm_6 hx) rfl rfl i_Po t_Po t_Po_ok n_Po 7 (by decide) rfl rfl hl (bn_nz hv) (bn_fz hv) (Nat.le_of_ble_eq_true rfl) (by simp [bn_c, sI, sU, sJ, sO, bn_up]) (o_Po_hasInfo ar ad N x v) (bn_wf_U h.2.2.2 _ _ (Nat.zero_le _) hv) hdg kk
theorem g_Po_info (F : bn_F p s m args c cc own (bn_y D ar ad nf)) (h : bn_H (bn_y D ar ad nf) s.heap H locs N) (hx : x < 20) (hl : Cond.fieldLink own index "BridgeNet$Port" "info" "J" ∈ bn_all) {v : Int64} (hv : N.2.2.1 1 x = v) (hdg : decode cc pc = .ok (.getfield index, 3)) (kk : W p l e R s m args below meth c H locs cells slots Q (F0 m (pc + 3) ls (.long v :: rest))) : W p l e R s m args below meth c H locs cells slots Q (F0 m pc ls (.ref (ad 6 x) :: rest)) := bn_get F h (mm_6 hx) rfl rfl i_Po 8 (by decide) rfl hl (by rw [← hv]; rfl) hdg kk
theorem p_Po_info (F : bn_F p s m args c cc own (bn_y D ar ad nf)) (h : bn_H (bn_y D ar ad nf) s.heap H locs N) (hx : x < 20) (hl : Cond.fieldLink own index "BridgeNet$Port" "info" "J" ∈ bn_all) {v : Int64} (hdg : decode cc pc = .ok (.putfield index, 3)) (kk : ∀ (H1 : Heap) (locs1 : List Loc), bn_H (bn_y D ar ad nf) s.heap H1 locs1 (sJ N 1 x v) → W p l e R s m args below meth c H1 locs1 cells slots Q (F0 m (pc + 3) ls rest)) : W p l e R s m args below meth c H locs cells slots Q (F0 m pc ls (.long v :: .ref (ad 6 x) :: rest)) := bn_put F h (mm_6 hx) rfl rfl i_Po t_Po t_Po_ok n_Po 8 (by decide) rfl rfl hl rfl rfl (Nat.le_of_ble_eq_true rfl) (by simp [bn_c, sI, sU, sJ, sO, bn_up]) (o_Po_info ar ad N x v) (bn_wf_J h.2.2.2 _ _ _) hdg kk
theorem g_Po_infoHops (F : bn_F p s m args c cc own (bn_y D ar ad nf)) (h : bn_H (bn_y D ar ad nf) s.heap H locs N) (hx : x < 20) (hl : Cond.fieldLink own index "BridgeNet$Port" "infoHops" "I" ∈ bn_all) {v : Int32} (hv : N.1 7 x = v) (hdg : decode cc pc = .ok (.getfield index, 3)) (kk : W p l e R s m args below meth c H locs cells slots Q (F0 m (pc + 3) ls (.int v :: rest))) : W p l e R s m args below meth c H locs cells slots Q (F0 m pc ls (.ref (ad 6 x) :: rest)) := bn_get F h (mm_6 hx) rfl rfl i_Po 9 (by decide) rfl hl (by rw [← hv]; rfl) hdg kk
theorem p_Po_infoHops (F : bn_F p s m args c cc own (bn_y D ar ad nf)) (h : bn_H (bn_y D ar ad nf) s.heap H locs N) (hx : x < 20) (hl : Cond.fieldLink own index "BridgeNet$Port" "infoHops" "I" ∈ bn_all) {v : Int32} (hdg : decode cc pc = .ok (.putfield index, 3)) (kk : ∀ (H1 : Heap) (locs1 : List Loc), bn_H (bn_y D ar ad nf) s.heap H1 locs1 (sI N 7 x v) → W p l e R s m args below meth c H1 locs1 cells slots Q (F0 m (pc + 3) ls rest)) : W p l e R s m args below meth c H locs cells slots Q (F0 m pc ls (.int v :: .ref (ad 6 x) :: rest)) := bn_put F h (mm_6 hx) rfl rfl i_Po t_Po t_Po_ok n_Po 9 (by decide) rfl rfl hl rfl rfl (Nat.le_of_ble_eq_true rfl) (by simp [bn_c, sI, sU, sJ, sO, bn_up]) (o_Po_infoHops ar ad N x v) (bn_wf_I h.2.2.2 _ _ _) hdg kk
theorem g_Po_infoLife (F : bn_F p s m args c cc own (bn_y D ar ad nf)) (h : bn_H (bn_y D ar ad nf) s.heap H locs N) (hx : x < 20) (hl : Cond.fieldLink own index "BridgeNet$Port" "infoLife" "I" ∈ bn_all) {v : Int32} (hv : N.1 8 x = v) (hdg : decode cc pc = .ok (.getfield index, 3)) (kk : W p l e R s m args below meth c H locs cells slots Q (F0 m (pc + 3) ls (.int v :: rest))) : W p l e R s m args below meth c H locs cells slots Q (F0 m pc ls (.ref (ad 6 x) :: rest)) := bn_get F h (mm_6 hx) rfl rfl i_Po 10 (by decide) rfl hl (by rw [← hv]; rfl) hdg kk
theorem p_Po_infoLife (F : bn_F p s m args c cc own (bn_y D ar ad nf)) (h : bn_H (bn_y D ar ad nf) s.heap H locs N) (hx : x < 20) (hl : Cond.fieldLink own index "BridgeNet$Port" "infoLife" "I" ∈ bn_all) {v : Int32} (hdg : decode cc pc = .ok (.putfield index, 3)) (kk : ∀ (H1 : Heap) (locs1 : List Loc), bn_H (bn_y D ar ad nf) s.heap H1 locs1 (sI N 8 x v) → W p l e R s m args below meth c H1 locs1 cells slots Q (F0 m (pc + 3) ls rest)) : W p l e R s m args below meth c H locs cells slots Q (F0 m pc ls (.int v :: .ref (ad 6 x) :: rest)) := bn_put F h (mm_6 hx) rfl rfl i_Po t_Po t_Po_ok n_Po 10 (by decide) rfl rfl hl rfl rfl (Nat.le_of_ble_eq_true rfl) (by simp [bn_c, sI, sU, sJ, sO, bn_up]) (o_Po_infoLife ar ad N x v) (bn_wf_I h.2.2.2 _ _ _) hdg kk
theorem g_Po_role (F : bn_F p s m args c cc own (bn_y D ar ad nf)) (h : bn_H (bn_y D ar ad nf) s.heap H locs N) (hx : x < 20) (hl : Cond.fieldLink own index "BridgeNet$Port" "role" "I" ∈ bn_all) {v : Int32} (hv : N.1 9 x = v) (hdg : decode cc pc = .ok (.getfield index, 3)) (kk : W p l e R s m args below meth c H locs cells slots Q (F0 m (pc + 3) ls (.int v :: rest))) : W p l e R s m args below meth c H locs cells slots Q (F0 m pc ls (.ref (ad 6 x) :: rest)) := bn_get F h (mm_6 hx) rfl rfl i_Po 11 (by decide) rfl hl (by rw [← hv]; rfl) hdg kk
theorem p_Po_role (F : bn_F p s m args c cc own (bn_y D ar ad nf)) (h : bn_H (bn_y D ar ad nf) s.heap H locs N) (hx : x < 20) (hl : Cond.fieldLink own index "BridgeNet$Port" "role" "I" ∈ bn_all) {v : Int32} (hdg : decode cc pc = .ok (.putfield index, 3)) (kk : ∀ (H1 : Heap) (locs1 : List Loc), bn_H (bn_y D ar ad nf) s.heap H1 locs1 (sI N 9 x v) → W p l e R s m args below meth c H1 locs1 cells slots Q (F0 m (pc + 3) ls rest)) : W p l e R s m args below meth c H locs cells slots Q (F0 m pc ls (.int v :: .ref (ad 6 x) :: rest)) := bn_put F h (mm_6 hx) rfl rfl i_Po t_Po t_Po_ok n_Po 11 (by decide) rfl rfl hl rfl rfl (Nat.le_of_ble_eq_true rfl) (by simp [bn_c, sI, sU, sJ, sO, bn_up]) (o_Po_role ar ad N x v) (bn_wf_I h.2.2.2 _ _ _) hdg kk
theorem g_Po_state (F : bn_F p s m args c cc own (bn_y D ar ad nf)) (h : bn_H (bn_y D ar ad nf) s.heap H locs N) (hx : x < 20) (hl : Cond.fieldLink own index "BridgeNet$Port" "state" "I" ∈ bn_all) {v : Int32} (hv : N.1 10 x = v) (hdg : decode cc pc = .ok (.getfield index, 3)) (kk : W p l e R s m args below meth c H locs cells slots Q (F0 m (pc + 3) ls (.int v :: rest))) : W p l e R s m args below meth c H locs cells slots Q (F0 m pc ls (.ref (ad 6 x) :: rest)) := bn_get F h (mm_6 hx) rfl rfl i_Po 12 (by decide) rfl hl (by rw [← hv]; rfl) hdg kk
theorem p_Po_state (F : bn_F p s m args c cc own (bn_y D ar ad nf)) (h : bn_H (bn_y D ar ad nf) s.heap H locs N) (hx : x < 20) (hl : Cond.fieldLink own index "BridgeNet$Port" "state" "I" ∈ bn_all) {v : Int32} (hdg : decode cc pc = .ok (.putfield index, 3)) (kk : ∀ (H1 : Heap) (locs1 : List Loc), bn_H (bn_y D ar ad nf) s.heap H1 locs1 (sI N 10 x v) → W p l e R s m args below meth c H1 locs1 cells slots Q (F0 m (pc + 3) ls rest)) : W p l e R s m args below meth c H locs cells slots Q (F0 m pc ls (.int v :: .ref (ad 6 x) :: rest)) := bn_put F h (mm_6 hx) rfl rfl i_Po t_Po t_Po_ok n_Po 12 (by decide) rfl rfl hl rfl rfl (Nat.le_of_ble_eq_true rfl) (by simp [bn_c, sI, sU, sJ, sO, bn_up]) (o_Po_state ar ad N x v) (bn_wf_I h.2.2.2 _ _ _) hdg kk
theorem g_Po_proposing (F : bn_F p s m args c cc own (bn_y D ar ad nf)) (h : bn_H (bn_y D ar ad nf) s.heap H locs N) (hx : x < 20) (hl : Cond.fieldLink own index "BridgeNet$Port" "proposing" "Z" ∈ bn_all) {v : Nat} (hv : N.2.1 3 x = v) (hdg : decode cc pc = .ok (.getfield index, 3)) (kk : W p l e R s m args below meth c H locs cells slots Q (F0 m (pc + 3) ls (.int (nI v) :: rest))) : W p l e R s m args below meth c H locs cells slots Q (F0 m pc ls (.ref (ad 6 x) :: rest)) := bn_get F h (mm_6 hx) rfl rfl i_Po 13 (by decide) rfl hl (by rw [← hv]; rfl) hdg kk
theorem p_Po_proposing (F : bn_F p s m args c cc own (bn_y D ar ad nf)) (h : bn_H (bn_y D ar ad nf) s.heap H locs N) (hx : x < 20) (hl : Cond.fieldLink own index "BridgeNet$Port" "proposing" "Z" ∈ bn_all) {v : Nat} (hv : v < 2) (hdg : decode cc pc = .ok (.putfield index, 3)) (kk : ∀ (H1 : Heap) (locs1 : List Loc), bn_H (bn_y D ar ad nf) s.heap H1 locs1 (sU N 3 x v) → W p l e R s m args below meth c H1 locs1 cells slots Q (F0 m (pc + 3) ls rest)) : W p l e R s m args below meth c H locs cells slots Q (F0 m pc ls (.int (nI v) :: .ref (ad 6 x) :: rest)) := bn_put F h (mm_6 hx) rfl rfl i_Po t_Po t_Po_ok n_Po 13 (by decide) rfl rfl hl (bn_nz hv) (bn_fz hv) (Nat.le_of_ble_eq_true rfl) (by simp [bn_c, sI, sU, sJ, sO, bn_up]) (o_Po_proposing ar ad N x v) (bn_wf_U h.2.2.2 _ _ (Nat.zero_le _) hv) hdg kk
theorem g_Po_agreed (F : bn_F p s m args c cc own (bn_y D ar ad nf)) (h : bn_H (bn_y D ar ad nf) s.heap H locs N) (hx : x < 20) (hl : Cond.fieldLink own index "BridgeNet$Port" "agreed" "Z" ∈ bn_all) {v : Nat} (hv : N.2.1 4 x = v) (hdg : decode cc pc = .ok (.getfield index, 3)) (kk : W p l e R s m args below meth c H locs cells slots Q (F0 m (pc + 3) ls (.int (nI v) :: rest))) : W p l e R s m args below meth c H locs cells slots Q (F0 m pc ls (.ref (ad 6 x) :: rest)) := bn_get F h (mm_6 hx) rfl rfl i_Po 14 (by decide) rfl hl (by rw [← hv]; rfl) hdg kk
theorem p_Po_agreed (F : bn_F p s m args c cc own (bn_y D ar ad nf)) (h : bn_H (bn_y D ar ad nf) s.heap H locs N) (hx : x < 20) (hl : Cond.fieldLink own index "BridgeNet$Port" "agreed" "Z" ∈ bn_all) {v : Nat} (hv : v < 2) (hdg : decode cc pc = .ok (.putfield index, 3)) (kk : ∀ (H1 : Heap) (locs1 : List Loc), bn_H (bn_y D ar ad nf) s.heap H1 locs1 (sU N 4 x v) → W p l e R s m args below meth c H1 locs1 cells slots Q (F0 m (pc + 3) ls rest)) : W p l e R s m args below meth c H locs cells slots Q (F0 m pc ls (.int (nI v) :: .ref (ad 6 x) :: rest)) := bn_put F h (mm_6 hx) rfl rfl i_Po t_Po t_Po_ok n_Po 14 (by decide) rfl rfl hl (bn_nz hv) (bn_fz hv) (Nat.le_of_ble_eq_true rfl) (by simp [bn_c, sI, sU, sJ, sO, bn_up]) (o_Po_agreed ar ad N x v) (bn_wf_U h.2.2.2 _ _ (Nat.zero_le _) hv) hdg kk
theorem g_Po_waits (F : bn_F p s m args c cc own (bn_y D ar ad nf)) (h : bn_H (bn_y D ar ad nf) s.heap H locs N) (hx : x < 20) (hl : Cond.fieldLink own index "BridgeNet$Port" "waits" "I" ∈ bn_all) {v : Int32} (hv : N.1 11 x = v) (hdg : decode cc pc = .ok (.getfield index, 3)) (kk : W p l e R s m args below meth c H locs cells slots Q (F0 m (pc + 3) ls (.int v :: rest))) : W p l e R s m args below meth c H locs cells slots Q (F0 m pc ls (.ref (ad 6 x) :: rest)) := bn_get F h (mm_6 hx) rfl rfl i_Po 15 (by decide) rfl hl (by rw [← hv]; rfl) hdg kk
theorem p_Po_waits (F : bn_F p s m args c cc own (bn_y D ar ad nf)) (h : bn_H (bn_y D ar ad nf) s.heap H locs N) (hx : x < 20) (hl : Cond.fieldLink own index "BridgeNet$Port" "waits" "I" ∈ bn_all) {v : Int32} (hdg : decode cc pc = .ok (.putfield index, 3)) (kk : ∀ (H1 : Heap) (locs1 : List Loc), bn_H (bn_y D ar ad nf) s.heap H1 locs1 (sI N 11 x v) → W p l e R s m args below meth c H1 locs1 cells slots Q (F0 m (pc + 3) ls rest)) : W p l e R s m args below meth c H locs cells slots Q (F0 m pc ls (.int v :: .ref (ad 6 x) :: rest)) := bn_put F h (mm_6 hx) rfl rfl i_Po t_Po t_Po_ok n_Po 15 (by decide) rfl rfl hl rfl rfl (Nat.le_of_ble_eq_true rfl) (by simp [bn_c, sI, sU, sJ, sO, bn_up]) (o_Po_waits ar ad N x v) (bn_wf_I h.2.2.2 _ _ _) hdg kk
theorem g_Li_ring (F : bn_F p s m args c cc own (bn_y D ar ad nf)) (h : bn_H (bn_y D ar ad nf) s.heap H locs N) (hx : x < 20) (hl : Cond.fieldLink own index "BridgeNet$Line" "ring" "[LBridgeNet$Message;" ∈ bn_all) (hdg : decode cc pc = .ok (.getfield index, 3)) (kk : W p l e R s m args below meth c H locs cells slots Q (F0 m (pc + 3) ls (.ref (ad 8 x) :: rest))) : W p l e R s m args below meth c H locs cells slots Q (F0 m pc ls (.ref (ad 7 x) :: rest)) := bn_get F h (mm_7 hx) rfl rfl i_Li 0 (by decide) rfl hl rfl hdg kk
theorem g_Li_first (F : bn_F p s m args c cc own (bn_y D ar ad nf)) (h : bn_H (bn_y D ar ad nf) s.heap H locs N) (hx : x < 20) (hl : Cond.fieldLink own index "BridgeNet$Line" "first" "I" ∈ bn_all) {v : Nat} (hv : N.2.1 6 x = v) (hdg : decode cc pc = .ok (.getfield index, 3)) (kk : W p l e R s m args below meth c H locs cells slots Q (F0 m (pc + 3) ls (.int (nI v) :: rest))) : W p l e R s m args below meth c H locs cells slots Q (F0 m pc ls (.ref (ad 7 x) :: rest)) := bn_get F h (mm_7 hx) rfl rfl i_Li 1 (by decide) rfl hl (by rw [← hv]; rfl) hdg kk
theorem p_Li_first (F : bn_F p s m args c cc own (bn_y D ar ad nf)) (h : bn_H (bn_y D ar ad nf) s.heap H locs N) (hx : x < 20) (hl : Cond.fieldLink own index "BridgeNet$Line" "first" "I" ∈ bn_all) {v : Nat} (hv : v < 12) (hdg : decode cc pc = .ok (.putfield index, 3)) (kk : ∀ (H1 : Heap) (locs1 : List Loc), bn_H (bn_y D ar ad nf) s.heap H1 locs1 (sU N 6 x v) → W p l e R s m args below meth c H1 locs1 cells slots Q (F0 m (pc + 3) ls rest)) : W p l e R s m args below meth c H locs cells slots Q (F0 m pc ls (.int (nI v) :: .ref (ad 7 x) :: rest)) := bn_put F h (mm_7 hx) rfl rfl i_Li t_Li t_Li_ok n_Li 1 (by decide) rfl rfl hl rfl rfl (Nat.le_of_ble_eq_true rfl) (by simp [bn_c, sI, sU, sJ, sO, bn_up]) (o_Li_first ar ad N x v) (bn_wf_U h.2.2.2 _ _ (Nat.zero_le _) hv) hdg kk
theorem g_Li_count (F : bn_F p s m args c cc own (bn_y D ar ad nf)) (h : bn_H (bn_y D ar ad nf) s.heap H locs N) (hx : x < 20) (hl : Cond.fieldLink own index "BridgeNet$Line" "count" "I" ∈ bn_all) {v : Nat} (hv : N.2.1 7 x = v) (hdg : decode cc pc = .ok (.getfield index, 3)) (kk : W p l e R s m args below meth c H locs cells slots Q (F0 m (pc + 3) ls (.int (nI v) :: rest))) : W p l e R s m args below meth c H locs cells slots Q (F0 m pc ls (.ref (ad 7 x) :: rest)) := bn_get F h (mm_7 hx) rfl rfl i_Li 2 (by decide) rfl hl (by rw [← hv]; rfl) hdg kk
theorem p_Li_count (F : bn_F p s m args c cc own (bn_y D ar ad nf)) (h : bn_H (bn_y D ar ad nf) s.heap H locs N) (hx : x < 20) (hl : Cond.fieldLink own index "BridgeNet$Line" "count" "I" ∈ bn_all) {v : Nat} (hv : v < 13) (hdg : decode cc pc = .ok (.putfield index, 3)) (kk : ∀ (H1 : Heap) (locs1 : List Loc), bn_H (bn_y D ar ad nf) s.heap H1 locs1 (sU N 7 x v) → W p l e R s m args below meth c H1 locs1 cells slots Q (F0 m (pc + 3) ls rest)) : W p l e R s m args below meth c H locs cells slots Q (F0 m pc ls (.int (nI v) :: .ref (ad 7 x) :: rest)) := bn_put F h (mm_7 hx) rfl rfl i_Li t_Li t_Li_ok n_Li 2 (by decide) rfl rfl hl rfl rfl (Nat.le_of_ble_eq_true rfl) (by simp [bn_c, sI, sU, sJ, sO, bn_up]) (o_Li_count ar ad N x v) (bn_wf_U h.2.2.2 _ _ (Nat.zero_le _) hv) hdg kk
theorem g_Ms_kind (F : bn_F p s m args c cc own (bn_y D ar ad nf)) (h : bn_H (bn_y D ar ad nf) s.heap H locs N) (hx : x < 240) (hl : Cond.fieldLink own index "BridgeNet$Message" "kind" "I" ∈ bn_all) {v : Int32} (hv : N.1 12 x = v) (hdg : decode cc pc = .ok (.getfield index, 3)) (kk : W p l e R s m args below meth c H locs cells slots Q (F0 m (pc + 3) ls (.int v :: rest))) : W p l e R s m args below meth c H locs cells slots Q (F0 m pc ls (.ref (ad 9 x) :: rest)) := bn_get F h (mm_9 hx) rfl rfl i_Ms 0 (by decide) rfl hl (by rw [← hv]; rfl) hdg kk
theorem p_Ms_kind (F : bn_F p s m args c cc own (bn_y D ar ad nf)) (h : bn_H (bn_y D ar ad nf) s.heap H locs N) (hx : x < 240) (hl : Cond.fieldLink own index "BridgeNet$Message" "kind" "I" ∈ bn_all) {v : Int32} (hdg : decode cc pc = .ok (.putfield index, 3)) (kk : ∀ (H1 : Heap) (locs1 : List Loc), bn_H (bn_y D ar ad nf) s.heap H1 locs1 (sI N 12 x v) → W p l e R s m args below meth c H1 locs1 cells slots Q (F0 m (pc + 3) ls rest)) : W p l e R s m args below meth c H locs cells slots Q (F0 m pc ls (.int v :: .ref (ad 9 x) :: rest)) := bn_put F h (mm_9 hx) rfl rfl i_Ms t_Ms t_Ms_ok n_Ms 0 (by decide) rfl rfl hl rfl rfl (Nat.le_of_ble_eq_true rfl) (by simp [bn_c, sI, sU, sJ, sO, bn_up]) (o_Ms_kind ar ad N x v) (bn_wf_I h.2.2.2 _ _ _) hdg kk
theorem g_Ms_root (F : bn_F p s m args c cc own (bn_y D ar ad nf)) (h : bn_H (bn_y D ar ad nf) s.heap H locs N) (hx : x < 240) (hl : Cond.fieldLink own index "BridgeNet$Message" "root" "I" ∈ bn_all) {v : Int32} (hv : N.1 13 x = v) (hdg : decode cc pc = .ok (.getfield index, 3)) (kk : W p l e R s m args below meth c H locs cells slots Q (F0 m (pc + 3) ls (.int v :: rest))) : W p l e R s m args below meth c H locs cells slots Q (F0 m pc ls (.ref (ad 9 x) :: rest)) := bn_get F h (mm_9 hx) rfl rfl i_Ms 1 (by decide) rfl hl (by rw [← hv]; rfl) hdg kk
theorem p_Ms_root (F : bn_F p s m args c cc own (bn_y D ar ad nf)) (h : bn_H (bn_y D ar ad nf) s.heap H locs N) (hx : x < 240) (hl : Cond.fieldLink own index "BridgeNet$Message" "root" "I" ∈ bn_all) {v : Int32} (hdg : decode cc pc = .ok (.putfield index, 3)) (kk : ∀ (H1 : Heap) (locs1 : List Loc), bn_H (bn_y D ar ad nf) s.heap H1 locs1 (sI N 13 x v) → W p l e R s m args below meth c H1 locs1 cells slots Q (F0 m (pc + 3) ls rest)) : W p l e R s m args below meth c H locs cells slots Q (F0 m pc ls (.int v :: .ref (ad 9 x) :: rest)) := bn_put F h (mm_9 hx) rfl rfl i_Ms t_Ms t_Ms_ok n_Ms 1 (by decide) rfl rfl hl rfl rfl (Nat.le_of_ble_eq_true rfl) (by simp [bn_c, sI, sU, sJ, sO, bn_up]) (o_Ms_root ar ad N x v) (bn_wf_I h.2.2.2 _ _ _) hdg kk
theorem g_Ms_vector (F : bn_F p s m args c cc own (bn_y D ar ad nf)) (h : bn_H (bn_y D ar ad nf) s.heap H locs N) (hx : x < 240) (hl : Cond.fieldLink own index "BridgeNet$Message" "vector" "J" ∈ bn_all) {v : Int64} (hv : N.2.2.1 2 x = v) (hdg : decode cc pc = .ok (.getfield index, 3)) (kk : W p l e R s m args below meth c H locs cells slots Q (F0 m (pc + 3) ls (.long v :: rest))) : W p l e R s m args below meth c H locs cells slots Q (F0 m pc ls (.ref (ad 9 x) :: rest)) := bn_get F h (mm_9 hx) rfl rfl i_Ms 2 (by decide) rfl hl (by rw [← hv]; rfl) hdg kk
theorem p_Ms_vector (F : bn_F p s m args c cc own (bn_y D ar ad nf)) (h : bn_H (bn_y D ar ad nf) s.heap H locs N) (hx : x < 240) (hl : Cond.fieldLink own index "BridgeNet$Message" "vector" "J" ∈ bn_all) {v : Int64} (hdg : decode cc pc = .ok (.putfield index, 3)) (kk : ∀ (H1 : Heap) (locs1 : List Loc), bn_H (bn_y D ar ad nf) s.heap H1 locs1 (sJ N 2 x v) → W p l e R s m args below meth c H1 locs1 cells slots Q (F0 m (pc + 3) ls rest)) : W p l e R s m args below meth c H locs cells slots Q (F0 m pc ls (.long v :: .ref (ad 9 x) :: rest)) := bn_put F h (mm_9 hx) rfl rfl i_Ms t_Ms t_Ms_ok n_Ms 2 (by decide) rfl rfl hl rfl rfl (Nat.le_of_ble_eq_true rfl) (by simp [bn_c, sI, sU, sJ, sO, bn_up]) (o_Ms_vector ar ad N x v) (bn_wf_J h.2.2.2 _ _ _) hdg kk
theorem g_Ms_hops (F : bn_F p s m args c cc own (bn_y D ar ad nf)) (h : bn_H (bn_y D ar ad nf) s.heap H locs N) (hx : x < 240) (hl : Cond.fieldLink own index "BridgeNet$Message" "hops" "I" ∈ bn_all) {v : Int32} (hv : N.1 14 x = v) (hdg : decode cc pc = .ok (.getfield index, 3)) (kk : W p l e R s m args below meth c H locs cells slots Q (F0 m (pc + 3) ls (.int v :: rest))) : W p l e R s m args below meth c H locs cells slots Q (F0 m pc ls (.ref (ad 9 x) :: rest)) := bn_get F h (mm_9 hx) rfl rfl i_Ms 3 (by decide) rfl hl (by rw [← hv]; rfl) hdg kk
theorem p_Ms_hops (F : bn_F p s m args c cc own (bn_y D ar ad nf)) (h : bn_H (bn_y D ar ad nf) s.heap H locs N) (hx : x < 240) (hl : Cond.fieldLink own index "BridgeNet$Message" "hops" "I" ∈ bn_all) {v : Int32} (hdg : decode cc pc = .ok (.putfield index, 3)) (kk : ∀ (H1 : Heap) (locs1 : List Loc), bn_H (bn_y D ar ad nf) s.heap H1 locs1 (sI N 14 x v) → W p l e R s m args below meth c H1 locs1 cells slots Q (F0 m (pc + 3) ls rest)) : W p l e R s m args below meth c H locs cells slots Q (F0 m pc ls (.int v :: .ref (ad 9 x) :: rest)) := bn_put F h (mm_9 hx) rfl rfl i_Ms t_Ms t_Ms_ok n_Ms 3 (by decide) rfl rfl hl rfl rfl (Nat.le_of_ble_eq_true rfl) (by simp [bn_c, sI, sU, sJ, sO, bn_up]) (o_Ms_hops ar ad N x v) (bn_wf_I h.2.2.2 _ _ _) hdg kk
theorem g_Ms_proposing (F : bn_F p s m args c cc own (bn_y D ar ad nf)) (h : bn_H (bn_y D ar ad nf) s.heap H locs N) (hx : x < 240) (hl : Cond.fieldLink own index "BridgeNet$Message" "proposing" "Z" ∈ bn_all) {v : Nat} (hv : N.2.1 5 x = v) (hdg : decode cc pc = .ok (.getfield index, 3)) (kk : W p l e R s m args below meth c H locs cells slots Q (F0 m (pc + 3) ls (.int (nI v) :: rest))) : W p l e R s m args below meth c H locs cells slots Q (F0 m pc ls (.ref (ad 9 x) :: rest)) := bn_get F h (mm_9 hx) rfl rfl i_Ms 4 (by decide) rfl hl (by rw [← hv]; rfl) hdg kk
theorem p_Ms_proposing (F : bn_F p s m args c cc own (bn_y D ar ad nf)) (h : bn_H (bn_y D ar ad nf) s.heap H locs N) (hx : x < 240) (hl : Cond.fieldLink own index "BridgeNet$Message" "proposing" "Z" ∈ bn_all) {v : Nat} (hv : v < 2) (hdg : decode cc pc = .ok (.putfield index, 3)) (kk : ∀ (H1 : Heap) (locs1 : List Loc), bn_H (bn_y D ar ad nf) s.heap H1 locs1 (sU N 5 x v) → W p l e R s m args below meth c H1 locs1 cells slots Q (F0 m (pc + 3) ls rest)) : W p l e R s m args below meth c H locs cells slots Q (F0 m pc ls (.int (nI v) :: .ref (ad 9 x) :: rest)) := bn_put F h (mm_9 hx) rfl rfl i_Ms t_Ms t_Ms_ok n_Ms 4 (by decide) rfl rfl hl (bn_nz hv) (bn_fz hv) (Nat.le_of_ble_eq_true rfl) (by simp [bn_c, sI, sU, sJ, sO, bn_up]) (o_Ms_proposing ar ad N x v) (bn_wf_U h.2.2.2 _ _ (Nat.zero_le _) hv) hdg kk
theorem g_Ms_frame_n (F : bn_F p s m args c cc own (bn_y D ar ad nf)) (h : bn_H (bn_y D ar ad nf) s.heap H locs N) (hx : x < 240) (hl : Cond.fieldLink own index "BridgeNet$Message" "frame" "LBridgeNet$Frame;" ∈ bn_all) (ho : N.2.2.2 5 x = none) (hdg : decode cc pc = .ok (.getfield index, 3)) (kk : W p l e R s m args below meth c H locs cells slots Q (F0 m (pc + 3) ls (.null :: rest))) : W p l e R s m args below meth c H locs cells slots Q (F0 m pc ls (.ref (ad 9 x) :: rest)) := bn_get F h (mm_9 hx) rfl rfl i_Ms 5 (by decide) rfl hl (show some (va_rf ((N.2.2.2 5 x).map (ad 13))) = some .null by rw [ho]; rfl) hdg kk
theorem g_Ms_frame_s (F : bn_F p s m args c cc own (bn_y D ar ad nf)) (h : bn_H (bn_y D ar ad nf) s.heap H locs N) (hx : x < 240) (hl : Cond.fieldLink own index "BridgeNet$Message" "frame" "LBridgeNet$Frame;" ∈ bn_all) {y : Nat} (ho : N.2.2.2 5 x = some y) (hdg : decode cc pc = .ok (.getfield index, 3)) (kk : W p l e R s m args below meth c H locs cells slots Q (F0 m (pc + 3) ls (.ref (ad 13 y) :: rest))) : W p l e R s m args below meth c H locs cells slots Q (F0 m pc ls (.ref (ad 9 x) :: rest)) := bn_get F h (mm_9 hx) rfl rfl i_Ms 5 (by decide) rfl hl (show some (va_rf ((N.2.2.2 5 x).map (ad 13))) = some (.ref (ad 13 y)) by rw [ho]; rfl) hdg kk
theorem g_Ms_frame (F : bn_F p s m args c cc own (bn_y D ar ad nf)) (h : bn_H (bn_y D ar ad nf) s.heap H locs N) (hx : x < 240) (hl : Cond.fieldLink own index "BridgeNet$Message" "frame" "LBridgeNet$Frame;" ∈ bn_all) (hdg : decode cc pc = .ok (.getfield index, 3)) (kn : N.2.2.2 5 x = none → W p l e R s m args below meth c H locs cells slots Q (F0 m (pc + 3) ls (.null :: rest))) (ks : ∀ y : Nat, N.2.2.2 5 x = some y → y < nf → W p l e R s m args below meth c H locs cells slots Q (F0 m (pc + 3) ls (.ref (ad 13 y) :: rest))) : W p l e R s m args below meth c H locs cells slots Q (F0 m pc ls (.ref (ad 9 x) :: rest)) := by
  cases ho : N.2.2.2 5 x with
  | none => exact g_Ms_frame_n F h hx hl ho hdg (kn ho)
  | some y => exact g_Ms_frame_s F h hx hl ho hdg (ks y ho (h.2.2.2.2 5 x y ho))
theorem p_Ms_frame (F : bn_F p s m args c cc own (bn_y D ar ad nf)) (h : bn_H (bn_y D ar ad nf) s.heap H locs N) (hx : x < 240) (hl : Cond.fieldLink own index "BridgeNet$Message" "frame" "LBridgeNet$Frame;" ∈ bn_all) (o : Option Nat) (hv : ∀ y, o = some y → y < nf) (hdg : decode cc pc = .ok (.putfield index, 3)) (kk : ∀ (H1 : Heap) (locs1 : List Loc), bn_H (bn_y D ar ad nf) s.heap H1 locs1 (sO N 5 x o) → W p l e R s m args below meth c H1 locs1 cells slots Q (F0 m (pc + 3) ls rest)) : W p l e R s m args below meth c H locs cells slots Q (F0 m pc ls (va_rf (o.map (ad 13)) :: .ref (ad 9 x) :: rest)) := bn_put F h (mm_9 hx) rfl rfl i_Ms t_Ms t_Ms_ok n_Ms 5 (by decide) rfl rfl hl (bn_nq _ _) (bn_fq _ _) (Nat.le_of_ble_eq_true rfl) (by simp [bn_c, sI, sU, sJ, sO, bn_up]) (o_Ms_frame ar ad N x o) (bn_wf_O h.2.2.2 _ _ hv) hdg kk
theorem g_St_place_n (F : bn_F p s m args c cc own (bn_y D ar ad nf)) (h : bn_H (bn_y D ar ad nf) s.heap H locs N) (hx : x < 8) (hl : Cond.fieldLink own index "BridgeNet$Station" "place" "LBridgeNet$Port;" ∈ bn_all) (ho : N.2.2.2 4 x = none) (hdg : decode cc pc = .ok (.getfield index, 3)) (kk : W p l e R s m args below meth c H locs cells slots Q (F0 m (pc + 3) ls (.null :: rest))) : W p l e R s m args below meth c H locs cells slots Q (F0 m pc ls (.ref (ad 11 x) :: rest)) := bn_get F h (mm_11 hx) rfl rfl i_St 0 (by decide) rfl hl (show some (va_rf ((N.2.2.2 4 x).map (ad 6))) = some .null by rw [ho]; rfl) hdg kk
theorem g_St_place_s (F : bn_F p s m args c cc own (bn_y D ar ad nf)) (h : bn_H (bn_y D ar ad nf) s.heap H locs N) (hx : x < 8) (hl : Cond.fieldLink own index "BridgeNet$Station" "place" "LBridgeNet$Port;" ∈ bn_all) {y : Nat} (ho : N.2.2.2 4 x = some y) (hdg : decode cc pc = .ok (.getfield index, 3)) (kk : W p l e R s m args below meth c H locs cells slots Q (F0 m (pc + 3) ls (.ref (ad 6 y) :: rest))) : W p l e R s m args below meth c H locs cells slots Q (F0 m pc ls (.ref (ad 11 x) :: rest)) := bn_get F h (mm_11 hx) rfl rfl i_St 0 (by decide) rfl hl (show some (va_rf ((N.2.2.2 4 x).map (ad 6))) = some (.ref (ad 6 y)) by rw [ho]; rfl) hdg kk
theorem g_St_place (F : bn_F p s m args c cc own (bn_y D ar ad nf)) (h : bn_H (bn_y D ar ad nf) s.heap H locs N) (hx : x < 8) (hl : Cond.fieldLink own index "BridgeNet$Station" "place" "LBridgeNet$Port;" ∈ bn_all) (hdg : decode cc pc = .ok (.getfield index, 3)) (kn : N.2.2.2 4 x = none → W p l e R s m args below meth c H locs cells slots Q (F0 m (pc + 3) ls (.null :: rest))) (ks : ∀ y : Nat, N.2.2.2 4 x = some y → y < 20 → W p l e R s m args below meth c H locs cells slots Q (F0 m (pc + 3) ls (.ref (ad 6 y) :: rest))) : W p l e R s m args below meth c H locs cells slots Q (F0 m pc ls (.ref (ad 11 x) :: rest)) := by
  cases ho : N.2.2.2 4 x with
  | none => exact g_St_place_n F h hx hl ho hdg (kn ho)
  | some y => exact g_St_place_s F h hx hl ho hdg (ks y ho (h.2.2.2.2 4 x y ho))
theorem p_St_place (F : bn_F p s m args c cc own (bn_y D ar ad nf)) (h : bn_H (bn_y D ar ad nf) s.heap H locs N) (hx : x < 8) (hl : Cond.fieldLink own index "BridgeNet$Station" "place" "LBridgeNet$Port;" ∈ bn_all) (o : Option Nat) (hv : ∀ y, o = some y → y < 20) (hdg : decode cc pc = .ok (.putfield index, 3)) (kk : ∀ (H1 : Heap) (locs1 : List Loc), bn_H (bn_y D ar ad nf) s.heap H1 locs1 (sO N 4 x o) → W p l e R s m args below meth c H1 locs1 cells slots Q (F0 m (pc + 3) ls rest)) : W p l e R s m args below meth c H locs cells slots Q (F0 m pc ls (va_rf (o.map (ad 6)) :: .ref (ad 11 x) :: rest)) := bn_put F h (mm_11 hx) rfl rfl i_St t_St t_St_ok n_St 0 (by decide) rfl rfl hl (bn_nq _ _) (bn_fq _ _) (Nat.le_of_ble_eq_true rfl) (by simp [bn_c, sI, sU, sJ, sO, bn_up]) (o_St_place ar ad N x o) (bn_wf_O h.2.2.2 _ _ hv) hdg kk
theorem g_St_vlan (F : bn_F p s m args c cc own (bn_y D ar ad nf)) (h : bn_H (bn_y D ar ad nf) s.heap H locs N) (hx : x < 8) (hl : Cond.fieldLink own index "BridgeNet$Station" "vlan" "I" ∈ bn_all) {v : Nat} (hv : N.2.1 8 x = v) (hdg : decode cc pc = .ok (.getfield index, 3)) (kk : W p l e R s m args below meth c H locs cells slots Q (F0 m (pc + 3) ls (.int (nI v) :: rest))) : W p l e R s m args below meth c H locs cells slots Q (F0 m pc ls (.ref (ad 11 x) :: rest)) := bn_get F h (mm_11 hx) rfl rfl i_St 1 (by decide) rfl hl (by rw [← hv]; rfl) hdg kk
theorem p_St_vlan (F : bn_F p s m args c cc own (bn_y D ar ad nf)) (h : bn_H (bn_y D ar ad nf) s.heap H locs N) (hx : x < 8) (hl : Cond.fieldLink own index "BridgeNet$Station" "vlan" "I" ∈ bn_all) {v : Nat} (hv0 : 1 ≤ v) (hv : v < 3) (hdg : decode cc pc = .ok (.putfield index, 3)) (kk : ∀ (H1 : Heap) (locs1 : List Loc), bn_H (bn_y D ar ad nf) s.heap H1 locs1 (sU N 8 x v) → W p l e R s m args below meth c H1 locs1 cells slots Q (F0 m (pc + 3) ls rest)) : W p l e R s m args below meth c H locs cells slots Q (F0 m pc ls (.int (nI v) :: .ref (ad 11 x) :: rest)) := bn_put F h (mm_11 hx) rfl rfl i_St t_St t_St_ok n_St 1 (by decide) rfl rfl hl rfl rfl (Nat.le_of_ble_eq_true rfl) (by simp [bn_c, sI, sU, sJ, sO, bn_up]) (o_St_vlan ar ad N x v) (bn_wf_U h.2.2.2 _ _ hv0 hv) hdg kk
theorem g_St_inbox (F : bn_F p s m args c cc own (bn_y D ar ad nf)) (h : bn_H (bn_y D ar ad nf) s.heap H locs N) (hx : x < 8) (hl : Cond.fieldLink own index "BridgeNet$Station" "inbox" "[J" ∈ bn_all) (hdg : decode cc pc = .ok (.getfield index, 3)) (kk : W p l e R s m args below meth c H locs cells slots Q (F0 m (pc + 3) ls (.ref (ad 12 x) :: rest))) : W p l e R s m args below meth c H locs cells slots Q (F0 m pc ls (.ref (ad 11 x) :: rest)) := bn_get F h (mm_11 hx) rfl rfl i_St 2 (by decide) rfl hl rfl hdg kk
theorem g_St_count (F : bn_F p s m args c cc own (bn_y D ar ad nf)) (h : bn_H (bn_y D ar ad nf) s.heap H locs N) (hx : x < 8) (hl : Cond.fieldLink own index "BridgeNet$Station" "count" "I" ∈ bn_all) {v : Nat} (hv : N.2.1 9 x = v) (hdg : decode cc pc = .ok (.getfield index, 3)) (kk : W p l e R s m args below meth c H locs cells slots Q (F0 m (pc + 3) ls (.int (nI v) :: rest))) : W p l e R s m args below meth c H locs cells slots Q (F0 m pc ls (.ref (ad 11 x) :: rest)) := bn_get F h (mm_11 hx) rfl rfl i_St 3 (by decide) rfl hl (by rw [← hv]; rfl) hdg kk
theorem p_St_count (F : bn_F p s m args c cc own (bn_y D ar ad nf)) (h : bn_H (bn_y D ar ad nf) s.heap H locs N) (hx : x < 8) (hl : Cond.fieldLink own index "BridgeNet$Station" "count" "I" ∈ bn_all) {v : Nat} (hv : v < 41) (hdg : decode cc pc = .ok (.putfield index, 3)) (kk : ∀ (H1 : Heap) (locs1 : List Loc), bn_H (bn_y D ar ad nf) s.heap H1 locs1 (sU N 9 x v) → W p l e R s m args below meth c H1 locs1 cells slots Q (F0 m (pc + 3) ls rest)) : W p l e R s m args below meth c H locs cells slots Q (F0 m pc ls (.int (nI v) :: .ref (ad 11 x) :: rest)) := bn_put F h (mm_11 hx) rfl rfl i_St t_St t_St_ok n_St 3 (by decide) rfl rfl hl rfl rfl (Nat.le_of_ble_eq_true rfl) (by simp [bn_c, sI, sU, sJ, sO, bn_up]) (o_St_count ar ad N x v) (bn_wf_U h.2.2.2 _ _ (Nat.zero_le _) hv) hdg kk
theorem g_Fr_source (F : bn_F p s m args c cc own (bn_y D ar ad nf)) (h : bn_H (bn_y D ar ad nf) s.heap H locs N) (hx : x < nf) (hl : Cond.fieldLink own index "BridgeNet$Frame" "source" "I" ∈ bn_all) {v : Nat} (hv : N.2.1 10 x = v) (hdg : decode cc pc = .ok (.getfield index, 3)) (kk : W p l e R s m args below meth c H locs cells slots Q (F0 m (pc + 3) ls (.int (nI v) :: rest))) : W p l e R s m args below meth c H locs cells slots Q (F0 m pc ls (.ref (ad 13 x) :: rest)) := bn_get F h (mm_13 hx) rfl rfl i_Fr 0 (by decide) rfl hl (by rw [← hv]; rfl) hdg kk
theorem g_Fr_destination (F : bn_F p s m args c cc own (bn_y D ar ad nf)) (h : bn_H (bn_y D ar ad nf) s.heap H locs N) (hx : x < nf) (hl : Cond.fieldLink own index "BridgeNet$Frame" "destination" "I" ∈ bn_all) {v : Nat} (hv : N.2.1 11 x = v) (hdg : decode cc pc = .ok (.getfield index, 3)) (kk : W p l e R s m args below meth c H locs cells slots Q (F0 m (pc + 3) ls (.int (nI v) :: rest))) : W p l e R s m args below meth c H locs cells slots Q (F0 m pc ls (.ref (ad 13 x) :: rest)) := bn_get F h (mm_13 hx) rfl rfl i_Fr 1 (by decide) rfl hl (by rw [← hv]; rfl) hdg kk
theorem g_Fr_vlan (F : bn_F p s m args c cc own (bn_y D ar ad nf)) (h : bn_H (bn_y D ar ad nf) s.heap H locs N) (hx : x < nf) (hl : Cond.fieldLink own index "BridgeNet$Frame" "vlan" "I" ∈ bn_all) {v : Nat} (hv : N.2.1 12 x = v) (hdg : decode cc pc = .ok (.getfield index, 3)) (kk : W p l e R s m args below meth c H locs cells slots Q (F0 m (pc + 3) ls (.int (nI v) :: rest))) : W p l e R s m args below meth c H locs cells slots Q (F0 m pc ls (.ref (ad 13 x) :: rest)) := bn_get F h (mm_13 hx) rfl rfl i_Fr 2 (by decide) rfl hl (by rw [← hv]; rfl) hdg kk
theorem g_Fr_value (F : bn_F p s m args c cc own (bn_y D ar ad nf)) (h : bn_H (bn_y D ar ad nf) s.heap H locs N) (hx : x < nf) (hl : Cond.fieldLink own index "BridgeNet$Frame" "value" "I" ∈ bn_all) {v : Int32} (hv : N.1 15 x = v) (hdg : decode cc pc = .ok (.getfield index, 3)) (kk : W p l e R s m args below meth c H locs cells slots Q (F0 m (pc + 3) ls (.int v :: rest))) : W p l e R s m args below meth c H locs cells slots Q (F0 m pc ls (.ref (ad 13 x) :: rest)) := bn_get F h (mm_13 hx) rfl rfl i_Fr 3 (by decide) rfl hl (by rw [← hv]; rfl) hdg kk
theorem al_bridges (F : bn_F p s m args c cc own (bn_y D ar ad nf)) (h : bn_H (bn_y D ar ad nf) s.heap H locs N) {i : Nat} (hi : i < 5) (hdg : decode cc pc = .ok (.aaload, 1)) (kk : W p l e R s m args below meth c H locs cells slots Q (F0 m (pc + 1) ls (.ref (ad 2 i) :: rest))) : W p l e R s m args below meth c H locs cells slots Q (F0 m pc ls (.int (nI i) :: .ref (ad 1 0) :: rest)) := bn_ald F h mm_1 (t0 := 3) rfl rfl hi (by decide) rfl hdg kk
theorem an_bridges (F : bn_F p s m args c cc own (bn_y D ar ad nf)) (h : bn_H (bn_y D ar ad nf) s.heap H locs N) (hdg : decode cc pc = .ok (.arraylength, 1)) (kk : W p l e R s m args below meth c H locs cells slots Q (F0 m (pc + 1) ls (.int (nI 5) :: rest))) : W p l e R s m args below meth c H locs cells slots Q (F0 m pc ls (.ref (ad 1 0) :: rest)) := bn_alen F h mm_1 (t0 := 3) (n := 5) rfl rfl rfl hdg kk
theorem al_ports (F : bn_F p s m args c cc own (bn_y D ar ad nf)) (h : bn_H (bn_y D ar ad nf) s.heap H locs N) (hx : x < 5) {i : Nat} (hi : i < 4) (hdg : decode cc pc = .ok (.aaload, 1)) (kk : W p l e R s m args below meth c H locs cells slots Q (F0 m (pc + 1) ls (.ref (ad 6 (4 * x + i)) :: rest))) : W p l e R s m args below meth c H locs cells slots Q (F0 m pc ls (.int (nI i) :: .ref (ad 3 x) :: rest)) := bn_ald F h (mm_3 hx) (t0 := 4) rfl rfl hi (by decide) rfl hdg kk
theorem an_ports (F : bn_F p s m args c cc own (bn_y D ar ad nf)) (h : bn_H (bn_y D ar ad nf) s.heap H locs N) (hx : x < 5) (hdg : decode cc pc = .ok (.arraylength, 1)) (kk : W p l e R s m args below meth c H locs cells slots Q (F0 m (pc + 1) ls (.int (nI 4) :: rest))) : W p l e R s m args below meth c H locs cells slots Q (F0 m pc ls (.ref (ad 3 x) :: rest)) := bn_alen F h (mm_3 hx) (t0 := 4) (n := 4) rfl rfl rfl hdg kk
theorem al_ring (F : bn_F p s m args c cc own (bn_y D ar ad nf)) (h : bn_H (bn_y D ar ad nf) s.heap H locs N) (hx : x < 20) {i : Nat} (hi : i < 12) (hdg : decode cc pc = .ok (.aaload, 1)) (kk : W p l e R s m args below meth c H locs cells slots Q (F0 m (pc + 1) ls (.ref (ad 9 (12 * x + i)) :: rest))) : W p l e R s m args below meth c H locs cells slots Q (F0 m pc ls (.int (nI i) :: .ref (ad 8 x) :: rest)) := bn_ald F h (mm_8 hx) (t0 := 5) rfl rfl hi (by decide) rfl hdg kk
theorem an_ring (F : bn_F p s m args c cc own (bn_y D ar ad nf)) (h : bn_H (bn_y D ar ad nf) s.heap H locs N) (hx : x < 20) (hdg : decode cc pc = .ok (.arraylength, 1)) (kk : W p l e R s m args below meth c H locs cells slots Q (F0 m (pc + 1) ls (.int (nI 12) :: rest))) : W p l e R s m args below meth c H locs cells slots Q (F0 m pc ls (.ref (ad 8 x) :: rest)) := bn_alen F h (mm_8 hx) (t0 := 5) (n := 12) rfl rfl rfl hdg kk
theorem al_stations (F : bn_F p s m args c cc own (bn_y D ar ad nf)) (h : bn_H (bn_y D ar ad nf) s.heap H locs N) {i : Nat} (hi : i < 8) (hdg : decode cc pc = .ok (.aaload, 1)) (kk : W p l e R s m args below meth c H locs cells slots Q (F0 m (pc + 1) ls (.ref (ad 11 i) :: rest))) : W p l e R s m args below meth c H locs cells slots Q (F0 m pc ls (.int (nI i) :: .ref (ad 10 0) :: rest)) := bn_ald F h mm_10 (t0 := 6) rfl rfl hi (by decide) rfl hdg kk
theorem an_stations (F : bn_F p s m args c cc own (bn_y D ar ad nf)) (h : bn_H (bn_y D ar ad nf) s.heap H locs N) (hdg : decode cc pc = .ok (.arraylength, 1)) (kk : W p l e R s m args below meth c H locs cells slots Q (F0 m (pc + 1) ls (.int (nI 8) :: rest))) : W p l e R s m args below meth c H locs cells slots Q (F0 m pc ls (.ref (ad 10 0) :: rest)) := bn_alen F h mm_10 (t0 := 6) (n := 8) rfl rfl rfl hdg kk
theorem an_places (F : bn_F p s m args c cc own (bn_y D ar ad nf)) (h : bn_H (bn_y D ar ad nf) s.heap H locs N) (hx : x < 5) (hdg : decode cc pc = .ok (.arraylength, 1)) (kk : W p l e R s m args below meth c H locs cells slots Q (F0 m (pc + 1) ls (.int (nI 16) :: rest))) : W p l e R s m args below meth c H locs cells slots Q (F0 m pc ls (.ref (ad 4 x) :: rest)) := bn_alen F h (mm_4 hx) (t0 := 0) (n := 16) rfl rfl rfl hdg kk
theorem an_lives (F : bn_F p s m args c cc own (bn_y D ar ad nf)) (h : bn_H (bn_y D ar ad nf) s.heap H locs N) (hx : x < 5) (hdg : decode cc pc = .ok (.arraylength, 1)) (kk : W p l e R s m args below meth c H locs cells slots Q (F0 m (pc + 1) ls (.int (nI 16) :: rest))) : W p l e R s m args below meth c H locs cells slots Q (F0 m pc ls (.ref (ad 5 x) :: rest)) := bn_alen F h (mm_5 hx) (t0 := 0) (n := 16) rfl rfl rfl hdg kk
theorem an_inbox (F : bn_F p s m args c cc own (bn_y D ar ad nf)) (h : bn_H (bn_y D ar ad nf) s.heap H locs N) (hx : x < 8) (hdg : decode cc pc = .ok (.arraylength, 1)) (kk : W p l e R s m args below meth c H locs cells slots Q (F0 m (pc + 1) ls (.int (nI 40) :: rest))) : W p l e R s m args below meth c H locs cells slots Q (F0 m pc ls (.ref (ad 12 x) :: rest)) := bn_alen F h (mm_12 hx) (t0 := 1) (n := 40) rfl rfl rfl hdg kk
theorem al_places (F : bn_F p s m args c cc own (bn_y D ar ad nf)) (h : bn_H (bn_y D ar ad nf) s.heap H locs N) (hx : x < 5) {i v : Nat} (hi : i < 16) (hv : N.2.1 (x + 20) i = v) (hdg : decode cc pc = .ok (.iaload, 1)) (kk : W p l e R s m args below meth c H locs cells slots Q (F0 m (pc + 1) ls (.int (nI v) :: rest))) : W p l e R s m args below meth c H locs cells slots Q (F0 m pc ls (.int (nI i) :: .ref (ad 4 x) :: rest)) := bn_ild F h (mm_4 hx) (t0 := 0) rfl rfl hi (by decide) hdg (by rw [hv]; exact kk)
theorem al_lives (F : bn_F p s m args c cc own (bn_y D ar ad nf)) (h : bn_H (bn_y D ar ad nf) s.heap H locs N) (hx : x < 5) {i : Nat} {v : Int32} (hi : i < 16) (hv : N.1 (x + 20) i = v) (hdg : decode cc pc = .ok (.iaload, 1)) (kk : W p l e R s m args below meth c H locs cells slots Q (F0 m (pc + 1) ls (.int v :: rest))) : W p l e R s m args below meth c H locs cells slots Q (F0 m pc ls (.int (nI i) :: .ref (ad 5 x) :: rest)) := bn_ild F h (mm_5 hx) (t0 := 0) rfl rfl hi (by decide) hdg (by rw [hv]; exact kk)
theorem al_inbox (F : bn_F p s m args c cc own (bn_y D ar ad nf)) (h : bn_H (bn_y D ar ad nf) s.heap H locs N) (hx : x < 8) {i : Nat} {v : Int64} (hi : i < 40) (hv : N.2.2.1 (x + 20) i = v) (hdg : decode cc pc = .ok (.laload, 1)) (kk : W p l e R s m args below meth c H locs cells slots Q (F0 m (pc + 1) ls (.long v :: rest))) : W p l e R s m args below meth c H locs cells slots Q (F0 m pc ls (.int (nI i) :: .ref (ad 12 x) :: rest)) := bn_lld F h (mm_12 hx) (t0 := 1) rfl rfl hi (by decide) hdg (by rw [hv]; exact kk)
theorem as_places (F : bn_F p s m args c cc own (bn_y D ar ad nf)) (h : bn_H (bn_y D ar ad nf) s.heap H locs N) (hx : x < 5) {i v : Nat} (hi : i < 16) (hv : v < 4) (hdg : decode cc pc = .ok (.iastore, 1)) (kk : ∀ (H1 : Heap) (locs1 : List Loc), bn_H (bn_y D ar ad nf) s.heap H1 locs1 (sU N (x + 20) i v) → W p l e R s m args below meth c H1 locs1 cells slots Q (F0 m (pc + 1) ls rest)) : W p l e R s m args below meth c H locs cells slots Q (F0 m pc ls (.int (nI v) :: .int (nI i) :: .ref (ad 4 x) :: rest)) := bn_ist F h (mm_4 hx) (t0 := 0) rfl rfl hi (by decide) (congrArg (fun f => Sum.inl (ar 0, 16, Sum.inl f)) (bn_arrU N x i v)) (o_arr_4 ar ad N x i v) (bn_wf_U h.2.2.2 _ _ (by rw [bn_uL_p]; exact Nat.zero_le _) (by rw [bn_uB_p]; exact hv)) hdg kk
theorem as_lives (F : bn_F p s m args c cc own (bn_y D ar ad nf)) (h : bn_H (bn_y D ar ad nf) s.heap H locs N) (hx : x < 5) {i : Nat} {v : Int32} (hi : i < 16) (hdg : decode cc pc = .ok (.iastore, 1)) (kk : ∀ (H1 : Heap) (locs1 : List Loc), bn_H (bn_y D ar ad nf) s.heap H1 locs1 (sI N (x + 20) i v) → W p l e R s m args below meth c H1 locs1 cells slots Q (F0 m (pc + 1) ls rest)) : W p l e R s m args below meth c H locs cells slots Q (F0 m pc ls (.int v :: .int (nI i) :: .ref (ad 5 x) :: rest)) := bn_ist F h (mm_5 hx) (t0 := 0) rfl rfl hi (by decide) (congrArg (fun f => Sum.inl (ar 0, 16, Sum.inl f)) (bn_arrI N x i v)) (o_arr_5 ar ad N x i v) (bn_wf_I h.2.2.2 _ _ _) hdg kk
theorem as_inbox (F : bn_F p s m args c cc own (bn_y D ar ad nf)) (h : bn_H (bn_y D ar ad nf) s.heap H locs N) (hx : x < 8) {i : Nat} {v : Int64} (hi : i < 40) (hdg : decode cc pc = .ok (.lastore, 1)) (kk : ∀ (H1 : Heap) (locs1 : List Loc), bn_H (bn_y D ar ad nf) s.heap H1 locs1 (sJ N (x + 20) i v) → W p l e R s m args below meth c H1 locs1 cells slots Q (F0 m (pc + 1) ls rest)) : W p l e R s m args below meth c H locs cells slots Q (F0 m pc ls (.long v :: .int (nI i) :: .ref (ad 12 x) :: rest)) := bn_lst F h (mm_12 hx) (t0 := 1) rfl rfl hi (by decide) (congrArg (fun f => Sum.inl (ar 1, 40, Sum.inr (Sum.inl f))) (bn_arrJ N x i v)) (o_arr_12 ar ad N x i v) (bn_wf_J h.2.2.2 _ _ _) hdg kk
end BNF
end
section
/-! small rows: a road by what a reference is; addresses apart; private methods' words -/
def bn_oc {α : Type} (o : Option Nat) (a : α) (f : Nat → α) : α := match o with
  | none => a
  | some y => f y
theorem bn_oc_n {α : Type} {o : Option Nat} {a : α} {f : Nat → α} (h : o = none) : bn_oc o a f = a := by rw [h]; rfl
theorem bn_oc_s {α : Type} {o : Option Nat} {a : α} {f : Nat → α} {y : Nat} (h : o = some y) : bn_oc o a f = f y := by rw [h]; rfl
section BNO
variable {p : Program} {l : Launch} {e : Env} {R : Room} {s : State} {m : MethodId} {args : Array Value} {below : List Frame} {meth : Method} {c : Code} {H : Heap} {locs : List Loc} {cells slots : Nat} {Q : State → Prop}
variable {cc : ByteArray} {pc : Nat} {ls : Array Slot} {rest : List Value} {Y : bn_Y} {N : bn_S}
theorem bn_oq {f : Nat → Nat} {o : Option Nat} (kn : o = none → W p l e R s m args below meth c H locs cells slots Q (F0 m pc ls (.null :: rest))) (ks : ∀ y : Nat, o = some y → W p l e R s m args below meth c H locs cells slots Q (F0 m pc ls (.ref (f y) :: rest))) : W p l e R s m args below meth c H locs cells slots Q (F0 m pc ls (va_rf (o.map f) :: rest)) := by
  cases ho : o with
  | none => exact kn ho
  | some y => exact ks y ho
theorem bn_inj {H0 : Heap} {k a b : Nat} (h : bn_H Y H0 H locs N) (ha : (k, a) ∈ Y.2.2.1) (hb : (k, b) ∈ Y.2.2.1) : (some (Y.2.2.2.1 k a) = some (Y.2.2.2.1 k b)) ↔ a = b := by
  constructor
  · intro he
    by_cases hab : a = b
    · exact hab
    · exact absurd (Option.some.inj he) (bn_ne h.2.1 ha hb (fun z => hab z.2))
  · intro he
    rw [he]
section BNQ
variable {own : String}
theorem bn_reti2 (F : bn_F p s m args c cc own Y) {v : Int32} {q : Int32 × bn_S} (hr : meth.sig.returnType = some .int) (hk : meth.locks = false) (h : bn_H Y s.heap H locs N) (hq : q = (v, N)) (hdg : decode cc pc = .ok (.ireturn, 1)) : W p l e R s m args below meth c H locs 0 0 (MQ below (va_Qi (fun (v : Int32) (u : bn_S) => v = q.1 ∧ u = q.2) (bn_Post Y (bn_AY Y s.heap.size)) (bn_AY Y s.heap.size)) args s 0 0 (bn_AY Y s.heap.size)) (F0 m pc ls [.int v]) := by
  subst hq
  exact bn_reti F hr hk h rfl rfl hdg
theorem bn_retz2 (F : bn_F p s m args c cc own Y) {v : Int32} {q : Int32 × bn_S} (hr : meth.sig.returnType = some .boolean) (hn : narrow .boolean (.int v) = .int v) (hk : meth.locks = false) (h : bn_H Y s.heap H locs N) (hq : q = (v, N)) (hdg : decode cc pc = .ok (.ireturn, 1)) : W p l e R s m args below meth c H locs 0 0 (MQ below (va_Qi (fun (v : Int32) (u : bn_S) => v = q.1 ∧ u = q.2) (bn_Post Y (bn_AY Y s.heap.size)) (bn_AY Y s.heap.size)) args s 0 0 (bn_AY Y s.heap.size)) (F0 m pc ls [.int v]) := by
  subst hq
  exact bn_retz F hr hn hk h rfl rfl hdg
theorem bn_retl2 (F : bn_F p s m args c cc own Y) {v : Int64} {q : Int64 × bn_S} (hr : meth.sig.returnType = some .long) (hk : meth.locks = false) (h : bn_H Y s.heap H locs N) (hq : q = (v, N)) (hdg : decode cc pc = .ok (.lreturn, 1)) : W p l e R s m args below meth c H locs 0 0 (MQ below (va_Ql (fun (v : Int64) (u : bn_S) => v = q.1 ∧ u = q.2) (bn_Post Y (bn_AY Y s.heap.size)) (bn_AY Y s.heap.size)) args s 0 0 (bn_AY Y s.heap.size)) (F0 m pc ls [.long v]) := by
  subst hq
  exact bn_retl F hr hk h rfl rfl hdg
end BNQ
end BNO
theorem ks_Br_chooseRoot : Cond.selects "BridgeNet$Bridge" y_Br_chooseRoot y_Br_chooseRoot ∈ bn_all := bn_sel (q := (⟨"BridgeNet$Bridge", "chooseRoot", "()V"⟩, 9)) (List.mem_of_getElem? (i := 0) rfl)
theorem ks_Br_giveRoles : Cond.selects "BridgeNet$Bridge" y_Br_giveRoles y_Br_giveRoles ∈ bn_all := bn_sel (q := (⟨"BridgeNet$Bridge", "giveRoles", "()Z"⟩, 9)) (List.mem_of_getElem? (i := 1) rfl)
theorem ks_Br_dueRole : Cond.selects "BridgeNet$Bridge" y_Br_dueRole y_Br_dueRole ∈ bn_all := bn_sel (q := (⟨"BridgeNet$Bridge", "dueRole", "(LBridgeNet$Port;)I"⟩, 9)) (List.mem_of_getElem? (i := 2) rfl)
theorem ks_Br_ownVector : Cond.selects "BridgeNet$Bridge" y_Br_ownVector y_Br_ownVector ∈ bn_all := bn_sel (q := (⟨"BridgeNet$Bridge", "ownVector", "(LBridgeNet$Port;)J"⟩, 9)) (List.mem_of_getElem? (i := 3) rfl)
theorem ks_Po_propose : Cond.selects "BridgeNet$Port" y_Po_propose y_Po_propose ∈ bn_all := bn_sel (q := (⟨"BridgeNet$Port", "propose", "()V"⟩, 16)) (List.mem_of_getElem? (i := 4) rfl)
theorem ks_Br_tellOn : Cond.selects "BridgeNet$Bridge" y_Br_tellOn y_Br_tellOn ∈ bn_all := bn_sel (q := (⟨"BridgeNet$Bridge", "tellOn", "(LBridgeNet$Port;)V"⟩, 9)) (List.mem_of_getElem? (i := 5) rfl)
theorem ks_Li_put : Cond.selects "BridgeNet$Line" y_Li_put y_Li_put ∈ bn_all := bn_sel (q := (⟨"BridgeNet$Line", "put", "(IILBridgeNet$Frame;)LBridgeNet$Message;"⟩, 3)) (List.mem_of_getElem? (i := 6) rfl)
theorem ks_Ne_findPort : Cond.selects "BridgeNet" y_Ne_findPort y_Ne_findPort ∈ bn_all := bn_sel (q := (⟨"BridgeNet", "findPort", "(II)LBridgeNet$Port;"⟩, 3)) (List.mem_of_getElem? (i := 7) rfl)
theorem ks_Po_forward : Cond.selects "BridgeNet$Port" y_Po_forward y_Po_forward ∈ bn_all := bn_sel (q := (⟨"BridgeNet$Port", "forward", "()V"⟩, 16)) (List.mem_of_getElem? (i := 8) rfl)
theorem ks_Ne_findStation : Cond.selects "BridgeNet" y_Ne_findStation y_Ne_findStation ∈ bn_all := bn_sel (q := (⟨"BridgeNet", "findStation", "(I)LBridgeNet$Station;"⟩, 3)) (List.mem_of_getElem? (i := 9) rfl)
theorem ks_Br_learn : Cond.selects "BridgeNet$Bridge" y_Br_learn y_Br_learn ∈ bn_all := bn_sel (q := (⟨"BridgeNet$Bridge", "learn", "(III)V"⟩, 9)) (List.mem_of_getElem? (i := 11) rfl)
theorem ks_Br_flood : Cond.selects "BridgeNet$Bridge" y_Br_flood y_Br_flood ∈ bn_all := bn_sel (q := (⟨"BridgeNet$Bridge", "flood", "(LBridgeNet$Port;LBridgeNet$Frame;)I"⟩, 9)) (List.mem_of_getElem? (i := 12) rfl)
theorem ks_Br_passTo : Cond.selects "BridgeNet$Bridge" y_Br_passTo y_Br_passTo ∈ bn_all := bn_sel (q := (⟨"BridgeNet$Bridge", "passTo", "(ILBridgeNet$Port;LBridgeNet$Frame;)I"⟩, 9)) (List.mem_of_getElem? (i := 13) rfl)
theorem ks_Br_answerProposal : Cond.selects "BridgeNet$Bridge" y_Br_answerProposal y_Br_answerProposal ∈ bn_all := bn_sel (q := (⟨"BridgeNet$Bridge", "answerProposal", "(LBridgeNet$Port;)V"⟩, 9)) (List.mem_of_getElem? (i := 14) rfl)
theorem ks_Br_proposeOnOthers : Cond.selects "BridgeNet$Bridge" y_Br_proposeOnOthers y_Br_proposeOnOthers ∈ bn_all := bn_sel (q := (⟨"BridgeNet$Bridge", "proposeOnOthers", "(LBridgeNet$Port;)V"⟩, 9)) (List.mem_of_getElem? (i := 15) rfl)
theorem ks_Mo_raise : Cond.selects "BridgeNetModel" y_Mo_raise y_Mo_raise ∈ bn_all := bn_sel (q := (⟨"BridgeNetModel", "raise", "(I)I"⟩, 32)) (List.mem_of_getElem? (i := 16) rfl)
theorem ks_Mo_shift : Cond.selects "BridgeNetModel" y_Mo_shift y_Mo_shift ∈ bn_all := bn_sel (q := (⟨"BridgeNetModel", "shift", "(I)V"⟩, 32)) (List.mem_of_getElem? (i := 17) rfl)
theorem ks_Mo_copy : Cond.selects "BridgeNetModel" y_Mo_copy y_Mo_copy ∈ bn_all := bn_sel (q := (⟨"BridgeNetModel", "copy", "(II)V"⟩, 32)) (List.mem_of_getElem? (i := 18) rfl)
theorem ks_Mo_toldOn : Cond.selects "BridgeNetModel" y_Mo_toldOn y_Mo_toldOn ∈ bn_all := bn_sel (q := (⟨"BridgeNetModel", "toldOn", "(I)V"⟩, 32)) (List.mem_of_getElem? (i := 19) rfl)
theorem ks_Mo_compute : Cond.selects "BridgeNetModel" y_Mo_compute y_Mo_compute ∈ bn_all := bn_sel (q := (⟨"BridgeNetModel", "compute", "(I)V"⟩, 32)) (List.mem_of_getElem? (i := 20) rfl)
theorem ks_Mo_choose : Cond.selects "BridgeNetModel" y_Mo_choose y_Mo_choose ∈ bn_all := bn_sel (q := (⟨"BridgeNetModel", "choose", "(I)V"⟩, 32)) (List.mem_of_getElem? (i := 21) rfl)
theorem ks_Mo_id : Cond.selects "BridgeNetModel" y_Mo_id y_Mo_id ∈ bn_all := bn_sel (q := (⟨"BridgeNetModel", "id", "(I)I"⟩, 32)) (List.mem_of_getElem? (i := 22) rfl)
theorem ks_Mo_roleOf : Cond.selects "BridgeNetModel" y_Mo_roleOf y_Mo_roleOf ∈ bn_all := bn_sel (q := (⟨"BridgeNetModel", "roleOf", "(I)I"⟩, 32)) (List.mem_of_getElem? (i := 23) rfl)
theorem ks_Mo_wouldTell : Cond.selects "BridgeNetModel" y_Mo_wouldTell y_Mo_wouldTell ∈ bn_all := bn_sel (q := (⟨"BridgeNetModel", "wouldTell", "(I)J"⟩, 32)) (List.mem_of_getElem? (i := 24) rfl)
theorem ks_Mo_take : Cond.selects "BridgeNetModel" y_Mo_take y_Mo_take ∈ bn_all := bn_sel (q := (⟨"BridgeNetModel", "take", "(II)V"⟩, 32)) (List.mem_of_getElem? (i := 25) rfl)
theorem ks_Mo_isLinked : Cond.selects "BridgeNetModel" y_Mo_isLinked y_Mo_isLinked ∈ bn_all := bn_sel (q := (⟨"BridgeNetModel", "isLinked", "(I)Z"⟩, 32)) (List.mem_of_getElem? (i := 26) rfl)
theorem ks_Mo_tellAll : Cond.selects "BridgeNetModel" y_Mo_tellAll y_Mo_tellAll ∈ bn_all := bn_sel (q := (⟨"BridgeNetModel", "tellAll", "(I)V"⟩, 32)) (List.mem_of_getElem? (i := 27) rfl)
theorem ks_Mo_tell : Cond.selects "BridgeNetModel" y_Mo_tell y_Mo_tell ∈ bn_all := bn_sel (q := (⟨"BridgeNetModel", "tell", "(I)V"⟩, 32)) (List.mem_of_getElem? (i := 28) rfl)
theorem ks_Mo_post : Cond.selects "BridgeNetModel" y_Mo_post y_Mo_post ∈ bn_all := bn_sel (q := (⟨"BridgeNetModel", "post", "(II)I"⟩, 32)) (List.mem_of_getElem? (i := 29) rfl)
theorem ks_Mo_agree : Cond.selects "BridgeNetModel" y_Mo_agree y_Mo_agree ∈ bn_all := bn_sel (q := (⟨"BridgeNetModel", "agree", "(I)V"⟩, 32)) (List.mem_of_getElem? (i := 30) rfl)
theorem ks_Mo_agreedOn : Cond.selects "BridgeNetModel" y_Mo_agreedOn y_Mo_agreedOn ∈ bn_all := bn_sel (q := (⟨"BridgeNetModel", "agreedOn", "(I)V"⟩, 32)) (List.mem_of_getElem? (i := 31) rfl)
theorem ks_Mo_frame : Cond.selects "BridgeNetModel" y_Mo_frame y_Mo_frame ∈ bn_all := bn_sel (q := (⟨"BridgeNetModel", "frame", "(I)I"⟩, 32)) (List.mem_of_getElem? (i := 32) rfl)
theorem ks_Mo_has : Cond.selects "BridgeNetModel" y_Mo_has y_Mo_has ∈ bn_all := bn_sel (q := (⟨"BridgeNetModel", "has", "(II)Z"⟩, 32)) (List.mem_of_getElem? (i := 33) rfl)
theorem ks_Mo_out : Cond.selects "BridgeNetModel" y_Mo_out y_Mo_out ∈ bn_all := bn_sel (q := (⟨"BridgeNetModel", "out", "(I)I"⟩, 32)) (List.mem_of_getElem? (i := 34) rfl)
theorem ks_Mo_ageOf : Cond.selects "BridgeNetModel" y_Mo_ageOf y_Mo_ageOf ∈ bn_all := bn_sel (q := (⟨"BridgeNetModel", "ageOf", "(I)V"⟩, 32)) (List.mem_of_getElem? (i := 35) rfl)
theorem ks_Mo_clear : Cond.selects "BridgeNetModel" y_Mo_clear y_Mo_clear ∈ bn_all := bn_sel (q := (⟨"BridgeNetModel", "clear", "(I)V"⟩, 32)) (List.mem_of_getElem? (i := 36) rfl)
end
section
/-! contracts of the class, written by wip/whole/gen_class.py -/
def r_Ve_of (N : bn_S) (ro : Int32) (co : Int32) (br : Int32) (po : Int32) : Int64 := ((((Int32.toInt64 ro) <<< (Int32.toInt64 32 &&& 63)) ||| ((Int32.toInt64 co) <<< (Int32.toInt64 16 &&& 63))) ||| ((Int32.toInt64 br) <<< (Int32.toInt64 8 &&& 63))) ||| (Int32.toInt64 po)
set_option maxHeartbeats 4000000 in
set_option maxRecDepth 100000 in
theorem c_Ve_of (l : Launch) (D : va_G) (ar : Nat → ClassId) (ad : Nat → Nat → Nat) (nf : Nat) (N : bn_S) (ro : Int32) (co : Int32) (br : Int32) (po : Int32) : bn_L l y_Ve_of w_Ve_of { frames := 0, cells := 0, slots := 0, locals := 0 } (bn_y D ar ad nf) N [.int ro, .int co, .int br, .int po] (r_Ve_of N ro co br po) N := by
  intro sz
  refine bn_start (cc := b_Ve_of) (maxL := 4) (ret := (Option.some Jvm.ClassFile.FieldType.long)) (by decide) rfl (Nat.le_of_ble_eq_true rfl) ?_
  intro p e s m args below meth c ls hsz F hml hr hk hl h
  subst hsz
  have E1 := F.1
  have E2 := F.2.1
  have hl : lv_has ls 4 [(0, .int ro), (1, .int co), (2, .int br), (3, .int po)] := hl
  refine lv_iload_n E1 E2 d_Ve_of_0 rfl (lv_at hl 0 rfl) ?_
  refine lv_i2l (v := Int32.toInt64 ro) E1 E2 d_Ve_of_1 rfl ?_
  refine lv_bipush (v := 32) E1 E2 d_Ve_of_2 (by decide) ?_
  refine lv_lshl (v := (Int32.toInt64 ro) <<< (Int32.toInt64 32 &&& 63)) E1 E2 d_Ve_of_4 rfl ?_
  refine lv_iload_n E1 E2 d_Ve_of_5 rfl (lv_at hl 1 rfl) ?_
  refine lv_i2l (v := Int32.toInt64 co) E1 E2 d_Ve_of_6 rfl ?_
  refine lv_bipush (v := 16) E1 E2 d_Ve_of_7 (by decide) ?_
  refine lv_lshl (v := (Int32.toInt64 co) <<< (Int32.toInt64 16 &&& 63)) E1 E2 d_Ve_of_9 rfl ?_
  refine lv_lor E1 E2 d_Ve_of_10 ?_
  refine lv_iload_n E1 E2 d_Ve_of_11 rfl (lv_at hl 2 rfl) ?_
  refine lv_i2l (v := Int32.toInt64 br) E1 E2 d_Ve_of_12 rfl ?_
  refine lv_bipush (v := 8) E1 E2 d_Ve_of_13 (by decide) ?_
  refine lv_lshl (v := (Int32.toInt64 br) <<< (Int32.toInt64 8 &&& 63)) E1 E2 d_Ve_of_15 rfl ?_
  refine lv_lor E1 E2 d_Ve_of_16 ?_
  refine lv_iload_n E1 E2 d_Ve_of_17 rfl (lv_at hl 3 rfl) ?_
  refine lv_i2l (v := Int32.toInt64 po) E1 E2 d_Ve_of_18 rfl ?_
  refine lv_lor E1 E2 d_Ve_of_19 ?_
  have hq : r_Ve_of N ro co br po = ((((Int32.toInt64 ro) <<< (Int32.toInt64 32 &&& 63)) ||| ((Int32.toInt64 co) <<< (Int32.toInt64 16 &&& 63))) ||| ((Int32.toInt64 br) <<< (Int32.toInt64 8 &&& 63))) ||| (Int32.toInt64 po) := rfl
  exact bn_retl F hr hk h hq.symm rfl d_Ve_of_20
def r_Ve_farther (N : bn_S) (v : Int64) (co : Int32) : Int64 := v + ((Int32.toInt64 co) <<< (Int32.toInt64 16 &&& 63))
set_option maxHeartbeats 4000000 in
set_option maxRecDepth 100000 in
theorem c_Ve_farther (l : Launch) (D : va_G) (ar : Nat → ClassId) (ad : Nat → Nat → Nat) (nf : Nat) (N : bn_S) (v : Int64) (co : Int32) : bn_L l y_Ve_farther w_Ve_farther { frames := 0, cells := 0, slots := 0, locals := 0 } (bn_y D ar ad nf) N [.long v, .int co] (r_Ve_farther N v co) N := by
  intro sz
  refine bn_start (cc := b_Ve_farther) (maxL := 3) (ret := (Option.some Jvm.ClassFile.FieldType.long)) (by decide) rfl (Nat.le_of_ble_eq_true rfl) ?_
  intro p e s m args below meth c ls hsz F hml hr hk hl h
  subst hsz
  have E1 := F.1
  have E2 := F.2.1
  have hl : lv_has ls 3 [(0, .long v), (2, .int co)] := hl
  refine lv_lload_n E1 E2 d_Ve_farther_0 rfl (lv_at hl 0 rfl) ?_
  refine lv_iload_n E1 E2 d_Ve_farther_1 rfl (lv_at hl 1 rfl) ?_
  refine lv_i2l (v := Int32.toInt64 co) E1 E2 d_Ve_farther_2 rfl ?_
  refine lv_bipush (v := 16) E1 E2 d_Ve_farther_3 (by decide) ?_
  refine lv_lshl (v := (Int32.toInt64 co) <<< (Int32.toInt64 16 &&& 63)) E1 E2 d_Ve_farther_5 rfl ?_
  refine lv_ladd E1 E2 d_Ve_farther_6 ?_
  have hq : r_Ve_farther N v co = v + ((Int32.toInt64 co) <<< (Int32.toInt64 16 &&& 63)) := rfl
  exact bn_retl F hr hk h hq.symm rfl d_Ve_farther_7
def r_Ve_rootOf (N : bn_S) (v : Int64) : Int32 := Int64.toInt32 (v >>> (Int32.toInt64 32 &&& 63))
set_option maxHeartbeats 4000000 in
set_option maxRecDepth 100000 in
theorem c_Ve_rootOf (l : Launch) (D : va_G) (ar : Nat → ClassId) (ad : Nat → Nat → Nat) (nf : Nat) (N : bn_S) (v : Int64) : bn_I l y_Ve_rootOf w_Ve_rootOf { frames := 0, cells := 0, slots := 0, locals := 0 } (bn_y D ar ad nf) N [.long v] (r_Ve_rootOf N v) N := by
  intro sz
  refine bn_start (cc := b_Ve_rootOf) (maxL := 2) (ret := (Option.some Jvm.ClassFile.FieldType.int)) (by decide) rfl (Nat.le_of_ble_eq_true rfl) ?_
  intro p e s m args below meth c ls hsz F hml hr hk hl h
  subst hsz
  have E1 := F.1
  have E2 := F.2.1
  have hl : lv_has ls 2 [(0, .long v)] := hl
  refine lv_lload_n E1 E2 d_Ve_rootOf_0 rfl (lv_at hl 0 rfl) ?_
  refine lv_bipush (v := 32) E1 E2 d_Ve_rootOf_1 (by decide) ?_
  refine lv_lshr (v := v >>> (Int32.toInt64 32 &&& 63)) E1 E2 d_Ve_rootOf_3 rfl ?_
  refine lv_l2i (v := Int64.toInt32 (v >>> (Int32.toInt64 32 &&& 63))) E1 E2 d_Ve_rootOf_4 rfl ?_
  have hq : r_Ve_rootOf N v = Int64.toInt32 (v >>> (Int32.toInt64 32 &&& 63)) := rfl
  exact bn_reti F hr hk h hq.symm rfl d_Ve_rootOf_5
def r_Ve_costOf (N : bn_S) (v : Int64) : Int32 := (Int64.toInt32 (v >>> (Int32.toInt64 16 &&& 63))) &&& 65535
set_option maxHeartbeats 4000000 in
set_option maxRecDepth 100000 in
theorem c_Ve_costOf (l : Launch) (D : va_G) (ar : Nat → ClassId) (ad : Nat → Nat → Nat) (nf : Nat) (N : bn_S) (v : Int64) : bn_I l y_Ve_costOf w_Ve_costOf { frames := 0, cells := 0, slots := 0, locals := 0 } (bn_y D ar ad nf) N [.long v] (r_Ve_costOf N v) N := by
  intro sz
  refine bn_start (cc := b_Ve_costOf) (maxL := 2) (ret := (Option.some Jvm.ClassFile.FieldType.int)) (by decide) rfl (Nat.le_of_ble_eq_true rfl) ?_
  intro p e s m args below meth c ls hsz F hml hr hk hl h
  subst hsz
  have E1 := F.1
  have E2 := F.2.1
  have hl : lv_has ls 2 [(0, .long v)] := hl
  refine lv_lload_n E1 E2 d_Ve_costOf_0 rfl (lv_at hl 0 rfl) ?_
  refine lv_bipush (v := 16) E1 E2 d_Ve_costOf_1 (by decide) ?_
  refine lv_lshr (v := v >>> (Int32.toInt64 16 &&& 63)) E1 E2 d_Ve_costOf_3 rfl ?_
  refine lv_l2i (v := Int64.toInt32 (v >>> (Int32.toInt64 16 &&& 63))) E1 E2 d_Ve_costOf_4 rfl ?_
  refine lv_ldc (own := "BridgeNet$Vector") E1 E2 F.2.2.1 (F.2.2.2.1 _ k_275) d_Ve_costOf_5 ?_
  refine lv_iand E1 E2 d_Ve_costOf_7 ?_
  have hq : r_Ve_costOf N v = (Int64.toInt32 (v >>> (Int32.toInt64 16 &&& 63))) &&& 65535 := rfl
  exact bn_reti F hr hk h hq.symm rfl d_Ve_costOf_8
def r_Ve_bridgeOf (N : bn_S) (v : Int64) : Int32 := (Int64.toInt32 (v >>> (Int32.toInt64 8 &&& 63))) &&& 255
set_option maxHeartbeats 4000000 in
set_option maxRecDepth 100000 in
theorem c_Ve_bridgeOf (l : Launch) (D : va_G) (ar : Nat → ClassId) (ad : Nat → Nat → Nat) (nf : Nat) (N : bn_S) (v : Int64) : bn_I l y_Ve_bridgeOf w_Ve_bridgeOf { frames := 0, cells := 0, slots := 0, locals := 0 } (bn_y D ar ad nf) N [.long v] (r_Ve_bridgeOf N v) N := by
  intro sz
  refine bn_start (cc := b_Ve_bridgeOf) (maxL := 2) (ret := (Option.some Jvm.ClassFile.FieldType.int)) (by decide) rfl (Nat.le_of_ble_eq_true rfl) ?_
  intro p e s m args below meth c ls hsz F hml hr hk hl h
  subst hsz
  have E1 := F.1
  have E2 := F.2.1
  have hl : lv_has ls 2 [(0, .long v)] := hl
  refine lv_lload_n E1 E2 d_Ve_bridgeOf_0 rfl (lv_at hl 0 rfl) ?_
  refine lv_bipush (v := 8) E1 E2 d_Ve_bridgeOf_1 (by decide) ?_
  refine lv_lshr (v := v >>> (Int32.toInt64 8 &&& 63)) E1 E2 d_Ve_bridgeOf_3 rfl ?_
  refine lv_l2i (v := Int64.toInt32 (v >>> (Int32.toInt64 8 &&& 63))) E1 E2 d_Ve_bridgeOf_4 rfl ?_
  refine lv_sipush (v := 255) E1 E2 d_Ve_bridgeOf_5 (by decide) ?_
  refine lv_iand E1 E2 d_Ve_bridgeOf_8 ?_
  have hq : r_Ve_bridgeOf N v = (Int64.toInt32 (v >>> (Int32.toInt64 8 &&& 63))) &&& 255 := rfl
  exact bn_reti F hr hk h hq.symm rfl d_Ve_bridgeOf_9
def r_Ve_portOf (N : bn_S) (v : Int64) : Int32 := (Int64.toInt32 v) &&& 255
set_option maxHeartbeats 4000000 in
set_option maxRecDepth 100000 in
theorem c_Ve_portOf (l : Launch) (D : va_G) (ar : Nat → ClassId) (ad : Nat → Nat → Nat) (nf : Nat) (N : bn_S) (v : Int64) : bn_I l y_Ve_portOf w_Ve_portOf { frames := 0, cells := 0, slots := 0, locals := 0 } (bn_y D ar ad nf) N [.long v] (r_Ve_portOf N v) N := by
  intro sz
  refine bn_start (cc := b_Ve_portOf) (maxL := 2) (ret := (Option.some Jvm.ClassFile.FieldType.int)) (by decide) rfl (Nat.le_of_ble_eq_true rfl) ?_
  intro p e s m args below meth c ls hsz F hml hr hk hl h
  subst hsz
  have E1 := F.1
  have E2 := F.2.1
  have hl : lv_has ls 2 [(0, .long v)] := hl
  refine lv_lload_n E1 E2 d_Ve_portOf_0 rfl (lv_at hl 0 rfl) ?_
  refine lv_l2i (v := Int64.toInt32 v) E1 E2 d_Ve_portOf_1 rfl ?_
  refine lv_sipush (v := 255) E1 E2 d_Ve_portOf_2 (by decide) ?_
  refine lv_iand E1 E2 d_Ve_portOf_5 ?_
  have hq : r_Ve_portOf N v = (Int64.toInt32 v) &&& 255 := rfl
  exact bn_reti F hr hk h hq.symm rfl d_Ve_portOf_6
def r_Po_isFree (N : bn_S) (x : Nat) : Int32 := (bn_oc (N.2.2.2 2 x) (bn_oc (N.2.2.2 3 x) 1 (fun y4 => 0)) (fun y2 => 0))
set_option maxHeartbeats 4000000 in
set_option maxRecDepth 100000 in
theorem c_Po_isFree (l : Launch) (D : va_G) (ar : Nat → ClassId) (ad : Nat → Nat → Nat) (nf : Nat) (N : bn_S) (x : Nat) (hx : x < 20) : bn_I l y_Po_isFree w_Po_isFree { frames := 0, cells := 0, slots := 0, locals := 0 } (bn_y D ar ad nf) N [.ref (ad 6 x)] (r_Po_isFree N x) N := by
  intro sz
  refine bn_start (cc := b_Po_isFree) (maxL := 1) (ret := (Option.some Jvm.ClassFile.FieldType.boolean)) (by decide) rfl (Nat.le_of_ble_eq_true rfl) ?_
  intro p e s m args below meth c ls hsz F hml hr hk hl h
  subst hsz
  have E1 := F.1
  have E2 := F.2.1
  have hl : lv_has ls 1 [(0, .ref (ad 6 x))] := hl
  refine lv_aload_n E1 E2 d_Po_isFree_0 rfl (lv_at hl 0 rfl) ?_
  refine g_Po_peer F h (by omega) k_143 d_Po_isFree_1 (fun ho1 => ?_) (fun y2 ho1 hy2 => ?_)
  · skip
    refine lv_ifnonnullN E1 E2 d_Po_isFree_4 ?_
    refine lv_aload_n E1 E2 d_Po_isFree_7 rfl (lv_at hl 0 rfl) ?_
    refine g_Po_station F h (by omega) k_146 d_Po_isFree_8 (fun ho3 => ?_) (fun y4 ho3 hy4 => ?_)
    · skip
      refine lv_ifnonnullN E1 E2 d_Po_isFree_11 ?_
      refine lv_iconst (v := 1) E1 E2 d_Po_isFree_14 (by decide) ?_
      refine lv_goto E1 E2 d_Po_isFree_15 rfl ?_
      have hq : r_Po_isFree N x = 1 := Eq.trans (bn_oc_n ho1) (bn_oc_n ho3)
      exact bn_retz F hr rfl hk h hq.symm rfl d_Po_isFree_19
    · skip
      refine lv_ifnonnull E1 E2 d_Po_isFree_11 rfl ?_
      refine lv_iconst (v := 0) E1 E2 d_Po_isFree_18 (by decide) ?_
      have hq : r_Po_isFree N x = 0 := Eq.trans (bn_oc_n ho1) (bn_oc_s ho3)
      exact bn_retz F hr rfl hk h hq.symm rfl d_Po_isFree_19
  · skip
    refine lv_ifnonnull E1 E2 d_Po_isFree_4 rfl ?_
    refine lv_iconst (v := 0) E1 E2 d_Po_isFree_18 (by decide) ?_
    have hq : r_Po_isFree N x = 0 := bn_oc_s ho1
    exact bn_retz F hr rfl hk h hq.symm rfl d_Po_isFree_19
def r_Po_isLinkedDesignated (N : bn_S) (x : Nat) : Int32 := (bn_oc (N.2.2.2 2 x) 0 (fun y2 => (if N.1 9 x = 2 then 1 else 0)))
set_option maxHeartbeats 4000000 in
set_option maxRecDepth 100000 in
theorem c_Po_isLinkedDesignated (l : Launch) (D : va_G) (ar : Nat → ClassId) (ad : Nat → Nat → Nat) (nf : Nat) (N : bn_S) (x : Nat) (hx : x < 20) : bn_I l y_Po_isLinkedDesignated w_Po_isLinkedDesignated { frames := 0, cells := 0, slots := 0, locals := 0 } (bn_y D ar ad nf) N [.ref (ad 6 x)] (r_Po_isLinkedDesignated N x) N := by
  intro sz
  refine bn_start (cc := b_Po_isLinkedDesignated) (maxL := 1) (ret := (Option.some Jvm.ClassFile.FieldType.boolean)) (by decide) rfl (Nat.le_of_ble_eq_true rfl) ?_
  intro p e s m args below meth c ls hsz F hml hr hk hl h
  subst hsz
  have E1 := F.1
  have E2 := F.2.1
  have hl : lv_has ls 1 [(0, .ref (ad 6 x))] := hl
  refine lv_aload_n E1 E2 d_Po_isLinkedDesignated_0 rfl (lv_at hl 0 rfl) ?_
  refine g_Po_peer F h (by omega) k_143 d_Po_isLinkedDesignated_1 (fun ho1 => ?_) (fun y2 ho1 hy2 => ?_)
  · skip
    refine lv_ifnullN E1 E2 d_Po_isLinkedDesignated_4 rfl ?_
    refine lv_iconst (v := 0) E1 E2 d_Po_isLinkedDesignated_19 (by decide) ?_
    have hq : r_Po_isLinkedDesignated N x = 0 := bn_oc_n ho1
    exact bn_retz F hr rfl hk h hq.symm rfl d_Po_isLinkedDesignated_20
  · skip
    refine lv_ifnull E1 E2 d_Po_isLinkedDesignated_4 ?_
    refine lv_aload_n E1 E2 d_Po_isLinkedDesignated_7 rfl (lv_at hl 0 rfl) ?_
    refine g_Po_role F h (by omega) k_155 (v := N.1 9 x) rfl d_Po_isLinkedDesignated_8 ?_
    refine lv_iconst (v := 2) E1 E2 d_Po_isLinkedDesignated_11 (by decide) ?_
    refine lv_icmp_ne E1 E2 d_Po_isLinkedDesignated_12 rfl (fun h3 => ?_) (fun h3 => ?_)
    · have h3 : ¬ (N.1 9 x = 2) := h3
      refine lv_iconst (v := 0) E1 E2 d_Po_isLinkedDesignated_19 (by decide) ?_
      have hq : r_Po_isLinkedDesignated N x = 0 := Eq.trans (bn_oc_s ho1) (if_neg h3)
      exact bn_retz F hr rfl hk h hq.symm rfl d_Po_isLinkedDesignated_20
    · have h3 : N.1 9 x = 2 := h3
      refine lv_iconst (v := 1) E1 E2 d_Po_isLinkedDesignated_15 (by decide) ?_
      refine lv_goto E1 E2 d_Po_isLinkedDesignated_16 rfl ?_
      have hq : r_Po_isLinkedDesignated N x = 1 := Eq.trans (bn_oc_s ho1) (if_pos h3)
      exact bn_retz F hr rfl hk h hq.symm rfl d_Po_isLinkedDesignated_20
def r_Po_carries (N : bn_S) (x : Nat) (v : Int32) : Int32 := (if (N.1 6 x) &&& v = 0 then 0 else 1)
set_option maxHeartbeats 4000000 in
set_option maxRecDepth 100000 in
theorem c_Po_carries (l : Launch) (D : va_G) (ar : Nat → ClassId) (ad : Nat → Nat → Nat) (nf : Nat) (N : bn_S) (x : Nat) (hx : x < 20) (v : Int32) : bn_I l y_Po_carries w_Po_carries { frames := 0, cells := 0, slots := 0, locals := 0 } (bn_y D ar ad nf) N [.ref (ad 6 x), .int v] (r_Po_carries N x v) N := by
  intro sz
  refine bn_start (cc := b_Po_carries) (maxL := 2) (ret := (Option.some Jvm.ClassFile.FieldType.boolean)) (by decide) rfl (Nat.le_of_ble_eq_true rfl) ?_
  intro p e s m args below meth c ls hsz F hml hr hk hl h
  subst hsz
  have E1 := F.1
  have E2 := F.2.1
  have hl : lv_has ls 2 [(0, .ref (ad 6 x)), (1, .int v)] := hl
  refine lv_aload_n E1 E2 d_Po_carries_0 rfl (lv_at hl 0 rfl) ?_
  refine g_Po_vlans F h (by omega) k_141 (v := N.1 6 x) rfl d_Po_carries_1 ?_
  refine lv_iload_n E1 E2 d_Po_carries_4 rfl (lv_at hl 1 rfl) ?_
  refine lv_iand E1 E2 d_Po_carries_5 ?_
  refine lv_if_eq E1 E2 d_Po_carries_6 rfl (fun h1 => ?_) (fun h1 => ?_)
  · have h1 : (N.1 6 x) &&& v = 0 := h1
    refine lv_iconst (v := 0) E1 E2 d_Po_carries_13 (by decide) ?_
    have hq : r_Po_carries N x v = 0 := if_pos h1
    exact bn_retz F hr rfl hk h hq.symm rfl d_Po_carries_14
  · have h1 : ¬ ((N.1 6 x) &&& v = 0) := h1
    refine lv_iconst (v := 1) E1 E2 d_Po_carries_9 (by decide) ?_
    refine lv_goto E1 E2 d_Po_carries_10 rfl ?_
    have hq : r_Po_carries N x v = 1 := if_neg h1
    exact bn_retz F hr rfl hk h hq.symm rfl d_Po_carries_14
def r_Po_hopsThrough (N : bn_S) (x : Nat) : Int32 := (N.1 7 x) + 1
set_option maxHeartbeats 4000000 in
set_option maxRecDepth 100000 in
theorem c_Po_hopsThrough (l : Launch) (D : va_G) (ar : Nat → ClassId) (ad : Nat → Nat → Nat) (nf : Nat) (N : bn_S) (x : Nat) (hx : x < 20) : bn_I l y_Po_hopsThrough w_Po_hopsThrough { frames := 0, cells := 0, slots := 0, locals := 0 } (bn_y D ar ad nf) N [.ref (ad 6 x)] (r_Po_hopsThrough N x) N := by
  intro sz
  refine bn_start (cc := b_Po_hopsThrough) (maxL := 1) (ret := (Option.some Jvm.ClassFile.FieldType.int)) (by decide) rfl (Nat.le_of_ble_eq_true rfl) ?_
  intro p e s m args below meth c ls hsz F hml hr hk hl h
  subst hsz
  have E1 := F.1
  have E2 := F.2.1
  have hl : lv_has ls 1 [(0, .ref (ad 6 x))] := hl
  refine lv_aload_n E1 E2 d_Po_hopsThrough_0 rfl (lv_at hl 0 rfl) ?_
  refine g_Po_infoHops F h (by omega) k_153 (v := N.1 7 x) rfl d_Po_hopsThrough_1 ?_
  refine lv_iconst (v := 1) E1 E2 d_Po_hopsThrough_4 (by decide) ?_
  refine lv_iadd E1 E2 d_Po_hopsThrough_5 ?_
  have hq : r_Po_hopsThrough N x = (N.1 7 x) + 1 := rfl
  exact bn_reti F hr hk h hq.symm rfl d_Po_hopsThrough_6
def o_Po_propose (N : bn_S) (x : Nat) : bn_S := (sI (sU (sI N 10 x 0) 3 x 1) 11 x 4)
set_option maxHeartbeats 4000000 in
set_option maxRecDepth 100000 in
theorem c_Po_propose (l : Launch) (D : va_G) (ar : Nat → ClassId) (ad : Nat → Nat → Nat) (nf : Nat) (N : bn_S) (x : Nat) (hx : x < 20) : bn_V l y_Po_propose w_Po_propose { frames := 0, cells := 0, slots := 0, locals := 0 } (bn_y D ar ad nf) N [.ref (ad 6 x)] (o_Po_propose N x) := by
  intro sz
  refine bn_start (cc := b_Po_propose) (maxL := 1) (ret := (Option.none : Option Jvm.ClassFile.FieldType)) (by decide) rfl (Nat.le_of_ble_eq_true rfl) ?_
  intro p e s m args below meth c ls hsz F hml hr hk hl h
  subst hsz
  have E1 := F.1
  have E2 := F.2.1
  have hl : lv_has ls 1 [(0, .ref (ad 6 x))] := hl
  refine lv_aload_n E1 E2 d_Po_propose_0 rfl (lv_at hl 0 rfl) ?_
  refine lv_iconst (v := 0) E1 E2 d_Po_propose_1 (by decide) ?_
  refine p_Po_state F h (by omega) k_157 d_Po_propose_2 (fun H locs h => ?_)
  have h : bn_H (bn_y D ar ad nf) s.heap H locs (sI N 10 x 0) := h
  refine lv_aload_n E1 E2 d_Po_propose_5 rfl (lv_at hl 0 rfl) ?_
  refine lv_iconst (v := 1) E1 E2 d_Po_propose_6 (by decide) ?_
  refine p_Po_proposing F h (by omega) k_159 (v := 1) (by omega) d_Po_propose_7 (fun H locs h => ?_)
  have h : bn_H (bn_y D ar ad nf) s.heap H locs (sU (sI N 10 x 0) 3 x 1) := h
  refine lv_aload_n E1 E2 d_Po_propose_10 rfl (lv_at hl 0 rfl) ?_
  refine lv_iconst (v := 4) E1 E2 d_Po_propose_11 (by decide) ?_
  refine p_Po_waits F h (by omega) k_162 d_Po_propose_12 (fun H locs h => ?_)
  have h : bn_H (bn_y D ar ad nf) s.heap H locs (sI (sU (sI N 10 x 0) 3 x 1) 11 x 4) := h
  have hq : o_Po_propose N x = (sI (sU (sI N 10 x 0) 3 x 1) 11 x 4) := rfl
  exact bn_retv F hr hk h hq.symm d_Po_propose_15
def o_Po_forward (N : bn_S) (x : Nat) : bn_S := (sI (sU (sI N 10 x 2) 3 x 0) 11 x 0)
set_option maxHeartbeats 4000000 in
set_option maxRecDepth 100000 in
theorem c_Po_forward (l : Launch) (D : va_G) (ar : Nat → ClassId) (ad : Nat → Nat → Nat) (nf : Nat) (N : bn_S) (x : Nat) (hx : x < 20) : bn_V l y_Po_forward w_Po_forward { frames := 0, cells := 0, slots := 0, locals := 0 } (bn_y D ar ad nf) N [.ref (ad 6 x)] (o_Po_forward N x) := by
  intro sz
  refine bn_start (cc := b_Po_forward) (maxL := 1) (ret := (Option.none : Option Jvm.ClassFile.FieldType)) (by decide) rfl (Nat.le_of_ble_eq_true rfl) ?_
  intro p e s m args below meth c ls hsz F hml hr hk hl h
  subst hsz
  have E1 := F.1
  have E2 := F.2.1
  have hl : lv_has ls 1 [(0, .ref (ad 6 x))] := hl
  refine lv_aload_n E1 E2 d_Po_forward_0 rfl (lv_at hl 0 rfl) ?_
  refine lv_iconst (v := 2) E1 E2 d_Po_forward_1 (by decide) ?_
  refine p_Po_state F h (by omega) k_157 d_Po_forward_2 (fun H locs h => ?_)
  have h : bn_H (bn_y D ar ad nf) s.heap H locs (sI N 10 x 2) := h
  refine lv_aload_n E1 E2 d_Po_forward_5 rfl (lv_at hl 0 rfl) ?_
  refine lv_iconst (v := 0) E1 E2 d_Po_forward_6 (by decide) ?_
  refine p_Po_proposing F h (by omega) k_159 (v := 0) (by omega) d_Po_forward_7 (fun H locs h => ?_)
  have h : bn_H (bn_y D ar ad nf) s.heap H locs (sU (sI N 10 x 2) 3 x 0) := h
  refine lv_aload_n E1 E2 d_Po_forward_10 rfl (lv_at hl 0 rfl) ?_
  refine lv_iconst (v := 0) E1 E2 d_Po_forward_11 (by decide) ?_
  refine p_Po_waits F h (by omega) k_162 d_Po_forward_12 (fun H locs h => ?_)
  have h : bn_H (bn_y D ar ad nf) s.heap H locs (sI (sU (sI N 10 x 2) 3 x 0) 11 x 0) := h
  have hq : o_Po_forward N x = (sI (sU (sI N 10 x 2) 3 x 0) 11 x 0) := rfl
  exact bn_retv F hr hk h hq.symm d_Po_forward_15
def o_Po_become (N : bn_S) (x : Nat) (r : Int32) : bn_S := (if r = 2 then (bn_oc (N.2.2.2 3 x) (o_Po_propose (sU (sI N 9 x r) 4 x 0) x) (fun y4 => (if r = 1 then (sI (sI (sU (sU (sI N 9 x r) 4 x 0) 3 x 0) 11 x 0) 10 x 2) else (sI (sI (sU (sU (sI N 9 x r) 4 x 0) 3 x 0) 11 x 0) 10 x 2)))) else (if r = 1 then (sI (sI (sU (sU (sI N 9 x r) 4 x 0) 3 x 0) 11 x 0) 10 x 2) else (sI (sI (sU (sU (sI N 9 x r) 4 x 0) 3 x 0) 11 x 0) 10 x 0)))
set_option maxHeartbeats 4000000 in
set_option maxRecDepth 100000 in
theorem c_Po_become (l : Launch) (D : va_G) (ar : Nat → ClassId) (ad : Nat → Nat → Nat) (nf : Nat) (N : bn_S) (x : Nat) (hx : x < 20) (r : Int32) : bn_V l y_Po_become w_Po_become { frames := 1, cells := 0, slots := 0, locals := 20 } (bn_y D ar ad nf) N [.ref (ad 6 x), .int r] (o_Po_become N x r) := by
  intro sz
  refine bn_start (cc := b_Po_become) (maxL := 2) (ret := (Option.none : Option Jvm.ClassFile.FieldType)) (by decide) rfl (Nat.le_of_ble_eq_true rfl) ?_
  intro p e s m args below meth c ls hsz F hml hr hk hl h
  subst hsz
  have E1 := F.1
  have E2 := F.2.1
  have hl : lv_has ls 2 [(0, .ref (ad 6 x)), (1, .int r)] := hl
  refine lv_aload_n E1 E2 d_Po_become_0 rfl (lv_at hl 0 rfl) ?_
  refine lv_iload_n E1 E2 d_Po_become_1 rfl (lv_at hl 1 rfl) ?_
  refine p_Po_role F h (by omega) k_155 d_Po_become_2 (fun H locs h => ?_)
  have h : bn_H (bn_y D ar ad nf) s.heap H locs (sI N 9 x r) := h
  refine lv_aload_n E1 E2 d_Po_become_5 rfl (lv_at hl 0 rfl) ?_
  refine lv_iconst (v := 0) E1 E2 d_Po_become_6 (by decide) ?_
  refine p_Po_agreed F h (by omega) k_161 (v := 0) (by omega) d_Po_become_7 (fun H locs h => ?_)
  have h : bn_H (bn_y D ar ad nf) s.heap H locs (sU (sI N 9 x r) 4 x 0) := h
  refine lv_iload_n E1 E2 d_Po_become_10 rfl (lv_at hl 1 rfl) ?_
  refine lv_iconst (v := 2) E1 E2 d_Po_become_11 (by decide) ?_
  refine lv_icmp_ne E1 E2 d_Po_become_12 rfl (fun h1 => ?_) (fun h1 => ?_)
  · have h1 : ¬ (r = 2) := h1
    refine lv_aload_n E1 E2 d_Po_become_29 rfl (lv_at hl 0 rfl) ?_
    refine lv_iconst (v := 0) E1 E2 d_Po_become_30 (by decide) ?_
    refine p_Po_proposing F h (by omega) k_159 (v := 0) (by omega) d_Po_become_31 (fun H locs h => ?_)
    have h : bn_H (bn_y D ar ad nf) s.heap H locs (sU (sU (sI N 9 x r) 4 x 0) 3 x 0) := h
    refine lv_aload_n E1 E2 d_Po_become_34 rfl (lv_at hl 0 rfl) ?_
    refine lv_iconst (v := 0) E1 E2 d_Po_become_35 (by decide) ?_
    refine p_Po_waits F h (by omega) k_162 d_Po_become_36 (fun H locs h => ?_)
    have h : bn_H (bn_y D ar ad nf) s.heap H locs (sI (sU (sU (sI N 9 x r) 4 x 0) 3 x 0) 11 x 0) := h
    refine lv_aload_n E1 E2 d_Po_become_39 rfl (lv_at hl 0 rfl) ?_
    refine lv_iload_n E1 E2 d_Po_become_40 rfl (lv_at hl 1 rfl) ?_
    refine lv_iconst (v := 1) E1 E2 d_Po_become_41 (by decide) ?_
    refine lv_icmp_eq E1 E2 d_Po_become_42 rfl (fun h2 => ?_) (fun h2 => ?_)
    · have h2 : r = 1 := h2
      refine lv_iconst (v := 2) E1 E2 d_Po_become_50 (by decide) ?_
      refine lv_goto E1 E2 d_Po_become_51 rfl ?_
      refine p_Po_state F h (by omega) k_157 d_Po_become_55 (fun H locs h => ?_)
      have h : bn_H (bn_y D ar ad nf) s.heap H locs (sI (sI (sU (sU (sI N 9 x r) 4 x 0) 3 x 0) 11 x 0) 10 x 2) := h
      have hq : o_Po_become N x r = (sI (sI (sU (sU (sI N 9 x r) 4 x 0) 3 x 0) 11 x 0) 10 x 2) := Eq.trans (if_neg h1) (if_pos h2)
      exact bn_retv F hr hk h hq.symm d_Po_become_58
    · have h2 : ¬ (r = 1) := h2
      refine lv_iload_n E1 E2 d_Po_become_45 rfl (lv_at hl 1 rfl) ?_
      refine lv_iconst (v := 2) E1 E2 d_Po_become_46 (by decide) ?_
      refine lv_icmp_ne E1 E2 d_Po_become_47 rfl (fun _ => ?_) (fun hz => absurd hz h1)
      refine lv_iconst (v := 0) E1 E2 d_Po_become_54 (by decide) ?_
      refine p_Po_state F h (by omega) k_157 d_Po_become_55 (fun H locs h => ?_)
      have h : bn_H (bn_y D ar ad nf) s.heap H locs (sI (sI (sU (sU (sI N 9 x r) 4 x 0) 3 x 0) 11 x 0) 10 x 0) := h
      have hq : o_Po_become N x r = (sI (sI (sU (sU (sI N 9 x r) 4 x 0) 3 x 0) 11 x 0) 10 x 0) := Eq.trans (if_neg h1) (if_neg h2)
      exact bn_retv F hr hk h hq.symm d_Po_become_58
  · have h1 : r = 2 := h1
    refine lv_aload_n E1 E2 d_Po_become_15 rfl (lv_at hl 0 rfl) ?_
    refine g_Po_station F h (by omega) k_146 d_Po_become_16 (fun ho3 => ?_) (fun y4 ho3 hy4 => ?_)
    · skip
      refine lv_ifnonnullN E1 E2 d_Po_become_19 ?_
      refine lv_aload_n E1 E2 d_Po_become_22 rfl (lv_at hl 0 rfl) ?_
      refine bn_callv F h (bn_runV (n := 0) (As := []) (rest := []) F hml hl.1 h (mm_6 (by omega)) rfl rfl (c_Po_propose l D ar ad nf (sU (sI N 9 x r) 4 x 0) x (by omega) _) (bn_goodV k_292 k_294 ks_Po_propose k_3 k_295) rfl rfl (by decide) ⟨by decide, by decide⟩ rfl rfl (Nat.le_of_ble_eq_true rfl) d_Po_become_23 ⟨Nat.zero_le _, Nat.zero_le _⟩) (fun H locs h => ?_)
      have h : bn_H (bn_y D ar ad nf) s.heap H locs (o_Po_propose (sU (sI N 9 x r) 4 x 0) x) := h
      refine lv_goto E1 E2 d_Po_become_26 rfl ?_
      have hq : o_Po_become N x r = (o_Po_propose (sU (sI N 9 x r) 4 x 0) x) := Eq.trans (if_pos h1) (bn_oc_n ho3)
      exact bn_retv F hr hk h hq.symm d_Po_become_58
    · skip
      refine lv_ifnonnull E1 E2 d_Po_become_19 rfl ?_
      refine lv_aload_n E1 E2 d_Po_become_29 rfl (lv_at hl 0 rfl) ?_
      refine lv_iconst (v := 0) E1 E2 d_Po_become_30 (by decide) ?_
      refine p_Po_proposing F h (by omega) k_159 (v := 0) (by omega) d_Po_become_31 (fun H locs h => ?_)
      have h : bn_H (bn_y D ar ad nf) s.heap H locs (sU (sU (sI N 9 x r) 4 x 0) 3 x 0) := h
      refine lv_aload_n E1 E2 d_Po_become_34 rfl (lv_at hl 0 rfl) ?_
      refine lv_iconst (v := 0) E1 E2 d_Po_become_35 (by decide) ?_
      refine p_Po_waits F h (by omega) k_162 d_Po_become_36 (fun H locs h => ?_)
      have h : bn_H (bn_y D ar ad nf) s.heap H locs (sI (sU (sU (sI N 9 x r) 4 x 0) 3 x 0) 11 x 0) := h
      refine lv_aload_n E1 E2 d_Po_become_39 rfl (lv_at hl 0 rfl) ?_
      refine lv_iload_n E1 E2 d_Po_become_40 rfl (lv_at hl 1 rfl) ?_
      refine lv_iconst (v := 1) E1 E2 d_Po_become_41 (by decide) ?_
      refine lv_icmp_eq E1 E2 d_Po_become_42 rfl (fun h5 => ?_) (fun h5 => ?_)
      · have h5 : r = 1 := h5
        refine lv_iconst (v := 2) E1 E2 d_Po_become_50 (by decide) ?_
        refine lv_goto E1 E2 d_Po_become_51 rfl ?_
        refine p_Po_state F h (by omega) k_157 d_Po_become_55 (fun H locs h => ?_)
        have h : bn_H (bn_y D ar ad nf) s.heap H locs (sI (sI (sU (sU (sI N 9 x r) 4 x 0) 3 x 0) 11 x 0) 10 x 2) := h
        have hq : o_Po_become N x r = (sI (sI (sU (sU (sI N 9 x r) 4 x 0) 3 x 0) 11 x 0) 10 x 2) := Eq.trans (if_pos h1) (Eq.trans (bn_oc_s ho3) (if_pos h5))
        exact bn_retv F hr hk h hq.symm d_Po_become_58
      · have h5 : ¬ (r = 1) := h5
        refine lv_iload_n E1 E2 d_Po_become_45 rfl (lv_at hl 1 rfl) ?_
        refine lv_iconst (v := 2) E1 E2 d_Po_become_46 (by decide) ?_
        refine lv_icmp_ne E1 E2 d_Po_become_47 rfl (fun hz => absurd h1 hz) (fun _ => ?_)
        refine lv_iconst (v := 2) E1 E2 d_Po_become_50 (by decide) ?_
        refine lv_goto E1 E2 d_Po_become_51 rfl ?_
        refine p_Po_state F h (by omega) k_157 d_Po_become_55 (fun H locs h => ?_)
        have h : bn_H (bn_y D ar ad nf) s.heap H locs (sI (sI (sU (sU (sI N 9 x r) 4 x 0) 3 x 0) 11 x 0) 10 x 2) := h
        have hq : o_Po_become N x r = (sI (sI (sU (sU (sI N 9 x r) 4 x 0) 3 x 0) 11 x 0) 10 x 2) := Eq.trans (if_pos h1) (Eq.trans (bn_oc_s ho3) (if_neg h5))
        exact bn_retv F hr hk h hq.symm d_Po_become_58
def o_Po_hold (N : bn_S) (x : Nat) (v : Int64) (ho : Int32) : bn_S := (sI (sI (sJ (sU N 2 x 1) 1 x v) 7 x ho) 8 x 6)
set_option maxHeartbeats 4000000 in
set_option maxRecDepth 100000 in
theorem c_Po_hold (l : Launch) (D : va_G) (ar : Nat → ClassId) (ad : Nat → Nat → Nat) (nf : Nat) (N : bn_S) (x : Nat) (hx : x < 20) (v : Int64) (ho : Int32) : bn_V l y_Po_hold w_Po_hold { frames := 0, cells := 0, slots := 0, locals := 0 } (bn_y D ar ad nf) N [.ref (ad 6 x), .long v, .int ho] (o_Po_hold N x v ho) := by
  intro sz
  refine bn_start (cc := b_Po_hold) (maxL := 4) (ret := (Option.none : Option Jvm.ClassFile.FieldType)) (by decide) rfl (Nat.le_of_ble_eq_true rfl) ?_
  intro p e s m args below meth c ls hsz F hml hr hk hl h
  subst hsz
  have E1 := F.1
  have E2 := F.2.1
  have hl : lv_has ls 4 [(0, .ref (ad 6 x)), (1, .long v), (3, .int ho)] := hl
  refine lv_aload_n E1 E2 d_Po_hold_0 rfl (lv_at hl 0 rfl) ?_
  refine lv_iconst (v := 1) E1 E2 d_Po_hold_1 (by decide) ?_
  refine p_Po_hasInfo F h (by omega) k_148 (v := 1) (by omega) d_Po_hold_2 (fun H locs h => ?_)
  have h : bn_H (bn_y D ar ad nf) s.heap H locs (sU N 2 x 1) := h
  refine lv_aload_n E1 E2 d_Po_hold_5 rfl (lv_at hl 0 rfl) ?_
  refine lv_lload_n E1 E2 d_Po_hold_6 rfl (lv_at hl 1 rfl) ?_
  refine p_Po_info F h (by omega) k_151 d_Po_hold_7 (fun H locs h => ?_)
  have h : bn_H (bn_y D ar ad nf) s.heap H locs (sJ (sU N 2 x 1) 1 x v) := h
  refine lv_aload_n E1 E2 d_Po_hold_10 rfl (lv_at hl 0 rfl) ?_
  refine lv_iload_n E1 E2 d_Po_hold_11 rfl (lv_at hl 2 rfl) ?_
  refine p_Po_infoHops F h (by omega) k_153 d_Po_hold_12 (fun H locs h => ?_)
  have h : bn_H (bn_y D ar ad nf) s.heap H locs (sI (sJ (sU N 2 x 1) 1 x v) 7 x ho) := h
  refine lv_aload_n E1 E2 d_Po_hold_15 rfl (lv_at hl 0 rfl) ?_
  refine lv_bipush (v := 6) E1 E2 d_Po_hold_16 (by decide) ?_
  refine p_Po_infoLife F h (by omega) k_154 d_Po_hold_18 (fun H locs h => ?_)
  have h : bn_H (bn_y D ar ad nf) s.heap H locs (sI (sI (sJ (sU N 2 x 1) 1 x v) 7 x ho) 8 x 6) := h
  have hq : o_Po_hold N x v ho = (sI (sI (sJ (sU N 2 x 1) 1 x v) 7 x ho) 8 x 6) := rfl
  exact bn_retv F hr hk h hq.symm d_Po_hold_21
def o_Po_proposeUnlessAgreed (N : bn_S) (x : Nat) : Int32 × bn_S := (if (N.2.1 4 x) = 0 then (1, (o_Po_propose N x)) else (0, N))
set_option maxHeartbeats 4000000 in
set_option maxRecDepth 100000 in
theorem c_Po_proposeUnlessAgreed (l : Launch) (D : va_G) (ar : Nat → ClassId) (ad : Nat → Nat → Nat) (nf : Nat) (N : bn_S) (x : Nat) (hx : x < 20) : bn_I l y_Po_proposeUnlessAgreed w_Po_proposeUnlessAgreed { frames := 1, cells := 0, slots := 0, locals := 20 } (bn_y D ar ad nf) N [.ref (ad 6 x)] (o_Po_proposeUnlessAgreed N x).1 (o_Po_proposeUnlessAgreed N x).2 := by
  intro sz
  refine bn_start (cc := b_Po_proposeUnlessAgreed) (maxL := 1) (ret := (Option.some Jvm.ClassFile.FieldType.boolean)) (by decide) rfl (Nat.le_of_ble_eq_true rfl) ?_
  intro p e s m args below meth c ls hsz F hml hr hk hl h
  subst hsz
  have E1 := F.1
  have E2 := F.2.1
  have hl : lv_has ls 1 [(0, .ref (ad 6 x))] := hl
  refine lv_aload_n E1 E2 d_Po_proposeUnlessAgreed_0 rfl (lv_at hl 0 rfl) ?_
  refine g_Po_agreed F h (by omega) k_161 (v := N.2.1 4 x) rfl d_Po_proposeUnlessAgreed_1 ?_
  have hwagr : N.2.1 4 x < 2 := wf_agr h.2.2.2 x
  refine lv_if_eq E1 E2 d_Po_proposeUnlessAgreed_4 rfl (fun h1 => ?_) (fun h1 => ?_)
  · have h1 : (N.2.1 4 x) = 0 := ((nI_eq (a := N.2.1 4 x) (b := 0) (by omega) (by omega)).mp h1)
    refine lv_aload_n E1 E2 d_Po_proposeUnlessAgreed_9 rfl (lv_at hl 0 rfl) ?_
    refine bn_callv F h (bn_runV (n := 0) (As := []) (rest := []) F hml hl.1 h (mm_6 (by omega)) rfl rfl (c_Po_propose l D ar ad nf N x (by omega) _) (bn_goodV k_292 k_294 ks_Po_propose k_3 k_295) rfl rfl (by decide) ⟨by decide, by decide⟩ rfl rfl (Nat.le_of_ble_eq_true rfl) d_Po_proposeUnlessAgreed_10 ⟨Nat.zero_le _, Nat.zero_le _⟩) (fun H locs h => ?_)
    have h : bn_H (bn_y D ar ad nf) s.heap H locs (o_Po_propose N x) := h
    refine lv_iconst (v := 1) E1 E2 d_Po_proposeUnlessAgreed_13 (by decide) ?_
    have hq : o_Po_proposeUnlessAgreed N x = (1, (o_Po_propose N x)) := if_pos h1
    exact bn_retz2 F hr rfl hk h hq d_Po_proposeUnlessAgreed_14
  · have h1 : ¬ ((N.2.1 4 x) = 0) := (fun hw => h1 ((nI_eq (a := N.2.1 4 x) (b := 0) (by omega) (by omega)).mpr hw))
    refine lv_iconst (v := 0) E1 E2 d_Po_proposeUnlessAgreed_7 (by decide) ?_
    have hq : o_Po_proposeUnlessAgreed N x = (0, N) := if_neg h1
    exact bn_retz2 F hr rfl hk h hq d_Po_proposeUnlessAgreed_8
def o_Po_takeAgreement (N : bn_S) (x : Nat) : bn_S := (sU (o_Po_forward N x) 4 x 1)
set_option maxHeartbeats 4000000 in
set_option maxRecDepth 100000 in
theorem c_Po_takeAgreement (l : Launch) (D : va_G) (ar : Nat → ClassId) (ad : Nat → Nat → Nat) (nf : Nat) (N : bn_S) (x : Nat) (hx : x < 20) : bn_V l y_Po_takeAgreement w_Po_takeAgreement { frames := 1, cells := 0, slots := 0, locals := 20 } (bn_y D ar ad nf) N [.ref (ad 6 x)] (o_Po_takeAgreement N x) := by
  intro sz
  refine bn_start (cc := b_Po_takeAgreement) (maxL := 1) (ret := (Option.none : Option Jvm.ClassFile.FieldType)) (by decide) rfl (Nat.le_of_ble_eq_true rfl) ?_
  intro p e s m args below meth c ls hsz F hml hr hk hl h
  subst hsz
  have E1 := F.1
  have E2 := F.2.1
  have hl : lv_has ls 1 [(0, .ref (ad 6 x))] := hl
  refine lv_aload_n E1 E2 d_Po_takeAgreement_0 rfl (lv_at hl 0 rfl) ?_
  refine bn_callv F h (bn_runV (n := 0) (As := []) (rest := []) F hml hl.1 h (mm_6 (by omega)) rfl rfl (c_Po_forward l D ar ad nf N x (by omega) _) (bn_goodV k_375 k_377 ks_Po_forward k_3 k_378) rfl rfl (by decide) ⟨by decide, by decide⟩ rfl rfl (Nat.le_of_ble_eq_true rfl) d_Po_takeAgreement_1 ⟨Nat.zero_le _, Nat.zero_le _⟩) (fun H locs h => ?_)
  have h : bn_H (bn_y D ar ad nf) s.heap H locs (o_Po_forward N x) := h
  refine lv_aload_n E1 E2 d_Po_takeAgreement_4 rfl (lv_at hl 0 rfl) ?_
  refine lv_iconst (v := 1) E1 E2 d_Po_takeAgreement_5 (by decide) ?_
  refine p_Po_agreed F h (by omega) k_161 (v := 1) (by omega) d_Po_takeAgreement_6 (fun H locs h => ?_)
  have h : bn_H (bn_y D ar ad nf) s.heap H locs (sU (o_Po_forward N x) 4 x 1) := h
  have hq : o_Po_takeAgreement N x = (sU (o_Po_forward N x) 4 x 1) := rfl
  exact bn_retv F hr hk h hq.symm d_Po_takeAgreement_9
def o_Po_ageInfo (N : bn_S) (x : Nat) : bn_S := (if (N.2.1 2 x) = 0 then N else (if (N.1 8 x) - 1 ≤ 0 then (sU (sI N 8 x ((N.1 8 x) - 1)) 2 x 0) else (sU (sI N 8 x ((N.1 8 x) - 1)) 2 x 1)))
set_option maxHeartbeats 4000000 in
set_option maxRecDepth 100000 in
theorem c_Po_ageInfo (l : Launch) (D : va_G) (ar : Nat → ClassId) (ad : Nat → Nat → Nat) (nf : Nat) (N : bn_S) (x : Nat) (hx : x < 20) : bn_V l y_Po_ageInfo w_Po_ageInfo { frames := 0, cells := 0, slots := 0, locals := 0 } (bn_y D ar ad nf) N [.ref (ad 6 x)] (o_Po_ageInfo N x) := by
  intro sz
  refine bn_start (cc := b_Po_ageInfo) (maxL := 1) (ret := (Option.none : Option Jvm.ClassFile.FieldType)) (by decide) rfl (Nat.le_of_ble_eq_true rfl) ?_
  intro p e s m args below meth c ls hsz F hml hr hk hl h
  subst hsz
  have E1 := F.1
  have E2 := F.2.1
  have hl : lv_has ls 1 [(0, .ref (ad 6 x))] := hl
  refine lv_aload_n E1 E2 d_Po_ageInfo_0 rfl (lv_at hl 0 rfl) ?_
  refine g_Po_hasInfo F h (by omega) k_148 (v := N.2.1 2 x) rfl d_Po_ageInfo_1 ?_
  have hwhasInfo : N.2.1 2 x < 2 := wf_hasInfo h.2.2.2 x
  refine lv_if_eq E1 E2 d_Po_ageInfo_4 rfl (fun h1 => ?_) (fun h1 => ?_)
  · have h1 : (N.2.1 2 x) = 0 := ((nI_eq (a := N.2.1 2 x) (b := 0) (by omega) (by omega)).mp h1)
    have hq : o_Po_ageInfo N x = N := if_pos h1
    exact bn_retv F hr hk h hq.symm d_Po_ageInfo_33
  · have h1 : ¬ ((N.2.1 2 x) = 0) := (fun hw => h1 ((nI_eq (a := N.2.1 2 x) (b := 0) (by omega) (by omega)).mpr hw))
    refine lv_aload_n E1 E2 d_Po_ageInfo_7 rfl (lv_at hl 0 rfl) ?_
    refine lv_dup E1 E2 d_Po_ageInfo_8 rfl ?_
    refine g_Po_infoLife F h (by omega) k_154 (v := N.1 8 x) rfl d_Po_ageInfo_9 ?_
    refine lv_iconst (v := 1) E1 E2 d_Po_ageInfo_12 (by decide) ?_
    refine lv_isub E1 E2 d_Po_ageInfo_13 ?_
    refine p_Po_infoLife F h (by omega) k_154 d_Po_ageInfo_14 (fun H locs h => ?_)
    have h : bn_H (bn_y D ar ad nf) s.heap H locs (sI N 8 x ((N.1 8 x) - 1)) := h
    refine lv_aload_n E1 E2 d_Po_ageInfo_17 rfl (lv_at hl 0 rfl) ?_
    refine lv_aload_n E1 E2 d_Po_ageInfo_18 rfl (lv_at hl 0 rfl) ?_
    refine g_Po_infoLife F h (by omega) k_154 (v := (N.1 8 x) - 1) (bn_up_s N.1 8 x ((N.1 8 x) - 1)) d_Po_ageInfo_19 ?_
    refine lv_if_le E1 E2 d_Po_ageInfo_22 rfl (fun h2 => ?_) (fun h2 => ?_)
    · have h2 : (N.1 8 x) - 1 ≤ 0 := h2
      refine lv_iconst (v := 0) E1 E2 d_Po_ageInfo_29 (by decide) ?_
      refine p_Po_hasInfo F h (by omega) k_148 (v := 0) (by omega) d_Po_ageInfo_30 (fun H locs h => ?_)
      have h : bn_H (bn_y D ar ad nf) s.heap H locs (sU (sI N 8 x ((N.1 8 x) - 1)) 2 x 0) := h
      have hq : o_Po_ageInfo N x = (sU (sI N 8 x ((N.1 8 x) - 1)) 2 x 0) := Eq.trans (if_neg h1) (if_pos h2)
      exact bn_retv F hr hk h hq.symm d_Po_ageInfo_33
    · have h2 : ¬ ((N.1 8 x) - 1 ≤ 0) := h2
      refine lv_iconst (v := 1) E1 E2 d_Po_ageInfo_25 (by decide) ?_
      refine lv_goto E1 E2 d_Po_ageInfo_26 rfl ?_
      refine p_Po_hasInfo F h (by omega) k_148 (v := 1) (by omega) d_Po_ageInfo_30 (fun H locs h => ?_)
      have h : bn_H (bn_y D ar ad nf) s.heap H locs (sU (sI N 8 x ((N.1 8 x) - 1)) 2 x 1) := h
      have hq : o_Po_ageInfo N x = (sU (sI N 8 x ((N.1 8 x) - 1)) 2 x 1) := Eq.trans (if_neg h1) (if_neg h2)
      exact bn_retv F hr hk h hq.symm d_Po_ageInfo_33
def o_Po_ageWait (N : bn_S) (x : Nat) : bn_S := (if r_Po_isLinkedDesignated N x = 0 then N else (if N.1 10 x = 2 then N else (if (N.1 11 x) - 1 ≤ 0 then (if N.1 10 x = 0 then (sI (sI (sI N 11 x ((N.1 11 x) - 1)) 10 x 1) 11 x 4) else (o_Po_forward (sI N 11 x ((N.1 11 x) - 1)) x)) else (sI N 11 x ((N.1 11 x) - 1)))))
set_option maxHeartbeats 4000000 in
set_option maxRecDepth 100000 in
theorem c_Po_ageWait (l : Launch) (D : va_G) (ar : Nat → ClassId) (ad : Nat → Nat → Nat) (nf : Nat) (N : bn_S) (x : Nat) (hx : x < 20) : bn_V l y_Po_ageWait w_Po_ageWait { frames := 1, cells := 0, slots := 0, locals := 20 } (bn_y D ar ad nf) N [.ref (ad 6 x)] (o_Po_ageWait N x) := by
  intro sz
  refine bn_start (cc := b_Po_ageWait) (maxL := 1) (ret := (Option.none : Option Jvm.ClassFile.FieldType)) (by decide) rfl (Nat.le_of_ble_eq_true rfl) ?_
  intro p e s m args below meth c ls hsz F hml hr hk hl h
  subst hsz
  have E1 := F.1
  have E2 := F.2.1
  have hl : lv_has ls 1 [(0, .ref (ad 6 x))] := hl
  refine lv_aload_n E1 E2 d_Po_ageWait_0 rfl (lv_at hl 0 rfl) ?_
  refine bn_calli F h (bn_runV (n := 0) (As := []) (rest := []) F hml hl.1 h (mm_6 (by omega)) rfl rfl (c_Po_isLinkedDesignated l D ar ad nf N x (by omega) _) (bn_goodV k_374 k_301 k_302 k_3 k_303) rfl rfl (by decide) ⟨by decide, by decide⟩ rfl rfl (Nat.le_of_ble_eq_true rfl) d_Po_ageWait_1 ⟨Nat.zero_le _, Nat.zero_le _⟩) (fun H locs h => ?_)
  refine lv_if_eq E1 E2 d_Po_ageWait_4 rfl (fun h1 => ?_) (fun h1 => ?_)
  · have h1 : r_Po_isLinkedDesignated N x = 0 := h1
    have hq : o_Po_ageWait N x = N := if_pos h1
    exact bn_retv F hr hk h hq.symm d_Po_ageWait_15
  · have h1 : ¬ (r_Po_isLinkedDesignated N x = 0) := h1
    refine lv_aload_n E1 E2 d_Po_ageWait_7 rfl (lv_at hl 0 rfl) ?_
    refine g_Po_state F h (by omega) k_157 (v := N.1 10 x) rfl d_Po_ageWait_8 ?_
    refine lv_iconst (v := 2) E1 E2 d_Po_ageWait_11 (by decide) ?_
    refine lv_icmp_ne E1 E2 d_Po_ageWait_12 rfl (fun h2 => ?_) (fun h2 => ?_)
    · have h2 : ¬ (N.1 10 x = 2) := h2
      refine lv_aload_n E1 E2 d_Po_ageWait_16 rfl (lv_at hl 0 rfl) ?_
      refine lv_dup E1 E2 d_Po_ageWait_17 rfl ?_
      refine g_Po_waits F h (by omega) k_162 (v := N.1 11 x) rfl d_Po_ageWait_18 ?_
      refine lv_iconst (v := 1) E1 E2 d_Po_ageWait_21 (by decide) ?_
      refine lv_isub E1 E2 d_Po_ageWait_22 ?_
      refine p_Po_waits F h (by omega) k_162 d_Po_ageWait_23 (fun H locs h => ?_)
      have h : bn_H (bn_y D ar ad nf) s.heap H locs (sI N 11 x ((N.1 11 x) - 1)) := h
      refine lv_aload_n E1 E2 d_Po_ageWait_26 rfl (lv_at hl 0 rfl) ?_
      refine g_Po_waits F h (by omega) k_162 (v := (N.1 11 x) - 1) (bn_up_s N.1 11 x ((N.1 11 x) - 1)) d_Po_ageWait_27 ?_
      refine lv_if_le E1 E2 d_Po_ageWait_30 rfl (fun h3 => ?_) (fun h3 => ?_)
      · have h3 : (N.1 11 x) - 1 ≤ 0 := h3
        refine lv_aload_n E1 E2 d_Po_ageWait_34 rfl (lv_at hl 0 rfl) ?_
        refine g_Po_state F h (by omega) k_157 (v := N.1 10 x) rfl d_Po_ageWait_35 ?_
        refine lv_if_ne E1 E2 d_Po_ageWait_38 rfl (fun h4 => ?_) (fun h4 => ?_)
        · have h4 : ¬ (N.1 10 x = 0) := h4
          refine lv_aload_n E1 E2 d_Po_ageWait_54 rfl (lv_at hl 0 rfl) ?_
          refine bn_callv F h (bn_runV (n := 0) (As := []) (rest := []) F hml hl.1 h (mm_6 (by omega)) rfl rfl (c_Po_forward l D ar ad nf (sI N 11 x ((N.1 11 x) - 1)) x (by omega) _) (bn_goodV k_375 k_377 ks_Po_forward k_3 k_378) rfl rfl (by decide) ⟨by decide, by decide⟩ rfl rfl (Nat.le_of_ble_eq_true rfl) d_Po_ageWait_55 ⟨Nat.zero_le _, Nat.zero_le _⟩) (fun H locs h => ?_)
          have h : bn_H (bn_y D ar ad nf) s.heap H locs (o_Po_forward (sI N 11 x ((N.1 11 x) - 1)) x) := h
          have hq : o_Po_ageWait N x = (o_Po_forward (sI N 11 x ((N.1 11 x) - 1)) x) := Eq.trans (if_neg h1) (Eq.trans (if_neg h2) (Eq.trans (if_pos h3) (if_neg h4)))
          exact bn_retv F hr hk h hq.symm d_Po_ageWait_58
        · have h4 : N.1 10 x = 0 := h4
          refine lv_aload_n E1 E2 d_Po_ageWait_41 rfl (lv_at hl 0 rfl) ?_
          refine lv_iconst (v := 1) E1 E2 d_Po_ageWait_42 (by decide) ?_
          refine p_Po_state F h (by omega) k_157 d_Po_ageWait_43 (fun H locs h => ?_)
          have h : bn_H (bn_y D ar ad nf) s.heap H locs (sI (sI N 11 x ((N.1 11 x) - 1)) 10 x 1) := h
          refine lv_aload_n E1 E2 d_Po_ageWait_46 rfl (lv_at hl 0 rfl) ?_
          refine lv_iconst (v := 4) E1 E2 d_Po_ageWait_47 (by decide) ?_
          refine p_Po_waits F h (by omega) k_162 d_Po_ageWait_48 (fun H locs h => ?_)
          have h : bn_H (bn_y D ar ad nf) s.heap H locs (sI (sI (sI N 11 x ((N.1 11 x) - 1)) 10 x 1) 11 x 4) := h
          refine lv_goto E1 E2 d_Po_ageWait_51 rfl ?_
          have hq : o_Po_ageWait N x = (sI (sI (sI N 11 x ((N.1 11 x) - 1)) 10 x 1) 11 x 4) := Eq.trans (if_neg h1) (Eq.trans (if_neg h2) (Eq.trans (if_pos h3) (if_pos h4)))
          exact bn_retv F hr hk h hq.symm d_Po_ageWait_58
      · have h3 : ¬ ((N.1 11 x) - 1 ≤ 0) := h3
        have hq : o_Po_ageWait N x = (sI N 11 x ((N.1 11 x) - 1)) := Eq.trans (if_neg h1) (Eq.trans (if_neg h2) (if_neg h3))
        exact bn_retv F hr hk h hq.symm d_Po_ageWait_33
    · have h2 : N.1 10 x = 2 := h2
      have hq : o_Po_ageWait N x = N := Eq.trans (if_neg h1) (if_pos h2)
      exact bn_retv F hr hk h hq.symm d_Po_ageWait_15
def r_Po_summary (N : bn_S) (x : Nat) : Int32 := (if (N.2.1 3 x) = 0 then (if (N.2.1 4 x) = 0 then ((((N.1 9 x) + (4 * (N.1 10 x))) + 0) + 0) + (64 * (N.1 11 x)) else ((((N.1 9 x) + (4 * (N.1 10 x))) + 0) + 32) + (64 * (N.1 11 x))) else (if (N.2.1 4 x) = 0 then ((((N.1 9 x) + (4 * (N.1 10 x))) + 16) + 0) + (64 * (N.1 11 x)) else ((((N.1 9 x) + (4 * (N.1 10 x))) + 16) + 32) + (64 * (N.1 11 x))))
set_option maxHeartbeats 4000000 in
set_option maxRecDepth 100000 in
theorem c_Po_summary (l : Launch) (D : va_G) (ar : Nat → ClassId) (ad : Nat → Nat → Nat) (nf : Nat) (N : bn_S) (x : Nat) (hx : x < 20) : bn_I l y_Po_summary w_Po_summary { frames := 0, cells := 0, slots := 0, locals := 0 } (bn_y D ar ad nf) N [.ref (ad 6 x)] (r_Po_summary N x) N := by
  intro sz
  refine bn_start (cc := b_Po_summary) (maxL := 1) (ret := (Option.some Jvm.ClassFile.FieldType.int)) (by decide) rfl (Nat.le_of_ble_eq_true rfl) ?_
  intro p e s m args below meth c ls hsz F hml hr hk hl h
  subst hsz
  have E1 := F.1
  have E2 := F.2.1
  have hl : lv_has ls 1 [(0, .ref (ad 6 x))] := hl
  refine lv_aload_n E1 E2 d_Po_summary_0 rfl (lv_at hl 0 rfl) ?_
  refine g_Po_role F h (by omega) k_155 (v := N.1 9 x) rfl d_Po_summary_1 ?_
  refine lv_iconst (v := 4) E1 E2 d_Po_summary_4 (by decide) ?_
  refine lv_aload_n E1 E2 d_Po_summary_5 rfl (lv_at hl 0 rfl) ?_
  refine g_Po_state F h (by omega) k_157 (v := N.1 10 x) rfl d_Po_summary_6 ?_
  refine lv_imul E1 E2 d_Po_summary_9 ?_
  refine lv_iadd E1 E2 d_Po_summary_10 ?_
  refine lv_aload_n E1 E2 d_Po_summary_11 rfl (lv_at hl 0 rfl) ?_
  refine g_Po_proposing F h (by omega) k_159 (v := N.2.1 3 x) rfl d_Po_summary_12 ?_
  have hwprop : N.2.1 3 x < 2 := wf_prop h.2.2.2 x
  refine lv_if_eq E1 E2 d_Po_summary_15 rfl (fun h1 => ?_) (fun h1 => ?_)
  · have h1 : (N.2.1 3 x) = 0 := ((nI_eq (a := N.2.1 3 x) (b := 0) (by omega) (by omega)).mp h1)
    refine lv_iconst (v := 0) E1 E2 d_Po_summary_23 (by decide) ?_
    refine lv_iadd E1 E2 d_Po_summary_24 ?_
    refine lv_aload_n E1 E2 d_Po_summary_25 rfl (lv_at hl 0 rfl) ?_
    refine g_Po_agreed F h (by omega) k_161 (v := N.2.1 4 x) rfl d_Po_summary_26 ?_
    have hwagr : N.2.1 4 x < 2 := wf_agr h.2.2.2 x
    refine lv_if_eq E1 E2 d_Po_summary_29 rfl (fun h2 => ?_) (fun h2 => ?_)
    · have h2 : (N.2.1 4 x) = 0 := ((nI_eq (a := N.2.1 4 x) (b := 0) (by omega) (by omega)).mp h2)
      refine lv_iconst (v := 0) E1 E2 d_Po_summary_37 (by decide) ?_
      refine lv_iadd E1 E2 d_Po_summary_38 ?_
      refine lv_bipush (v := 64) E1 E2 d_Po_summary_39 (by decide) ?_
      refine lv_aload_n E1 E2 d_Po_summary_41 rfl (lv_at hl 0 rfl) ?_
      refine g_Po_waits F h (by omega) k_162 (v := N.1 11 x) rfl d_Po_summary_42 ?_
      refine lv_imul E1 E2 d_Po_summary_45 ?_
      refine lv_iadd E1 E2 d_Po_summary_46 ?_
      have hq : r_Po_summary N x = ((((N.1 9 x) + (4 * (N.1 10 x))) + 0) + 0) + (64 * (N.1 11 x)) := Eq.trans (if_pos h1) (if_pos h2)
      exact bn_reti F hr hk h hq.symm rfl d_Po_summary_47
    · have h2 : ¬ ((N.2.1 4 x) = 0) := (fun hw => h2 ((nI_eq (a := N.2.1 4 x) (b := 0) (by omega) (by omega)).mpr hw))
      refine lv_bipush (v := 32) E1 E2 d_Po_summary_32 (by decide) ?_
      refine lv_goto E1 E2 d_Po_summary_34 rfl ?_
      refine lv_iadd E1 E2 d_Po_summary_38 ?_
      refine lv_bipush (v := 64) E1 E2 d_Po_summary_39 (by decide) ?_
      refine lv_aload_n E1 E2 d_Po_summary_41 rfl (lv_at hl 0 rfl) ?_
      refine g_Po_waits F h (by omega) k_162 (v := N.1 11 x) rfl d_Po_summary_42 ?_
      refine lv_imul E1 E2 d_Po_summary_45 ?_
      refine lv_iadd E1 E2 d_Po_summary_46 ?_
      have hq : r_Po_summary N x = ((((N.1 9 x) + (4 * (N.1 10 x))) + 0) + 32) + (64 * (N.1 11 x)) := Eq.trans (if_pos h1) (if_neg h2)
      exact bn_reti F hr hk h hq.symm rfl d_Po_summary_47
  · have h1 : ¬ ((N.2.1 3 x) = 0) := (fun hw => h1 ((nI_eq (a := N.2.1 3 x) (b := 0) (by omega) (by omega)).mpr hw))
    refine lv_bipush (v := 16) E1 E2 d_Po_summary_18 (by decide) ?_
    refine lv_goto E1 E2 d_Po_summary_20 rfl ?_
    refine lv_iadd E1 E2 d_Po_summary_24 ?_
    refine lv_aload_n E1 E2 d_Po_summary_25 rfl (lv_at hl 0 rfl) ?_
    refine g_Po_agreed F h (by omega) k_161 (v := N.2.1 4 x) rfl d_Po_summary_26 ?_
    have hwagr : N.2.1 4 x < 2 := wf_agr h.2.2.2 x
    refine lv_if_eq E1 E2 d_Po_summary_29 rfl (fun h3 => ?_) (fun h3 => ?_)
    · have h3 : (N.2.1 4 x) = 0 := ((nI_eq (a := N.2.1 4 x) (b := 0) (by omega) (by omega)).mp h3)
      refine lv_iconst (v := 0) E1 E2 d_Po_summary_37 (by decide) ?_
      refine lv_iadd E1 E2 d_Po_summary_38 ?_
      refine lv_bipush (v := 64) E1 E2 d_Po_summary_39 (by decide) ?_
      refine lv_aload_n E1 E2 d_Po_summary_41 rfl (lv_at hl 0 rfl) ?_
      refine g_Po_waits F h (by omega) k_162 (v := N.1 11 x) rfl d_Po_summary_42 ?_
      refine lv_imul E1 E2 d_Po_summary_45 ?_
      refine lv_iadd E1 E2 d_Po_summary_46 ?_
      have hq : r_Po_summary N x = ((((N.1 9 x) + (4 * (N.1 10 x))) + 16) + 0) + (64 * (N.1 11 x)) := Eq.trans (if_neg h1) (if_pos h3)
      exact bn_reti F hr hk h hq.symm rfl d_Po_summary_47
    · have h3 : ¬ ((N.2.1 4 x) = 0) := (fun hw => h3 ((nI_eq (a := N.2.1 4 x) (b := 0) (by omega) (by omega)).mpr hw))
      refine lv_bipush (v := 32) E1 E2 d_Po_summary_32 (by decide) ?_
      refine lv_goto E1 E2 d_Po_summary_34 rfl ?_
      refine lv_iadd E1 E2 d_Po_summary_38 ?_
      refine lv_bipush (v := 64) E1 E2 d_Po_summary_39 (by decide) ?_
      refine lv_aload_n E1 E2 d_Po_summary_41 rfl (lv_at hl 0 rfl) ?_
      refine g_Po_waits F h (by omega) k_162 (v := N.1 11 x) rfl d_Po_summary_42 ?_
      refine lv_imul E1 E2 d_Po_summary_45 ?_
      refine lv_iadd E1 E2 d_Po_summary_46 ?_
      have hq : r_Po_summary N x = ((((N.1 9 x) + (4 * (N.1 10 x))) + 16) + 32) + (64 * (N.1 11 x)) := Eq.trans (if_neg h1) (if_neg h3)
      exact bn_reti F hr hk h hq.symm rfl d_Po_summary_47
def r_Po_infoSummary (N : bn_S) (x : Nat) : Int64 := (((((Int32.toInt64 (r_Ve_rootOf N (N.2.2.1 1 x))) + ((Int32.toInt64 (r_Ve_costOf N (N.2.2.1 1 x))) <<< (Int32.toInt64 8 &&& 63))) + ((Int32.toInt64 (r_Ve_bridgeOf N (N.2.2.1 1 x))) <<< (Int32.toInt64 24 &&& 63))) + ((Int32.toInt64 (r_Ve_portOf N (N.2.2.1 1 x))) <<< (Int32.toInt64 32 &&& 63))) + ((Int32.toInt64 (N.1 7 x)) <<< (Int32.toInt64 40 &&& 63))) + ((Int32.toInt64 (N.1 8 x)) <<< (Int32.toInt64 48 &&& 63))
set_option maxHeartbeats 4000000 in
set_option maxRecDepth 100000 in
theorem c_Po_infoSummary (l : Launch) (D : va_G) (ar : Nat → ClassId) (ad : Nat → Nat → Nat) (nf : Nat) (N : bn_S) (x : Nat) (hx : x < 20) : bn_L l y_Po_infoSummary w_Po_infoSummary { frames := 1, cells := 0, slots := 0, locals := 21 } (bn_y D ar ad nf) N [.ref (ad 6 x)] (r_Po_infoSummary N x) N := by
  intro sz
  refine bn_start (cc := b_Po_infoSummary) (maxL := 1) (ret := (Option.some Jvm.ClassFile.FieldType.long)) (by decide) rfl (Nat.le_of_ble_eq_true rfl) ?_
  intro p e s m args below meth c ls hsz F hml hr hk hl h
  subst hsz
  have E1 := F.1
  have E2 := F.2.1
  have hl : lv_has ls 1 [(0, .ref (ad 6 x))] := hl
  refine lv_aload_n E1 E2 d_Po_infoSummary_0 rfl (lv_at hl 0 rfl) ?_
  refine g_Po_info F h (by omega) k_151 (v := N.2.2.1 1 x) rfl d_Po_infoSummary_1 ?_
  refine bn_calli F h (bn_runS (n := 1) (As := [.long (N.2.2.1 1 x)]) (rest := []) F hml hl.1 h (c_Ve_rootOf l D ar ad nf N (N.2.2.1 1 x) _) (bn_goodS k_406 k_270 k_8 k_271) rfl rfl (by decide) ⟨by decide, by decide⟩ rfl rfl (Nat.le_of_ble_eq_true rfl) d_Po_infoSummary_4 ⟨Nat.zero_le _, Nat.zero_le _⟩) (fun H locs h => ?_)
  refine lv_i2l (v := Int32.toInt64 (r_Ve_rootOf N (N.2.2.1 1 x))) E1 E2 d_Po_infoSummary_7 rfl ?_
  refine lv_aload_n E1 E2 d_Po_infoSummary_8 rfl (lv_at hl 0 rfl) ?_
  refine g_Po_info F h (by omega) k_151 (v := N.2.2.1 1 x) rfl d_Po_infoSummary_9 ?_
  refine bn_calli F h (bn_runS (n := 1) (As := [.long (N.2.2.1 1 x)]) (rest := [.long (Int32.toInt64 (r_Ve_rootOf N (N.2.2.1 1 x)))]) F hml hl.1 h (c_Ve_costOf l D ar ad nf N (N.2.2.1 1 x) _) (bn_goodS k_407 k_273 k_8 k_274) rfl rfl (by decide) ⟨by decide, by decide⟩ rfl rfl (Nat.le_of_ble_eq_true rfl) d_Po_infoSummary_12 ⟨Nat.zero_le _, Nat.zero_le _⟩) (fun H locs h => ?_)
  refine lv_i2l (v := Int32.toInt64 (r_Ve_costOf N (N.2.2.1 1 x))) E1 E2 d_Po_infoSummary_15 rfl ?_
  refine lv_bipush (v := 8) E1 E2 d_Po_infoSummary_16 (by decide) ?_
  refine lv_lshl (v := (Int32.toInt64 (r_Ve_costOf N (N.2.2.1 1 x))) <<< (Int32.toInt64 8 &&& 63)) E1 E2 d_Po_infoSummary_18 rfl ?_
  refine lv_ladd E1 E2 d_Po_infoSummary_19 ?_
  refine lv_aload_n E1 E2 d_Po_infoSummary_20 rfl (lv_at hl 0 rfl) ?_
  refine g_Po_info F h (by omega) k_151 (v := N.2.2.1 1 x) rfl d_Po_infoSummary_21 ?_
  refine bn_calli F h (bn_runS (n := 1) (As := [.long (N.2.2.1 1 x)]) (rest := [.long ((Int32.toInt64 (r_Ve_rootOf N (N.2.2.1 1 x))) + ((Int32.toInt64 (r_Ve_costOf N (N.2.2.1 1 x))) <<< (Int32.toInt64 8 &&& 63)))]) F hml hl.1 h (c_Ve_bridgeOf l D ar ad nf N (N.2.2.1 1 x) _) (bn_goodS k_408 k_260 k_8 k_261) rfl rfl (by decide) ⟨by decide, by decide⟩ rfl rfl (Nat.le_of_ble_eq_true rfl) d_Po_infoSummary_24 ⟨Nat.zero_le _, Nat.zero_le _⟩) (fun H locs h => ?_)
  refine lv_i2l (v := Int32.toInt64 (r_Ve_bridgeOf N (N.2.2.1 1 x))) E1 E2 d_Po_infoSummary_27 rfl ?_
  refine lv_bipush (v := 24) E1 E2 d_Po_infoSummary_28 (by decide) ?_
  refine lv_lshl (v := (Int32.toInt64 (r_Ve_bridgeOf N (N.2.2.1 1 x))) <<< (Int32.toInt64 24 &&& 63)) E1 E2 d_Po_infoSummary_30 rfl ?_
  refine lv_ladd E1 E2 d_Po_infoSummary_31 ?_
  refine lv_aload_n E1 E2 d_Po_infoSummary_32 rfl (lv_at hl 0 rfl) ?_
  refine g_Po_info F h (by omega) k_151 (v := N.2.2.1 1 x) rfl d_Po_infoSummary_33 ?_
  refine bn_calli F h (bn_runS (n := 1) (As := [.long (N.2.2.1 1 x)]) (rest := [.long (((Int32.toInt64 (r_Ve_rootOf N (N.2.2.1 1 x))) + ((Int32.toInt64 (r_Ve_costOf N (N.2.2.1 1 x))) <<< (Int32.toInt64 8 &&& 63))) + ((Int32.toInt64 (r_Ve_bridgeOf N (N.2.2.1 1 x))) <<< (Int32.toInt64 24 &&& 63)))]) F hml hl.1 h (c_Ve_portOf l D ar ad nf N (N.2.2.1 1 x) _) (bn_goodS k_409 k_410 k_8 k_411) rfl rfl (by decide) ⟨by decide, by decide⟩ rfl rfl (Nat.le_of_ble_eq_true rfl) d_Po_infoSummary_36 ⟨Nat.zero_le _, Nat.zero_le _⟩) (fun H locs h => ?_)
  refine lv_i2l (v := Int32.toInt64 (r_Ve_portOf N (N.2.2.1 1 x))) E1 E2 d_Po_infoSummary_39 rfl ?_
  refine lv_bipush (v := 32) E1 E2 d_Po_infoSummary_40 (by decide) ?_
  refine lv_lshl (v := (Int32.toInt64 (r_Ve_portOf N (N.2.2.1 1 x))) <<< (Int32.toInt64 32 &&& 63)) E1 E2 d_Po_infoSummary_42 rfl ?_
  refine lv_ladd E1 E2 d_Po_infoSummary_43 ?_
  refine lv_aload_n E1 E2 d_Po_infoSummary_44 rfl (lv_at hl 0 rfl) ?_
  refine g_Po_infoHops F h (by omega) k_153 (v := N.1 7 x) rfl d_Po_infoSummary_45 ?_
  refine lv_i2l (v := Int32.toInt64 (N.1 7 x)) E1 E2 d_Po_infoSummary_48 rfl ?_
  refine lv_bipush (v := 40) E1 E2 d_Po_infoSummary_49 (by decide) ?_
  refine lv_lshl (v := (Int32.toInt64 (N.1 7 x)) <<< (Int32.toInt64 40 &&& 63)) E1 E2 d_Po_infoSummary_51 rfl ?_
  refine lv_ladd E1 E2 d_Po_infoSummary_52 ?_
  refine lv_aload_n E1 E2 d_Po_infoSummary_53 rfl (lv_at hl 0 rfl) ?_
  refine g_Po_infoLife F h (by omega) k_154 (v := N.1 8 x) rfl d_Po_infoSummary_54 ?_
  refine lv_i2l (v := Int32.toInt64 (N.1 8 x)) E1 E2 d_Po_infoSummary_57 rfl ?_
  refine lv_bipush (v := 48) E1 E2 d_Po_infoSummary_58 (by decide) ?_
  refine lv_lshl (v := (Int32.toInt64 (N.1 8 x)) <<< (Int32.toInt64 48 &&& 63)) E1 E2 d_Po_infoSummary_60 rfl ?_
  refine lv_ladd E1 E2 d_Po_infoSummary_61 ?_
  have hq : r_Po_infoSummary N x = (((((Int32.toInt64 (r_Ve_rootOf N (N.2.2.1 1 x))) + ((Int32.toInt64 (r_Ve_costOf N (N.2.2.1 1 x))) <<< (Int32.toInt64 8 &&& 63))) + ((Int32.toInt64 (r_Ve_bridgeOf N (N.2.2.1 1 x))) <<< (Int32.toInt64 24 &&& 63))) + ((Int32.toInt64 (r_Ve_portOf N (N.2.2.1 1 x))) <<< (Int32.toInt64 32 &&& 63))) + ((Int32.toInt64 (N.1 7 x)) <<< (Int32.toInt64 40 &&& 63))) + ((Int32.toInt64 (N.1 8 x)) <<< (Int32.toInt64 48 &&& 63)) := rfl
  exact bn_retl F hr hk h hq.symm rfl d_Po_infoSummary_62
end
section
/-! contracts of the class, written by wip/whole/gen_class.py -/
theorem bn_natle {t : Int32} {n : Nat} (h0 : ¬ t < 0) (h1 : ¬ nI n ≤ t) (hn : n < 2 ^ 31) : t = nI t.toNatClampNeg ∧ t.toNatClampNeg < n := by
  obtain ⟨j, hj, rfl, -, h2, -⟩ := pk_mu h0 h1 hn
  rw [h2]
  exact ⟨rfl, hj⟩
theorem bn_natlt {t : Int32} {n : Nat} (h0 : ¬ t < 0) (h1 : ¬ nI n < t) (hn : n + 1 < 2 ^ 31) : t = nI t.toNatClampNeg ∧ t.toNatClampNeg < n + 1 := by
  obtain ⟨j, hj, rfl⟩ := nI_of h0
  rw [nI_clamp hj]
  refine ⟨rfl, ?_⟩
  have h2 : ¬ n < j := fun h => h1 ((nI_ltI (by omega) (by omega)).mpr h)
  omega
theorem bn_natlt1 {t : Int32} {n : Nat} (h0 : ¬ t < 1) (h1 : ¬ nI n < t) (hn : n + 1 < 2 ^ 31) : t = nI t.toNatClampNeg ∧ t.toNatClampNeg < n + 1 ∧ 1 ≤ t.toNatClampNeg := by
  have h2 : ¬ t < 0 := fun h => h0 (by
    rw [Int32.lt_iff_toInt_lt] at h ⊢
    have e0 : (0 : Int32).toInt = 0 := by decide
    have e1 : (1 : Int32).toInt = 1 := by decide
    omega)
  obtain ⟨h3, h4⟩ := bn_natlt h2 h1 hn
  refine ⟨h3, h4, ?_⟩
  have h5 : ¬ t.toNatClampNeg < 1 := fun h => h0 (by
    rw [h3]
    exact (nI_ltI (a := t.toNatClampNeg) (b := 1) (by omega) (by omega)).mpr h)
  omega
theorem bn_ge0 {t : Int32} (h : 0 ≤ t) : ¬ t < 0 := Int32.not_lt.mpr h
def r_Fr_inboxEntry (N : bn_S) (f : Nat) : Int64 := (((Int32.toInt64 (N.1 15 f)) &&& 4294967295) + ((Int32.toInt64 (nI (N.2.1 10 f))) <<< (Int32.toInt64 32 &&& 63))) + ((Int32.toInt64 (nI (N.2.1 11 f))) <<< (Int32.toInt64 36 &&& 63))
set_option maxHeartbeats 4000000 in
set_option maxRecDepth 100000 in
theorem c_Fr_inboxEntry (l : Launch) (D : va_G) (ar : Nat → ClassId) (ad : Nat → Nat → Nat) (nf : Nat) (N : bn_S) (f : Nat) (hf : f < nf) : bn_L l y_Fr_inboxEntry w_Fr_inboxEntry { frames := 0, cells := 0, slots := 0, locals := 0 } (bn_y D ar ad nf) N [.ref (ad 13 f)] (r_Fr_inboxEntry N f) N := by
  intro sz
  refine bn_start (cc := b_Fr_inboxEntry) (maxL := 1) (ret := (Option.some Jvm.ClassFile.FieldType.long)) (by decide) rfl (Nat.le_of_ble_eq_true rfl) ?_
  intro p e s m args below meth c ls hsz F hml hr hk hl h
  subst hsz
  have E1 := F.1
  have E2 := F.2.1
  have hl : lv_has ls 1 [(0, .ref (ad 13 f))] := hl
  refine lv_aload_n E1 E2 d_Fr_inboxEntry_0 rfl (lv_at hl 0 rfl) ?_
  refine g_Fr_value F h (by omega) k_602 (v := N.1 15 f) rfl d_Fr_inboxEntry_1 ?_
  refine lv_i2l (v := Int32.toInt64 (N.1 15 f)) E1 E2 d_Fr_inboxEntry_4 rfl ?_
  refine lv_ldc2 (own := "BridgeNet$Frame") E1 E2 F.2.2.1 (F.2.2.2.1 _ k_646) d_Fr_inboxEntry_5 ?_
  refine lv_land E1 E2 d_Fr_inboxEntry_8 ?_
  refine lv_aload_n E1 E2 d_Fr_inboxEntry_9 rfl (lv_at hl 0 rfl) ?_
  refine g_Fr_source F h (by omega) k_593 (v := N.2.1 10 f) rfl d_Fr_inboxEntry_10 ?_
  refine lv_i2l (v := Int32.toInt64 (nI (N.2.1 10 f))) E1 E2 d_Fr_inboxEntry_13 rfl ?_
  refine lv_bipush (v := 32) E1 E2 d_Fr_inboxEntry_14 (by decide) ?_
  refine lv_lshl (v := (Int32.toInt64 (nI (N.2.1 10 f))) <<< (Int32.toInt64 32 &&& 63)) E1 E2 d_Fr_inboxEntry_16 rfl ?_
  refine lv_ladd E1 E2 d_Fr_inboxEntry_17 ?_
  refine lv_aload_n E1 E2 d_Fr_inboxEntry_18 rfl (lv_at hl 0 rfl) ?_
  refine g_Fr_destination F h (by omega) k_595 (v := N.2.1 11 f) rfl d_Fr_inboxEntry_19 ?_
  refine lv_i2l (v := Int32.toInt64 (nI (N.2.1 11 f))) E1 E2 d_Fr_inboxEntry_22 rfl ?_
  refine lv_bipush (v := 36) E1 E2 d_Fr_inboxEntry_23 (by decide) ?_
  refine lv_lshl (v := (Int32.toInt64 (nI (N.2.1 11 f))) <<< (Int32.toInt64 36 &&& 63)) E1 E2 d_Fr_inboxEntry_25 rfl ?_
  refine lv_ladd E1 E2 d_Fr_inboxEntry_26 ?_
  have hq : r_Fr_inboxEntry N f = (((Int32.toInt64 (N.1 15 f)) &&& 4294967295) + ((Int32.toInt64 (nI (N.2.1 10 f))) <<< (Int32.toInt64 32 &&& 63))) + ((Int32.toInt64 (nI (N.2.1 11 f))) <<< (Int32.toInt64 36 &&& 63)) := rfl
  exact bn_retl F hr hk h hq.symm rfl d_Fr_inboxEntry_27
def r_Ms_summary (N : bn_S) (i : Nat) : Int64 := (bn_oc (N.2.2.2 5 i) ((Int32.toInt64 (N.1 12 i)) + (16 * (Int32.toInt64 (N.1 13 i)))) (fun y2 => ((Int32.toInt64 (N.1 12 i)) + (16 * (Int32.toInt64 (nI (N.2.1 11 y2))))) + (256 * (Int32.toInt64 (nI (N.2.1 12 y2))))))
set_option maxHeartbeats 4000000 in
set_option maxRecDepth 100000 in
theorem c_Ms_summary (l : Launch) (D : va_G) (ar : Nat → ClassId) (ad : Nat → Nat → Nat) (nf : Nat) (N : bn_S) (i : Nat) (hi : i < 240) : bn_L l y_Ms_summary w_Ms_summary { frames := 0, cells := 0, slots := 0, locals := 0 } (bn_y D ar ad nf) N [.ref (ad 9 i)] (r_Ms_summary N i) N := by
  intro sz
  refine bn_start (cc := b_Ms_summary) (maxL := 1) (ret := (Option.some Jvm.ClassFile.FieldType.long)) (by decide) rfl (Nat.le_of_ble_eq_true rfl) ?_
  intro p e s m args below meth c ls hsz F hml hr hk hl h
  subst hsz
  have E1 := F.1
  have E2 := F.2.1
  have hl : lv_has ls 1 [(0, .ref (ad 9 i))] := hl
  refine lv_aload_n E1 E2 d_Ms_summary_0 rfl (lv_at hl 0 rfl) ?_
  refine g_Ms_frame F h (by omega) k_103 d_Ms_summary_1 (fun ho1 => ?_) (fun y2 ho1 hy2 => ?_)
  · skip
    refine lv_ifnullN E1 E2 d_Ms_summary_4 rfl ?_
    refine lv_aload_n E1 E2 d_Ms_summary_39 rfl (lv_at hl 0 rfl) ?_
    refine g_Ms_kind F h (by omega) k_88 (v := N.1 12 i) rfl d_Ms_summary_40 ?_
    refine lv_i2l (v := Int32.toInt64 (N.1 12 i)) E1 E2 d_Ms_summary_43 rfl ?_
    refine lv_ldc2 (own := "BridgeNet$Message") E1 E2 F.2.2.1 (F.2.2.2.1 _ k_455) d_Ms_summary_44 ?_
    refine lv_aload_n E1 E2 d_Ms_summary_47 rfl (lv_at hl 0 rfl) ?_
    refine g_Ms_root F h (by omega) k_91 (v := N.1 13 i) rfl d_Ms_summary_48 ?_
    refine lv_i2l (v := Int32.toInt64 (N.1 13 i)) E1 E2 d_Ms_summary_51 rfl ?_
    refine lv_lmul E1 E2 d_Ms_summary_52 ?_
    refine lv_ladd E1 E2 d_Ms_summary_53 ?_
    have hq : r_Ms_summary N i = (Int32.toInt64 (N.1 12 i)) + (16 * (Int32.toInt64 (N.1 13 i))) := bn_oc_n ho1
    exact bn_retl F hr hk h hq.symm rfl d_Ms_summary_54
  · skip
    refine lv_ifnull E1 E2 d_Ms_summary_4 ?_
    refine lv_aload_n E1 E2 d_Ms_summary_7 rfl (lv_at hl 0 rfl) ?_
    refine g_Ms_kind F h (by omega) k_88 (v := N.1 12 i) rfl d_Ms_summary_8 ?_
    refine lv_i2l (v := Int32.toInt64 (N.1 12 i)) E1 E2 d_Ms_summary_11 rfl ?_
    refine lv_ldc2 (own := "BridgeNet$Message") E1 E2 F.2.2.1 (F.2.2.2.1 _ k_455) d_Ms_summary_12 ?_
    refine lv_aload_n E1 E2 d_Ms_summary_15 rfl (lv_at hl 0 rfl) ?_
    refine g_Ms_frame_s F h (by omega) k_103 ho1 d_Ms_summary_16 ?_
    refine g_Fr_destination F h (by omega) k_596 (v := N.2.1 11 y2) rfl d_Ms_summary_19 ?_
    refine lv_i2l (v := Int32.toInt64 (nI (N.2.1 11 y2))) E1 E2 d_Ms_summary_22 rfl ?_
    refine lv_lmul E1 E2 d_Ms_summary_23 ?_
    refine lv_ladd E1 E2 d_Ms_summary_24 ?_
    refine lv_ldc2 (own := "BridgeNet$Message") E1 E2 F.2.2.1 (F.2.2.2.1 _ k_456) d_Ms_summary_25 ?_
    refine lv_aload_n E1 E2 d_Ms_summary_28 rfl (lv_at hl 0 rfl) ?_
    refine g_Ms_frame_s F h (by omega) k_103 ho1 d_Ms_summary_29 ?_
    refine g_Fr_vlan F h (by omega) k_599 (v := N.2.1 12 y2) rfl d_Ms_summary_32 ?_
    refine lv_i2l (v := Int32.toInt64 (nI (N.2.1 12 y2))) E1 E2 d_Ms_summary_35 rfl ?_
    refine lv_lmul E1 E2 d_Ms_summary_36 ?_
    refine lv_ladd E1 E2 d_Ms_summary_37 ?_
    have hq : r_Ms_summary N i = ((Int32.toInt64 (N.1 12 i)) + (16 * (Int32.toInt64 (nI (N.2.1 11 y2))))) + (256 * (Int32.toInt64 (nI (N.2.1 12 y2)))) := bn_oc_s ho1
    exact bn_retl F hr hk h hq.symm rfl d_Ms_summary_38
def o_Li_empty (N : bn_S) (x : Nat) : bn_S := (sU N 7 x 0)
set_option maxHeartbeats 4000000 in
set_option maxRecDepth 100000 in
theorem c_Li_empty (l : Launch) (D : va_G) (ar : Nat → ClassId) (ad : Nat → Nat → Nat) (nf : Nat) (N : bn_S) (x : Nat) (hx : x < 20) : bn_V l y_Li_empty w_Li_empty { frames := 0, cells := 0, slots := 0, locals := 0 } (bn_y D ar ad nf) N [.ref (ad 7 x)] (o_Li_empty N x) := by
  intro sz
  refine bn_start (cc := b_Li_empty) (maxL := 1) (ret := (Option.none : Option Jvm.ClassFile.FieldType)) (by decide) rfl (Nat.le_of_ble_eq_true rfl) ?_
  intro p e s m args below meth c ls hsz F hml hr hk hl h
  subst hsz
  have E1 := F.1
  have E2 := F.2.1
  have hl : lv_has ls 1 [(0, .ref (ad 7 x))] := hl
  refine lv_aload_n E1 E2 d_Li_empty_0 rfl (lv_at hl 0 rfl) ?_
  refine lv_iconst (v := 0) E1 E2 d_Li_empty_1 (by decide) ?_
  refine p_Li_count F h (by omega) k_121 (v := 0) (by omega) d_Li_empty_2 (fun H locs h => ?_)
  have h : bn_H (bn_y D ar ad nf) s.heap H locs (sU N 7 x 0) := h
  have hq : o_Li_empty N x = (sU N 7 x 0) := rfl
  exact bn_retv F hr hk h hq.symm d_Li_empty_5
def r_Li_at (N : bn_S) (x : Nat) (k : Int32) : Option Nat := (if k < 0 then none else (if nI (N.2.1 7 x) ≤ k then none else some (12 * x + (((N.2.1 6 x) + (k.toNatClampNeg)) % 12))))
set_option maxHeartbeats 4000000 in
set_option maxRecDepth 100000 in
theorem c_Li_at (l : Launch) (D : va_G) (ar : Nat → ClassId) (ad : Nat → Nat → Nat) (nf : Nat) (N : bn_S) (x : Nat) (hx : x < 20) (k : Int32) : bn_R l y_Li_at w_Li_at { frames := 0, cells := 0, slots := 0, locals := 0 } (bn_y D ar ad nf) N [.ref (ad 7 x), .int k] ((r_Li_at N x k).map (ad 9)) N := by
  intro sz
  refine bn_start (cc := b_Li_at) (maxL := 2) (ret := (Option.some (Jvm.ClassFile.FieldType.object "BridgeNet$Message"))) (by decide) rfl (Nat.le_of_ble_eq_true rfl) ?_
  intro p e s m args below meth c ls hsz F hml hr hk hl h
  subst hsz
  have E1 := F.1
  have E2 := F.2.1
  have hl : lv_has ls 2 [(0, .ref (ad 7 x)), (1, .int k)] := hl
  refine lv_iload_n E1 E2 d_Li_at_0 rfl (lv_at hl 1 rfl) ?_
  refine lv_if_lt E1 E2 d_Li_at_1 rfl (fun h1 => ?_) (fun h1 => ?_)
  · have h1 : k < 0 := h1
    refine lv_null E1 E2 d_Li_at_29 ?_
    have hq : r_Li_at N x k = none := if_pos h1
    exact bn_retq F (v := none) hr hk h (by rw [hq]; rfl) rfl d_Li_at_30
  · have h1 : ¬ (k < 0) := h1
    refine lv_iload_n E1 E2 d_Li_at_4 rfl (lv_at hl 1 rfl) ?_
    refine lv_aload_n E1 E2 d_Li_at_5 rfl (lv_at hl 0 rfl) ?_
    refine g_Li_count F h (by omega) k_121 (v := N.2.1 7 x) rfl d_Li_at_6 ?_
    refine lv_icmp_ge E1 E2 d_Li_at_9 rfl (fun h2 => ?_) (fun h2 => ?_)
    · have h2 : nI (N.2.1 7 x) ≤ k := h2
      refine lv_null E1 E2 d_Li_at_29 ?_
      have hq : r_Li_at N x k = none := Eq.trans (if_neg h1) (if_pos h2)
      exact bn_retq F (v := none) hr hk h (by rw [hq]; rfl) rfl d_Li_at_30
    · have h2 : ¬ (nI (N.2.1 7 x) ≤ k) := h2
      refine lv_aload_n E1 E2 d_Li_at_12 rfl (lv_at hl 0 rfl) ?_
      refine g_Li_ring F h (by omega) k_119 d_Li_at_13 ?_
      refine lv_aload_n E1 E2 d_Li_at_16 rfl (lv_at hl 0 rfl) ?_
      refine g_Li_first F h (by omega) k_120 (v := N.2.1 6 x) rfl d_Li_at_17 ?_
      refine lv_iload_n E1 E2 d_Li_at_20 rfl (lv_at hl 1 rfl) ?_
      have hwcount : N.2.1 7 x < 13 := wf_count h.2.2.2 x
      have hn_k := bn_natle (n := (N.2.1 7 x)) h1 h2 (by omega)
      have hn_k2 := hn_k.2
      refine bn_ti hn_k.1 ?_
      refine lv_iadd E1 E2 d_Li_at_21 ?_
      have hwfirst : N.2.1 6 x < 12 := wf_first h.2.2.2 x
      refine bn_ti (y := nI ((N.2.1 6 x) + (k.toNatClampNeg))) (nI_add (N.2.1 6 x) (k.toNatClampNeg)) ?_
      refine lv_bipush (v := 12) E1 E2 d_Li_at_22 (by decide) ?_
      refine lv_irem E1 E2 d_Li_at_24 (by decide) ?_
      have hwfirst : N.2.1 6 x < 12 := wf_first h.2.2.2 x
      refine bn_ti (y := nI (((N.2.1 6 x) + (k.toNatClampNeg)) % 12)) (pk_rem (a := ((N.2.1 6 x) + (k.toNatClampNeg))) (d := 12) (by omega) (by omega) (by omega)) ?_
      have hwfirst : N.2.1 6 x < 12 := wf_first h.2.2.2 x
      refine al_ring F h (by omega) (i := ((N.2.1 6 x) + (k.toNatClampNeg)) % 12) (by omega) d_Li_at_25 ?_
      refine lv_goto E1 E2 d_Li_at_26 rfl ?_
      have hq : r_Li_at N x k = some (12 * x + (((N.2.1 6 x) + (k.toNatClampNeg)) % 12)) := Eq.trans (if_neg h1) (if_neg h2)
      exact bn_retq F (v := (some (ad 9 (12 * x + (((N.2.1 6 x) + (k.toNatClampNeg)) % 12))))) hr hk h (by rw [hq]; rfl) rfl d_Li_at_30
theorem lt_Li_at {N : bn_S} {x y : Nat} {k : Int32} (hx : x < 20) (h : r_Li_at N x k = some y) : y < 240 := by
  unfold r_Li_at at h
  split at h <;> (try split at h) <;> simp at h
  omega
def o_Li_takeFirst (N : bn_S) (x : Nat) : Option Nat × bn_S := (if (N.2.1 7 x) = 0 then (none, N) else (some (12 * x + (N.2.1 6 x)), (sU (sU N 6 x (((N.2.1 6 x) + 1) % 12)) 7 x ((N.2.1 7 x) - 1))))
set_option maxHeartbeats 4000000 in
set_option maxRecDepth 100000 in
theorem c_Li_takeFirst (l : Launch) (D : va_G) (ar : Nat → ClassId) (ad : Nat → Nat → Nat) (nf : Nat) (N : bn_S) (x : Nat) (hx : x < 20) : bn_R l y_Li_takeFirst w_Li_takeFirst { frames := 0, cells := 0, slots := 0, locals := 0 } (bn_y D ar ad nf) N [.ref (ad 7 x)] ((o_Li_takeFirst N x).1.map (ad 9)) (o_Li_takeFirst N x).2 := by
  intro sz
  refine bn_start (cc := b_Li_takeFirst) (maxL := 2) (ret := (Option.some (Jvm.ClassFile.FieldType.object "BridgeNet$Message"))) (by decide) rfl (Nat.le_of_ble_eq_true rfl) ?_
  intro p e s m args below meth c ls hsz F hml hr hk hl h
  subst hsz
  have E1 := F.1
  have E2 := F.2.1
  have hl : lv_has ls 2 [(0, .ref (ad 7 x))] := hl
  refine lv_aload_n E1 E2 d_Li_takeFirst_0 rfl (lv_at hl 0 rfl) ?_
  refine g_Li_count F h (by omega) k_121 (v := N.2.1 7 x) rfl d_Li_takeFirst_1 ?_
  have hwcount : N.2.1 7 x < 13 := wf_count h.2.2.2 x
  refine lv_if_ne E1 E2 d_Li_takeFirst_4 rfl (fun h1 => ?_) (fun h1 => ?_)
  · have h1 : ¬ ((N.2.1 7 x) = 0) := (fun hw => h1 ((nI_eq (a := N.2.1 7 x) (b := 0) (by omega) (by omega)).mpr hw))
    refine lv_aload_n E1 E2 d_Li_takeFirst_9 rfl (lv_at hl 0 rfl) ?_
    refine g_Li_ring F h (by omega) k_119 d_Li_takeFirst_10 ?_
    refine lv_aload_n E1 E2 d_Li_takeFirst_13 rfl (lv_at hl 0 rfl) ?_
    refine g_Li_first F h (by omega) k_120 (v := N.2.1 6 x) rfl d_Li_takeFirst_14 ?_
    have hwfirst : N.2.1 6 x < 12 := wf_first h.2.2.2 x
    refine al_ring F h (by omega) (i := N.2.1 6 x) (by omega) d_Li_takeFirst_17 ?_
    refine lv_astore_n E1 E2 d_Li_takeFirst_18 rfl hl (by decide) rfl (fun ls hl => ?_)
    have hl : lv_has ls 2 [(1, .ref (ad 9 (12 * x + (N.2.1 6 x)))), (0, .ref (ad 7 x))] := hl
    refine lv_aload_n E1 E2 d_Li_takeFirst_19 rfl (lv_at hl 1 rfl) ?_
    refine lv_aload_n E1 E2 d_Li_takeFirst_20 rfl (lv_at hl 1 rfl) ?_
    refine g_Li_first F h (by omega) k_120 (v := N.2.1 6 x) rfl d_Li_takeFirst_21 ?_
    refine lv_iconst (v := 1) E1 E2 d_Li_takeFirst_24 (by decide) ?_
    refine lv_iadd E1 E2 d_Li_takeFirst_25 ?_
    have hwfirst : N.2.1 6 x < 12 := wf_first h.2.2.2 x
    refine bn_ti (y := nI ((N.2.1 6 x) + 1)) (nI_add (N.2.1 6 x) 1) ?_
    refine lv_bipush (v := 12) E1 E2 d_Li_takeFirst_26 (by decide) ?_
    refine lv_irem E1 E2 d_Li_takeFirst_28 (by decide) ?_
    have hwfirst : N.2.1 6 x < 12 := wf_first h.2.2.2 x
    refine bn_ti (y := nI (((N.2.1 6 x) + 1) % 12)) (pk_rem (a := ((N.2.1 6 x) + 1)) (d := 12) (by omega) (by omega) (by omega)) ?_
    have hwfirst : N.2.1 6 x < 12 := wf_first h.2.2.2 x
    refine p_Li_first F h (by omega) k_120 (v := ((N.2.1 6 x) + 1) % 12) (by omega) d_Li_takeFirst_29 (fun H locs h => ?_)
    have h : bn_H (bn_y D ar ad nf) s.heap H locs (sU N 6 x (((N.2.1 6 x) + 1) % 12)) := h
    refine lv_aload_n E1 E2 d_Li_takeFirst_32 rfl (lv_at hl 1 rfl) ?_
    refine lv_dup E1 E2 d_Li_takeFirst_33 rfl ?_
    refine g_Li_count F h (by omega) k_121 (v := N.2.1 7 x) rfl d_Li_takeFirst_34 ?_
    refine lv_iconst (v := 1) E1 E2 d_Li_takeFirst_37 (by decide) ?_
    refine lv_isub E1 E2 d_Li_takeFirst_38 ?_
    have hwcount : N.2.1 7 x < 13 := wf_count h.2.2.2 x
    refine bn_ti (y := nI ((N.2.1 7 x) - 1)) (pk_sub (a := (N.2.1 7 x)) (b := 1) (by omega)) ?_
    have hwcount : N.2.1 7 x < 13 := wf_count h.2.2.2 x
    refine p_Li_count F h (by omega) k_121 (v := (N.2.1 7 x) - 1) (by omega) d_Li_takeFirst_39 (fun H locs h => ?_)
    have h : bn_H (bn_y D ar ad nf) s.heap H locs (sU (sU N 6 x (((N.2.1 6 x) + 1) % 12)) 7 x ((N.2.1 7 x) - 1)) := h
    refine lv_aload_n E1 E2 d_Li_takeFirst_42 rfl (lv_at hl 0 rfl) ?_
    have hq : o_Li_takeFirst N x = (some (12 * x + (N.2.1 6 x)), (sU (sU N 6 x (((N.2.1 6 x) + 1) % 12)) 7 x ((N.2.1 7 x) - 1))) := if_neg h1
    exact bn_retq F (v := (some (ad 9 (12 * x + (N.2.1 6 x))))) hr hk h (by rw [hq]; rfl) (congrArg Prod.snd hq).symm d_Li_takeFirst_43
  · have h1 : (N.2.1 7 x) = 0 := ((nI_eq (a := N.2.1 7 x) (b := 0) (by omega) (by omega)).mp h1)
    refine lv_null E1 E2 d_Li_takeFirst_7 ?_
    have hq : o_Li_takeFirst N x = (none, N) := if_pos h1
    exact bn_retq F (v := none) hr hk h (by rw [hq]; rfl) (congrArg Prod.snd hq).symm d_Li_takeFirst_8
theorem lt_Li_takeFirst {N : bn_S} {x y : Nat} {nf : Nat} (hN : bn_wf nf N) (hx : x < 20) (h : (o_Li_takeFirst N x).1 = some y) : y < 240 := by
  have := wf_first hN x
  unfold o_Li_takeFirst at h
  split at h <;> simp at h
  omega
def o_Li_put (N : bn_S) (x : Nat) (kd : Int32) (ro : Int32) (g : Option Nat) : Option Nat × bn_S := (bn_oc g (if (N.2.1 7 x) = 12 then (none, N) else (some (12 * x + (((N.2.1 6 x) + (N.2.1 7 x)) % 12)), (sO (sI (sI (sU N 7 x ((N.2.1 7 x) + 1)) 12 (12 * x + (((N.2.1 6 x) + (N.2.1 7 x)) % 12)) kd) 13 (12 * x + (((N.2.1 6 x) + (N.2.1 7 x)) % 12)) ro) 5 (12 * x + (((N.2.1 6 x) + (N.2.1 7 x)) % 12)) none))) (fun g_ => (if (N.2.1 7 x) = 12 then (none, N) else (some (12 * x + (((N.2.1 6 x) + (N.2.1 7 x)) % 12)), (sO (sI (sI (sU N 7 x ((N.2.1 7 x) + 1)) 12 (12 * x + (((N.2.1 6 x) + (N.2.1 7 x)) % 12)) kd) 13 (12 * x + (((N.2.1 6 x) + (N.2.1 7 x)) % 12)) ro) 5 (12 * x + (((N.2.1 6 x) + (N.2.1 7 x)) % 12)) (some g_))))))
set_option maxHeartbeats 4000000 in
set_option maxRecDepth 100000 in
theorem c_Li_put (l : Launch) (D : va_G) (ar : Nat → ClassId) (ad : Nat → Nat → Nat) (nf : Nat) (N : bn_S) (x : Nat) (hx : x < 20) (kd : Int32) (ro : Int32) (g : Option Nat) (hg : ∀ y, g = some y → y < nf) : bn_R l y_Li_put w_Li_put { frames := 0, cells := 0, slots := 0, locals := 0 } (bn_y D ar ad nf) N [.ref (ad 7 x), .int kd, .int ro, va_rf (g.map (ad 13))] ((o_Li_put N x kd ro g).1.map (ad 9)) (o_Li_put N x kd ro g).2 := by
  intro sz
  cases g with
  | none =>
    refine bn_start (cc := b_Li_put) (maxL := 5) (ret := (Option.some (Jvm.ClassFile.FieldType.object "BridgeNet$Message"))) (by decide) rfl (Nat.le_of_ble_eq_true rfl) ?_
    intro p e s m args below meth c ls hsz F hml hr hk hl h
    subst hsz
    have E1 := F.1
    have E2 := F.2.1
    have hl : lv_has ls 5 [(0, .ref (ad 7 x)), (1, .int kd), (2, .int ro), (3, .null)] := hl
    refine lv_aload_n E1 E2 d_Li_put_0 rfl (lv_at hl 0 rfl) ?_
    refine g_Li_count F h (by omega) k_121 (v := N.2.1 7 x) rfl d_Li_put_1 ?_
    refine lv_bipush (v := 12) E1 E2 d_Li_put_4 (by decide) ?_
    have hwcount : N.2.1 7 x < 13 := wf_count h.2.2.2 x
    refine lv_icmp_ne E1 E2 d_Li_put_6 rfl (fun h1 => ?_) (fun h1 => ?_)
    · have h1 : ¬ ((N.2.1 7 x) = 12) := (fun hw => h1 ((nI_eq (a := N.2.1 7 x) (b := 12) (by omega) (by omega)).mpr hw))
      refine lv_aload_n E1 E2 d_Li_put_11 rfl (lv_at hl 0 rfl) ?_
      refine g_Li_ring F h (by omega) k_119 d_Li_put_12 ?_
      refine lv_aload_n E1 E2 d_Li_put_15 rfl (lv_at hl 0 rfl) ?_
      refine g_Li_first F h (by omega) k_120 (v := N.2.1 6 x) rfl d_Li_put_16 ?_
      refine lv_aload_n E1 E2 d_Li_put_19 rfl (lv_at hl 0 rfl) ?_
      refine g_Li_count F h (by omega) k_121 (v := N.2.1 7 x) rfl d_Li_put_20 ?_
      refine lv_iadd E1 E2 d_Li_put_23 ?_
      have hwfirst : N.2.1 6 x < 12 := wf_first h.2.2.2 x
      have hwcount : N.2.1 7 x < 13 := wf_count h.2.2.2 x
      refine bn_ti (y := nI ((N.2.1 6 x) + (N.2.1 7 x))) (nI_add (N.2.1 6 x) (N.2.1 7 x)) ?_
      refine lv_bipush (v := 12) E1 E2 d_Li_put_24 (by decide) ?_
      refine lv_irem E1 E2 d_Li_put_26 (by decide) ?_
      have hwfirst : N.2.1 6 x < 12 := wf_first h.2.2.2 x
      have hwcount : N.2.1 7 x < 13 := wf_count h.2.2.2 x
      refine bn_ti (y := nI (((N.2.1 6 x) + (N.2.1 7 x)) % 12)) (pk_rem (a := ((N.2.1 6 x) + (N.2.1 7 x))) (d := 12) (by omega) (by omega) (by omega)) ?_
      have hwfirst : N.2.1 6 x < 12 := wf_first h.2.2.2 x
      have hwcount : N.2.1 7 x < 13 := wf_count h.2.2.2 x
      refine al_ring F h (by omega) (i := ((N.2.1 6 x) + (N.2.1 7 x)) % 12) (by omega) d_Li_put_27 ?_
      refine lv_astore E1 E2 d_Li_put_28 hl (by decide) rfl (fun ls hl => ?_)
      have hl : lv_has ls 5 [(4, .ref (ad 9 (12 * x + (((N.2.1 6 x) + (N.2.1 7 x)) % 12)))), (0, .ref (ad 7 x)), (1, .int kd), (2, .int ro), (3, .null)] := hl
      refine lv_aload_n E1 E2 d_Li_put_30 rfl (lv_at hl 1 rfl) ?_
      refine lv_dup E1 E2 d_Li_put_31 rfl ?_
      refine g_Li_count F h (by omega) k_121 (v := N.2.1 7 x) rfl d_Li_put_32 ?_
      refine lv_iconst (v := 1) E1 E2 d_Li_put_35 (by decide) ?_
      refine lv_iadd E1 E2 d_Li_put_36 ?_
      have hwcount : N.2.1 7 x < 13 := wf_count h.2.2.2 x
      refine bn_ti (y := nI ((N.2.1 7 x) + 1)) (nI_add (N.2.1 7 x) 1) ?_
      have hwcount : N.2.1 7 x < 13 := wf_count h.2.2.2 x
      refine p_Li_count F h (by omega) k_121 (v := (N.2.1 7 x) + 1) (by omega) d_Li_put_37 (fun H locs h => ?_)
      have h : bn_H (bn_y D ar ad nf) s.heap H locs (sU N 7 x ((N.2.1 7 x) + 1)) := h
      refine lv_aload E1 E2 d_Li_put_40 (lv_at hl 0 rfl) ?_
      refine lv_iload_n E1 E2 d_Li_put_42 rfl (lv_at hl 2 rfl) ?_
      refine p_Ms_kind F h (by omega) k_90 d_Li_put_43 (fun H locs h => ?_)
      have h : bn_H (bn_y D ar ad nf) s.heap H locs (sI (sU N 7 x ((N.2.1 7 x) + 1)) 12 (12 * x + (((N.2.1 6 x) + (N.2.1 7 x)) % 12)) kd) := h
      refine lv_aload E1 E2 d_Li_put_46 (lv_at hl 0 rfl) ?_
      refine lv_iload_n E1 E2 d_Li_put_48 rfl (lv_at hl 3 rfl) ?_
      refine p_Ms_root F h (by omega) k_92 d_Li_put_49 (fun H locs h => ?_)
      have h : bn_H (bn_y D ar ad nf) s.heap H locs (sI (sI (sU N 7 x ((N.2.1 7 x) + 1)) 12 (12 * x + (((N.2.1 6 x) + (N.2.1 7 x)) % 12)) kd) 13 (12 * x + (((N.2.1 6 x) + (N.2.1 7 x)) % 12)) ro) := h
      refine lv_aload E1 E2 d_Li_put_52 (lv_at hl 0 rfl) ?_
      refine lv_aload_nN E1 E2 d_Li_put_54 rfl (lv_at hl 4 rfl) ?_
      refine p_Ms_frame F h (by omega) k_104 (none) (fun _ hz => by cases hz) d_Li_put_55 (fun H locs h => ?_)
      have h : bn_H (bn_y D ar ad nf) s.heap H locs (sO (sI (sI (sU N 7 x ((N.2.1 7 x) + 1)) 12 (12 * x + (((N.2.1 6 x) + (N.2.1 7 x)) % 12)) kd) 13 (12 * x + (((N.2.1 6 x) + (N.2.1 7 x)) % 12)) ro) 5 (12 * x + (((N.2.1 6 x) + (N.2.1 7 x)) % 12)) none) := h
      refine lv_aload E1 E2 d_Li_put_58 (lv_at hl 0 rfl) ?_
      have hq : o_Li_put N x kd ro none = (some (12 * x + (((N.2.1 6 x) + (N.2.1 7 x)) % 12)), (sO (sI (sI (sU N 7 x ((N.2.1 7 x) + 1)) 12 (12 * x + (((N.2.1 6 x) + (N.2.1 7 x)) % 12)) kd) 13 (12 * x + (((N.2.1 6 x) + (N.2.1 7 x)) % 12)) ro) 5 (12 * x + (((N.2.1 6 x) + (N.2.1 7 x)) % 12)) none)) := Eq.trans (bn_oc_n rfl) (if_neg h1)
      exact bn_retq F (v := (some (ad 9 (12 * x + (((N.2.1 6 x) + (N.2.1 7 x)) % 12))))) hr hk h (by rw [hq]; rfl) (congrArg Prod.snd hq).symm d_Li_put_60
    · have h1 : (N.2.1 7 x) = 12 := ((nI_eq (a := N.2.1 7 x) (b := 12) (by omega) (by omega)).mp h1)
      refine lv_null E1 E2 d_Li_put_9 ?_
      have hq : o_Li_put N x kd ro none = (none, N) := Eq.trans (bn_oc_n rfl) (if_pos h1)
      exact bn_retq F (v := none) hr hk h (by rw [hq]; rfl) (congrArg Prod.snd hq).symm d_Li_put_10
  | some g_ =>
    have hg_ := hg g_ rfl
    refine bn_start (cc := b_Li_put) (maxL := 5) (ret := (Option.some (Jvm.ClassFile.FieldType.object "BridgeNet$Message"))) (by decide) rfl (Nat.le_of_ble_eq_true rfl) ?_
    intro p e s m args below meth c ls hsz F hml hr hk hl h
    subst hsz
    have E1 := F.1
    have E2 := F.2.1
    have hl : lv_has ls 5 [(0, .ref (ad 7 x)), (1, .int kd), (2, .int ro), (3, .ref (ad 13 g_))] := hl
    refine lv_aload_n E1 E2 d_Li_put_0 rfl (lv_at hl 0 rfl) ?_
    refine g_Li_count F h (by omega) k_121 (v := N.2.1 7 x) rfl d_Li_put_1 ?_
    refine lv_bipush (v := 12) E1 E2 d_Li_put_4 (by decide) ?_
    have hwcount : N.2.1 7 x < 13 := wf_count h.2.2.2 x
    refine lv_icmp_ne E1 E2 d_Li_put_6 rfl (fun h2 => ?_) (fun h2 => ?_)
    · have h2 : ¬ ((N.2.1 7 x) = 12) := (fun hw => h2 ((nI_eq (a := N.2.1 7 x) (b := 12) (by omega) (by omega)).mpr hw))
      refine lv_aload_n E1 E2 d_Li_put_11 rfl (lv_at hl 0 rfl) ?_
      refine g_Li_ring F h (by omega) k_119 d_Li_put_12 ?_
      refine lv_aload_n E1 E2 d_Li_put_15 rfl (lv_at hl 0 rfl) ?_
      refine g_Li_first F h (by omega) k_120 (v := N.2.1 6 x) rfl d_Li_put_16 ?_
      refine lv_aload_n E1 E2 d_Li_put_19 rfl (lv_at hl 0 rfl) ?_
      refine g_Li_count F h (by omega) k_121 (v := N.2.1 7 x) rfl d_Li_put_20 ?_
      refine lv_iadd E1 E2 d_Li_put_23 ?_
      have hwfirst : N.2.1 6 x < 12 := wf_first h.2.2.2 x
      have hwcount : N.2.1 7 x < 13 := wf_count h.2.2.2 x
      refine bn_ti (y := nI ((N.2.1 6 x) + (N.2.1 7 x))) (nI_add (N.2.1 6 x) (N.2.1 7 x)) ?_
      refine lv_bipush (v := 12) E1 E2 d_Li_put_24 (by decide) ?_
      refine lv_irem E1 E2 d_Li_put_26 (by decide) ?_
      have hwfirst : N.2.1 6 x < 12 := wf_first h.2.2.2 x
      have hwcount : N.2.1 7 x < 13 := wf_count h.2.2.2 x
      refine bn_ti (y := nI (((N.2.1 6 x) + (N.2.1 7 x)) % 12)) (pk_rem (a := ((N.2.1 6 x) + (N.2.1 7 x))) (d := 12) (by omega) (by omega) (by omega)) ?_
      have hwfirst : N.2.1 6 x < 12 := wf_first h.2.2.2 x
      have hwcount : N.2.1 7 x < 13 := wf_count h.2.2.2 x
      refine al_ring F h (by omega) (i := ((N.2.1 6 x) + (N.2.1 7 x)) % 12) (by omega) d_Li_put_27 ?_
      refine lv_astore E1 E2 d_Li_put_28 hl (by decide) rfl (fun ls hl => ?_)
      have hl : lv_has ls 5 [(4, .ref (ad 9 (12 * x + (((N.2.1 6 x) + (N.2.1 7 x)) % 12)))), (0, .ref (ad 7 x)), (1, .int kd), (2, .int ro), (3, .ref (ad 13 g_))] := hl
      refine lv_aload_n E1 E2 d_Li_put_30 rfl (lv_at hl 1 rfl) ?_
      refine lv_dup E1 E2 d_Li_put_31 rfl ?_
      refine g_Li_count F h (by omega) k_121 (v := N.2.1 7 x) rfl d_Li_put_32 ?_
      refine lv_iconst (v := 1) E1 E2 d_Li_put_35 (by decide) ?_
      refine lv_iadd E1 E2 d_Li_put_36 ?_
      have hwcount : N.2.1 7 x < 13 := wf_count h.2.2.2 x
      refine bn_ti (y := nI ((N.2.1 7 x) + 1)) (nI_add (N.2.1 7 x) 1) ?_
      have hwcount : N.2.1 7 x < 13 := wf_count h.2.2.2 x
      refine p_Li_count F h (by omega) k_121 (v := (N.2.1 7 x) + 1) (by omega) d_Li_put_37 (fun H locs h => ?_)
      have h : bn_H (bn_y D ar ad nf) s.heap H locs (sU N 7 x ((N.2.1 7 x) + 1)) := h
      refine lv_aload E1 E2 d_Li_put_40 (lv_at hl 0 rfl) ?_
      refine lv_iload_n E1 E2 d_Li_put_42 rfl (lv_at hl 2 rfl) ?_
      refine p_Ms_kind F h (by omega) k_90 d_Li_put_43 (fun H locs h => ?_)
      have h : bn_H (bn_y D ar ad nf) s.heap H locs (sI (sU N 7 x ((N.2.1 7 x) + 1)) 12 (12 * x + (((N.2.1 6 x) + (N.2.1 7 x)) % 12)) kd) := h
      refine lv_aload E1 E2 d_Li_put_46 (lv_at hl 0 rfl) ?_
      refine lv_iload_n E1 E2 d_Li_put_48 rfl (lv_at hl 3 rfl) ?_
      refine p_Ms_root F h (by omega) k_92 d_Li_put_49 (fun H locs h => ?_)
      have h : bn_H (bn_y D ar ad nf) s.heap H locs (sI (sI (sU N 7 x ((N.2.1 7 x) + 1)) 12 (12 * x + (((N.2.1 6 x) + (N.2.1 7 x)) % 12)) kd) 13 (12 * x + (((N.2.1 6 x) + (N.2.1 7 x)) % 12)) ro) := h
      refine lv_aload E1 E2 d_Li_put_52 (lv_at hl 0 rfl) ?_
      refine lv_aload_n E1 E2 d_Li_put_54 rfl (lv_at hl 4 rfl) ?_
      refine p_Ms_frame F h (by omega) k_104 (some g_) (fun _ hz => by cases hz; omega) d_Li_put_55 (fun H locs h => ?_)
      have h : bn_H (bn_y D ar ad nf) s.heap H locs (sO (sI (sI (sU N 7 x ((N.2.1 7 x) + 1)) 12 (12 * x + (((N.2.1 6 x) + (N.2.1 7 x)) % 12)) kd) 13 (12 * x + (((N.2.1 6 x) + (N.2.1 7 x)) % 12)) ro) 5 (12 * x + (((N.2.1 6 x) + (N.2.1 7 x)) % 12)) (some g_)) := h
      refine lv_aload E1 E2 d_Li_put_58 (lv_at hl 0 rfl) ?_
      have hq : o_Li_put N x kd ro (some g_) = (some (12 * x + (((N.2.1 6 x) + (N.2.1 7 x)) % 12)), (sO (sI (sI (sU N 7 x ((N.2.1 7 x) + 1)) 12 (12 * x + (((N.2.1 6 x) + (N.2.1 7 x)) % 12)) kd) 13 (12 * x + (((N.2.1 6 x) + (N.2.1 7 x)) % 12)) ro) 5 (12 * x + (((N.2.1 6 x) + (N.2.1 7 x)) % 12)) (some g_))) := Eq.trans (bn_oc_s rfl) (if_neg h2)
      exact bn_retq F (v := (some (ad 9 (12 * x + (((N.2.1 6 x) + (N.2.1 7 x)) % 12))))) hr hk h (by rw [hq]; rfl) (congrArg Prod.snd hq).symm d_Li_put_60
    · have h2 : (N.2.1 7 x) = 12 := ((nI_eq (a := N.2.1 7 x) (b := 12) (by omega) (by omega)).mp h2)
      refine lv_null E1 E2 d_Li_put_9 ?_
      have hq : o_Li_put N x kd ro (some g_) = (none, N) := Eq.trans (bn_oc_s rfl) (if_pos h2)
      exact bn_retq F (v := none) hr hk h (by rw [hq]; rfl) (congrArg Prod.snd hq).symm d_Li_put_10
theorem lt_Li_put {N : bn_S} {x y : Nat} {kd ro : Int32} {g : Option Nat} (hx : x < 20) (h : (o_Li_put N x kd ro g).1 = some y) : y < 240 := by
  unfold o_Li_put at h
  cases g <;> (simp only [bn_oc] at h; split at h <;> simp at h; omega)
def o_Li_putTell (N : bn_S) (x : Nat) (v : Int64) (ho : Int32) (pr : Nat) : bn_S := (bn_oc ((o_Li_put N x 1 (r_Ve_rootOf N v) none).1) ((o_Li_put N x 1 (r_Ve_rootOf N v) none).2) (fun y2 => (sU (sI (sJ ((o_Li_put N x 1 (r_Ve_rootOf N v) none).2) 2 y2 v) 14 y2 ho) 5 y2 pr)))
set_option maxHeartbeats 4000000 in
set_option maxRecDepth 100000 in
theorem c_Li_putTell (l : Launch) (D : va_G) (ar : Nat → ClassId) (ad : Nat → Nat → Nat) (nf : Nat) (N : bn_S) (x : Nat) (hx : x < 20) (v : Int64) (ho : Int32) (pr : Nat) (hpr : pr < 2) : bn_V l y_Li_putTell w_Li_putTell { frames := 1, cells := 0, slots := 0, locals := 24 } (bn_y D ar ad nf) N [.ref (ad 7 x), .long v, .int ho, .int (nI pr)] (o_Li_putTell N x v ho pr) := by
  intro sz
  refine bn_start (cc := b_Li_putTell) (maxL := 6) (ret := (Option.none : Option Jvm.ClassFile.FieldType)) (by decide) rfl (Nat.le_of_ble_eq_true rfl) ?_
  intro p e s m args below meth c ls hsz F hml hr hk hl h
  subst hsz
  have E1 := F.1
  have E2 := F.2.1
  have hl : lv_has ls 6 [(0, .ref (ad 7 x)), (1, .long v), (3, .int ho), (4, .int (nI pr))] := hl
  refine lv_aload_n E1 E2 d_Li_putTell_0 rfl (lv_at hl 0 rfl) ?_
  refine lv_iconst (v := 1) E1 E2 d_Li_putTell_1 (by decide) ?_
  refine lv_lload_n E1 E2 d_Li_putTell_2 rfl (lv_at hl 1 rfl) ?_
  refine bn_calli F h (bn_runS (n := 1) (As := [.long v]) (rest := [.int 1, .ref (ad 7 x)]) F hml hl.1 h (c_Ve_rootOf l D ar ad nf N v _) (bn_goodS k_312 k_270 k_8 k_271) rfl rfl (by decide) ⟨by decide, by decide⟩ rfl rfl (Nat.le_of_ble_eq_true rfl) d_Li_putTell_3 ⟨Nat.zero_le _, Nat.zero_le _⟩) (fun H locs h => ?_)
  refine lv_null E1 E2 d_Li_putTell_6 ?_
  have hwf := h.2.2.2
  refine bn_callq F h (bn_runV (n := 3) (As := [.int 1, .int (r_Ve_rootOf N v), .null]) (rest := []) F hml hl.1 h (mm_7 (by omega)) rfl rfl (c_Li_put l D ar ad nf N x (by omega) 1 (r_Ve_rootOf N v) none (fun _ hz => by cases hz) _) (bn_goodV k_313 k_315 ks_Li_put k_4 k_316) rfl rfl (by decide) ⟨by decide, by decide⟩ rfl rfl (Nat.le_of_ble_eq_true rfl) d_Li_putTell_7 ⟨Nat.zero_le _, Nat.zero_le _⟩) (fun H locs h => ?_)
  have h : bn_H (bn_y D ar ad nf) s.heap H locs (o_Li_put N x 1 (r_Ve_rootOf N v) none).2 := h
  refine bn_oq (f := ad 9) (o := (o_Li_put N x 1 (r_Ve_rootOf N v) none).1) (fun ho1 => ?_) (fun y2 ho1 => ?_)
  · skip
    refine lv_astoreN E1 E2 d_Li_putTell_10 hl (by decide) rfl (fun ls hl => ?_)
    have hl : lv_has ls 6 [(5, .null), (0, .ref (ad 7 x)), (1, .long v), (3, .int ho), (4, .int (nI pr))] := hl
    refine lv_aloadN E1 E2 d_Li_putTell_12 (lv_at hl 0 rfl) ?_
    refine lv_ifnullN E1 E2 d_Li_putTell_14 rfl ?_
    have hq : o_Li_putTell N x v ho pr = (o_Li_put N x 1 (r_Ve_rootOf N v) none).2 := bn_oc_n ho1
    exact bn_retv F hr hk h hq.symm d_Li_putTell_36
  · have hy2 := lt_Li_put (by omega) ho1
    refine lv_astore E1 E2 d_Li_putTell_10 hl (by decide) rfl (fun ls hl => ?_)
    have hl : lv_has ls 6 [(5, .ref (ad 9 y2)), (0, .ref (ad 7 x)), (1, .long v), (3, .int ho), (4, .int (nI pr))] := hl
    refine lv_aload E1 E2 d_Li_putTell_12 (lv_at hl 0 rfl) ?_
    refine lv_ifnull E1 E2 d_Li_putTell_14 ?_
    refine lv_aload E1 E2 d_Li_putTell_17 (lv_at hl 0 rfl) ?_
    refine lv_lload_n E1 E2 d_Li_putTell_19 rfl (lv_at hl 2 rfl) ?_
    refine p_Ms_vector F h (by omega) k_95 d_Li_putTell_20 (fun H locs h => ?_)
    have h : bn_H (bn_y D ar ad nf) s.heap H locs (sJ ((o_Li_put N x 1 (r_Ve_rootOf N v) none).2) 2 y2 v) := h
    refine lv_aload E1 E2 d_Li_putTell_23 (lv_at hl 0 rfl) ?_
    refine lv_iload_n E1 E2 d_Li_putTell_25 rfl (lv_at hl 3 rfl) ?_
    refine p_Ms_hops F h (by omega) k_98 d_Li_putTell_26 (fun H locs h => ?_)
    have h : bn_H (bn_y D ar ad nf) s.heap H locs (sI (sJ ((o_Li_put N x 1 (r_Ve_rootOf N v) none).2) 2 y2 v) 14 y2 ho) := h
    refine lv_aload E1 E2 d_Li_putTell_29 (lv_at hl 0 rfl) ?_
    refine lv_iload E1 E2 d_Li_putTell_31 (lv_at hl 4 rfl) ?_
    refine p_Ms_proposing F h (by omega) k_101 (v := pr) (by omega) d_Li_putTell_33 (fun H locs h => ?_)
    have h : bn_H (bn_y D ar ad nf) s.heap H locs (sU (sI (sJ ((o_Li_put N x 1 (r_Ve_rootOf N v) none).2) 2 y2 v) 14 y2 ho) 5 y2 pr) := h
    have hq : o_Li_putTell N x v ho pr = (sU (sI (sJ ((o_Li_put N x 1 (r_Ve_rootOf N v) none).2) 2 y2 v) 14 y2 ho) 5 y2 pr) := bn_oc_s ho1
    exact bn_retv F hr hk h hq.symm d_Li_putTell_36
def o_Li_putAgree (N : bn_S) (x : Nat) (ro : Int32) : bn_S := (bn_oc ((o_Li_put N x 2 ro none).1) ((o_Li_put N x 2 ro none).2) (fun y2 => (o_Li_put N x 2 ro none).2))
set_option maxHeartbeats 4000000 in
set_option maxRecDepth 100000 in
theorem c_Li_putAgree (l : Launch) (D : va_G) (ar : Nat → ClassId) (ad : Nat → Nat → Nat) (nf : Nat) (N : bn_S) (x : Nat) (hx : x < 20) (ro : Int32) : bn_V l y_Li_putAgree w_Li_putAgree { frames := 1, cells := 0, slots := 0, locals := 24 } (bn_y D ar ad nf) N [.ref (ad 7 x), .int ro] (o_Li_putAgree N x ro) := by
  intro sz
  refine bn_start (cc := b_Li_putAgree) (maxL := 2) (ret := (Option.none : Option Jvm.ClassFile.FieldType)) (by decide) rfl (Nat.le_of_ble_eq_true rfl) ?_
  intro p e s m args below meth c ls hsz F hml hr hk hl h
  subst hsz
  have E1 := F.1
  have E2 := F.2.1
  have hl : lv_has ls 2 [(0, .ref (ad 7 x)), (1, .int ro)] := hl
  refine lv_aload_n E1 E2 d_Li_putAgree_0 rfl (lv_at hl 0 rfl) ?_
  refine lv_iconst (v := 2) E1 E2 d_Li_putAgree_1 (by decide) ?_
  refine lv_iload_n E1 E2 d_Li_putAgree_2 rfl (lv_at hl 1 rfl) ?_
  refine lv_null E1 E2 d_Li_putAgree_3 ?_
  have hwf := h.2.2.2
  refine bn_callq F h (bn_runV (n := 3) (As := [.int 2, .int ro, .null]) (rest := []) F hml hl.1 h (mm_7 (by omega)) rfl rfl (c_Li_put l D ar ad nf N x (by omega) 2 ro none (fun _ hz => by cases hz) _) (bn_goodV k_313 k_315 ks_Li_put k_4 k_316) rfl rfl (by decide) ⟨by decide, by decide⟩ rfl rfl (Nat.le_of_ble_eq_true rfl) d_Li_putAgree_4 ⟨Nat.zero_le _, Nat.zero_le _⟩) (fun H locs h => ?_)
  have h : bn_H (bn_y D ar ad nf) s.heap H locs (o_Li_put N x 2 ro none).2 := h
  refine bn_oq (f := ad 9) (o := (o_Li_put N x 2 ro none).1) (fun ho1 => ?_) (fun y2 ho1 => ?_)
  · skip
    refine lv_pop E1 E2 d_Li_putAgree_7 rfl ?_
    have hq : o_Li_putAgree N x ro = (o_Li_put N x 2 ro none).2 := bn_oc_n ho1
    exact bn_retv F hr hk h hq.symm d_Li_putAgree_8
  · have hy2 := lt_Li_put (by omega) ho1
    refine lv_pop E1 E2 d_Li_putAgree_7 rfl ?_
    have hq : o_Li_putAgree N x ro = (o_Li_put N x 2 ro none).2 := bn_oc_s ho1
    exact bn_retv F hr hk h hq.symm d_Li_putAgree_8
def o_Li_putFrame (N : bn_S) (x : Nat) (f : Nat) : bn_S := (bn_oc ((o_Li_put N x 3 0 (some f)).1) ((o_Li_put N x 3 0 (some f)).2) (fun y2 => (o_Li_put N x 3 0 (some f)).2))
set_option maxHeartbeats 4000000 in
set_option maxRecDepth 100000 in
theorem c_Li_putFrame (l : Launch) (D : va_G) (ar : Nat → ClassId) (ad : Nat → Nat → Nat) (nf : Nat) (N : bn_S) (x : Nat) (hx : x < 20) (f : Nat) (hf : f < nf) : bn_V l y_Li_putFrame w_Li_putFrame { frames := 1, cells := 0, slots := 0, locals := 24 } (bn_y D ar ad nf) N [.ref (ad 7 x), .ref (ad 13 f)] (o_Li_putFrame N x f) := by
  intro sz
  refine bn_start (cc := b_Li_putFrame) (maxL := 2) (ret := (Option.none : Option Jvm.ClassFile.FieldType)) (by decide) rfl (Nat.le_of_ble_eq_true rfl) ?_
  intro p e s m args below meth c ls hsz F hml hr hk hl h
  subst hsz
  have E1 := F.1
  have E2 := F.2.1
  have hl : lv_has ls 2 [(0, .ref (ad 7 x)), (1, .ref (ad 13 f))] := hl
  refine lv_aload_n E1 E2 d_Li_putFrame_0 rfl (lv_at hl 0 rfl) ?_
  refine lv_iconst (v := 3) E1 E2 d_Li_putFrame_1 (by decide) ?_
  refine lv_iconst (v := 0) E1 E2 d_Li_putFrame_2 (by decide) ?_
  refine lv_aload_n E1 E2 d_Li_putFrame_3 rfl (lv_at hl 1 rfl) ?_
  have hwf := h.2.2.2
  refine bn_callq F h (bn_runV (n := 3) (As := [.int 3, .int 0, .ref (ad 13 f)]) (rest := []) F hml hl.1 h (mm_7 (by omega)) rfl rfl (c_Li_put l D ar ad nf N x (by omega) 3 0 (some f) (fun _ hz => by cases hz; omega) _) (bn_goodV k_313 k_315 ks_Li_put k_4 k_316) rfl rfl (by decide) ⟨by decide, by decide⟩ rfl rfl (Nat.le_of_ble_eq_true rfl) d_Li_putFrame_4 ⟨Nat.zero_le _, Nat.zero_le _⟩) (fun H locs h => ?_)
  have h : bn_H (bn_y D ar ad nf) s.heap H locs (o_Li_put N x 3 0 (some f)).2 := h
  refine bn_oq (f := ad 9) (o := (o_Li_put N x 3 0 (some f)).1) (fun ho1 => ?_) (fun y2 ho1 => ?_)
  · skip
    refine lv_pop E1 E2 d_Li_putFrame_7 rfl ?_
    have hq : o_Li_putFrame N x f = (o_Li_put N x 3 0 (some f)).2 := bn_oc_n ho1
    exact bn_retv F hr hk h hq.symm d_Li_putFrame_8
  · have hy2 := lt_Li_put (by omega) ho1
    refine lv_pop E1 E2 d_Li_putFrame_7 rfl ?_
    have hq : o_Li_putFrame N x f = (o_Li_put N x 3 0 (some f)).2 := bn_oc_s ho1
    exact bn_retv F hr hk h hq.symm d_Li_putFrame_8
def o_St_keep (N : bn_S) (t : Nat) (f : Nat) : bn_S := (if 40 ≤ (N.2.1 9 t) then N else (sU (sJ N (t + 20) (N.2.1 9 t) (r_Fr_inboxEntry N f)) 9 t ((N.2.1 9 t) + 1)))
set_option maxHeartbeats 4000000 in
set_option maxRecDepth 100000 in
theorem c_St_keep (l : Launch) (D : va_G) (ar : Nat → ClassId) (ad : Nat → Nat → Nat) (nf : Nat) (N : bn_S) (t : Nat) (ht : t < 8) (f : Nat) (hf : f < nf) : bn_V l y_St_keep w_St_keep { frames := 1, cells := 0, slots := 0, locals := 20 } (bn_y D ar ad nf) N [.ref (ad 11 t), .ref (ad 13 f)] (o_St_keep N t f) := by
  intro sz
  refine bn_start (cc := b_St_keep) (maxL := 2) (ret := (Option.none : Option Jvm.ClassFile.FieldType)) (by decide) rfl (Nat.le_of_ble_eq_true rfl) ?_
  intro p e s m args below meth c ls hsz F hml hr hk hl h
  subst hsz
  have E1 := F.1
  have E2 := F.2.1
  have hl : lv_has ls 2 [(0, .ref (ad 11 t)), (1, .ref (ad 13 f))] := hl
  refine lv_aload_n E1 E2 d_St_keep_0 rfl (lv_at hl 0 rfl) ?_
  refine g_St_count F h (by omega) k_207 (v := N.2.1 9 t) rfl d_St_keep_1 ?_
  refine lv_bipush (v := 40) E1 E2 d_St_keep_4 (by decide) ?_
  have hwscount : N.2.1 9 t < 41 := wf_scount h.2.2.2 t
  refine lv_icmp_ge E1 E2 d_St_keep_6 rfl (fun h1 => ?_) (fun h1 => ?_)
  · have h1 : 40 ≤ (N.2.1 9 t) := ((nI_leI (a := 40) (b := N.2.1 9 t) (by omega) (by omega)).mp h1)
    have hq : o_St_keep N t f = N := if_pos h1
    exact bn_retv F hr hk h hq.symm d_St_keep_32
  · have h1 : ¬ (40 ≤ (N.2.1 9 t)) := (fun hw => h1 ((nI_leI (a := 40) (b := N.2.1 9 t) (by omega) (by omega)).mpr hw))
    refine lv_aload_n E1 E2 d_St_keep_9 rfl (lv_at hl 0 rfl) ?_
    refine g_St_inbox F h (by omega) k_206 d_St_keep_10 ?_
    refine lv_aload_n E1 E2 d_St_keep_13 rfl (lv_at hl 0 rfl) ?_
    refine g_St_count F h (by omega) k_207 (v := N.2.1 9 t) rfl d_St_keep_14 ?_
    refine lv_aload_n E1 E2 d_St_keep_17 rfl (lv_at hl 1 rfl) ?_
    refine bn_calll F h (bn_runV (n := 0) (As := []) (rest := [.int (nI (N.2.1 9 t)), .ref (ad 12 t)]) F hml hl.1 h (mm_13 (by omega)) rfl rfl (c_Fr_inboxEntry l D ar ad nf N f (by omega) _) (bn_goodV k_642 k_643 k_644 k_15 k_645) rfl rfl (by decide) ⟨by decide, by decide⟩ rfl rfl (Nat.le_of_ble_eq_true rfl) d_St_keep_18 ⟨Nat.zero_le _, Nat.zero_le _⟩) (fun H locs h => ?_)
    have hwscount : N.2.1 9 t < 41 := wf_scount h.2.2.2 t
    refine as_inbox F h (by omega) (i := N.2.1 9 t) (v := r_Fr_inboxEntry N f) (by omega) d_St_keep_21 (fun H locs h => ?_)
    have h : bn_H (bn_y D ar ad nf) s.heap H locs (sJ N (t + 20) (N.2.1 9 t) (r_Fr_inboxEntry N f)) := h
    refine lv_aload_n E1 E2 d_St_keep_22 rfl (lv_at hl 0 rfl) ?_
    refine lv_dup E1 E2 d_St_keep_23 rfl ?_
    refine g_St_count F h (by omega) k_207 (v := N.2.1 9 t) rfl d_St_keep_24 ?_
    refine lv_iconst (v := 1) E1 E2 d_St_keep_27 (by decide) ?_
    refine lv_iadd E1 E2 d_St_keep_28 ?_
    have hwscount : N.2.1 9 t < 41 := wf_scount h.2.2.2 t
    refine bn_ti (y := nI ((N.2.1 9 t) + 1)) (nI_add (N.2.1 9 t) 1) ?_
    have hwscount : N.2.1 9 t < 41 := wf_scount h.2.2.2 t
    refine p_St_count F h (by omega) k_207 (v := (N.2.1 9 t) + 1) (by omega) d_St_keep_29 (fun H locs h => ?_)
    have h : bn_H (bn_y D ar ad nf) s.heap H locs (sU (sJ N (t + 20) (N.2.1 9 t) (r_Fr_inboxEntry N f)) 9 t ((N.2.1 9 t) + 1)) := h
    have hq : o_St_keep N t f = (sU (sJ N (t + 20) (N.2.1 9 t) (r_Fr_inboxEntry N f)) 9 t ((N.2.1 9 t) + 1)) := if_neg h1
    exact bn_retv F hr hk h hq.symm d_St_keep_32
def r_St_kept (N : bn_S) (t : Nat) (k : Int32) : Int64 := (if k < 0 then -1 else (if nI (N.2.1 9 t) ≤ k then -1 else N.2.2.1 (t + 20) (k.toNatClampNeg)))
set_option maxHeartbeats 4000000 in
set_option maxRecDepth 100000 in
theorem c_St_kept (l : Launch) (D : va_G) (ar : Nat → ClassId) (ad : Nat → Nat → Nat) (nf : Nat) (N : bn_S) (t : Nat) (ht : t < 8) (k : Int32) : bn_L l y_St_kept w_St_kept { frames := 0, cells := 0, slots := 0, locals := 0 } (bn_y D ar ad nf) N [.ref (ad 11 t), .int k] (r_St_kept N t k) N := by
  intro sz
  refine bn_start (cc := b_St_kept) (maxL := 2) (ret := (Option.some Jvm.ClassFile.FieldType.long)) (by decide) rfl (Nat.le_of_ble_eq_true rfl) ?_
  intro p e s m args below meth c ls hsz F hml hr hk hl h
  subst hsz
  have E1 := F.1
  have E2 := F.2.1
  have hl : lv_has ls 2 [(0, .ref (ad 11 t)), (1, .int k)] := hl
  refine lv_iload_n E1 E2 d_St_kept_0 rfl (lv_at hl 1 rfl) ?_
  refine lv_if_lt E1 E2 d_St_kept_1 rfl (fun h1 => ?_) (fun h1 => ?_)
  · have h1 : k < 0 := h1
    refine lv_ldc2 (own := "BridgeNet$Station") E1 E2 F.2.2.1 (F.2.2.2.1 _ k_438) d_St_kept_21 ?_
    have hq : r_St_kept N t k = -1 := if_pos h1
    exact bn_retl F hr hk h hq.symm rfl d_St_kept_24
  · have h1 : ¬ (k < 0) := h1
    refine lv_iload_n E1 E2 d_St_kept_4 rfl (lv_at hl 1 rfl) ?_
    refine lv_aload_n E1 E2 d_St_kept_5 rfl (lv_at hl 0 rfl) ?_
    refine g_St_count F h (by omega) k_207 (v := N.2.1 9 t) rfl d_St_kept_6 ?_
    refine lv_icmp_ge E1 E2 d_St_kept_9 rfl (fun h2 => ?_) (fun h2 => ?_)
    · have h2 : nI (N.2.1 9 t) ≤ k := h2
      refine lv_ldc2 (own := "BridgeNet$Station") E1 E2 F.2.2.1 (F.2.2.2.1 _ k_438) d_St_kept_21 ?_
      have hq : r_St_kept N t k = -1 := Eq.trans (if_neg h1) (if_pos h2)
      exact bn_retl F hr hk h hq.symm rfl d_St_kept_24
    · have h2 : ¬ (nI (N.2.1 9 t) ≤ k) := h2
      refine lv_aload_n E1 E2 d_St_kept_12 rfl (lv_at hl 0 rfl) ?_
      refine g_St_inbox F h (by omega) k_206 d_St_kept_13 ?_
      refine lv_iload_n E1 E2 d_St_kept_16 rfl (lv_at hl 1 rfl) ?_
      have hwscount : N.2.1 9 t < 41 := wf_scount h.2.2.2 t
      have hn_k := bn_natle (n := (N.2.1 9 t)) h1 h2 (by omega)
      have hn_k2 := hn_k.2
      refine bn_ti hn_k.1 ?_
      refine al_inbox F h (by omega) (i := k.toNatClampNeg) (v := N.2.2.1 (t + 20) (k.toNatClampNeg)) (by omega) rfl d_St_kept_17 ?_
      refine lv_goto E1 E2 d_St_kept_18 rfl ?_
      have hq : r_St_kept N t k = N.2.2.1 (t + 20) (k.toNatClampNeg) := Eq.trans (if_neg h1) (if_neg h2)
      exact bn_retl F hr hk h hq.symm rfl d_St_kept_24
def o_Po_letOut (N : bn_S) (x : Nat) (f : Nat) : Int32 × bn_S := (if N.1 10 x = 2 then (if r_Po_carries N x (nI (N.2.1 12 f)) = 0 then (0, N) else (bn_oc (N.2.2.2 2 x) (bn_oc (N.2.2.2 3 x) (1, N) (fun y6 => (if (N.2.1 8 y6) = (N.2.1 12 f) then (1, (o_St_keep N y6 f)) else (1, N)))) (fun y4 => (1, (o_Li_putFrame N y4 f))))) else (0, N))
set_option maxHeartbeats 4000000 in
set_option maxRecDepth 100000 in
theorem c_Po_letOut (l : Launch) (D : va_G) (ar : Nat → ClassId) (ad : Nat → Nat → Nat) (nf : Nat) (N : bn_S) (x : Nat) (hx : x < 20) (f : Nat) (hf : f < nf) : bn_I l y_Po_letOut w_Po_letOut { frames := 2, cells := 0, slots := 0, locals := 45 } (bn_y D ar ad nf) N [.ref (ad 6 x), .ref (ad 13 f)] (o_Po_letOut N x f).1 (o_Po_letOut N x f).2 := by
  intro sz
  refine bn_start (cc := b_Po_letOut) (maxL := 2) (ret := (Option.some Jvm.ClassFile.FieldType.boolean)) (by decide) rfl (Nat.le_of_ble_eq_true rfl) ?_
  intro p e s m args below meth c ls hsz F hml hr hk hl h
  subst hsz
  have E1 := F.1
  have E2 := F.2.1
  have hl : lv_has ls 2 [(0, .ref (ad 6 x)), (1, .ref (ad 13 f))] := hl
  refine lv_aload_n E1 E2 d_Po_letOut_0 rfl (lv_at hl 0 rfl) ?_
  refine g_Po_state F h (by omega) k_157 (v := N.1 10 x) rfl d_Po_letOut_1 ?_
  refine lv_iconst (v := 2) E1 E2 d_Po_letOut_4 (by decide) ?_
  refine lv_icmp_ne E1 E2 d_Po_letOut_5 rfl (fun h1 => ?_) (fun h1 => ?_)
  · have h1 : ¬ (N.1 10 x = 2) := h1
    refine lv_iconst (v := 0) E1 E2 d_Po_letOut_19 (by decide) ?_
    have hq : o_Po_letOut N x f = (0, N) := if_neg h1
    exact bn_retz2 F hr rfl hk h hq d_Po_letOut_20
  · have h1 : N.1 10 x = 2 := h1
    refine lv_aload_n E1 E2 d_Po_letOut_8 rfl (lv_at hl 0 rfl) ?_
    refine lv_aload_n E1 E2 d_Po_letOut_9 rfl (lv_at hl 1 rfl) ?_
    refine g_Fr_vlan F h (by omega) k_600 (v := N.2.1 12 f) rfl d_Po_letOut_10 ?_
    refine bn_calli F h (bn_runV (n := 1) (As := [.int (nI (N.2.1 12 f))]) (rest := []) F hml hl.1 h (mm_6 (by omega)) rfl rfl (c_Po_carries l D ar ad nf N x (by omega) (nI (N.2.1 12 f)) _) (bn_goodV k_633 k_617 k_618 k_3 k_619) rfl rfl (by decide) ⟨by decide, by decide⟩ rfl rfl (Nat.le_of_ble_eq_true rfl) d_Po_letOut_13 ⟨Nat.zero_le _, Nat.zero_le _⟩) (fun H locs h => ?_)
    refine lv_if_ne E1 E2 d_Po_letOut_16 rfl (fun h2 => ?_) (fun h2 => ?_)
    · have h2 : ¬ (r_Po_carries N x (nI (N.2.1 12 f)) = 0) := h2
      refine lv_aload_n E1 E2 d_Po_letOut_21 rfl (lv_at hl 0 rfl) ?_
      refine g_Po_peer F h (by omega) k_143 d_Po_letOut_22 (fun ho3 => ?_) (fun y4 ho3 hy4 => ?_)
      · skip
        refine lv_ifnullN E1 E2 d_Po_letOut_25 rfl ?_
        refine lv_aload_n E1 E2 d_Po_letOut_42 rfl (lv_at hl 0 rfl) ?_
        refine g_Po_station F h (by omega) k_146 d_Po_letOut_43 (fun ho5 => ?_) (fun y6 ho5 hy6 => ?_)
        · skip
          refine lv_ifnullN E1 E2 d_Po_letOut_46 rfl ?_
          refine lv_iconst (v := 1) E1 E2 d_Po_letOut_71 (by decide) ?_
          have hq : o_Po_letOut N x f = (1, N) := Eq.trans (if_pos h1) (Eq.trans (if_neg h2) (Eq.trans (bn_oc_n ho3) (bn_oc_n ho5)))
          exact bn_retz2 F hr rfl hk h hq d_Po_letOut_72
        · skip
          refine lv_ifnull E1 E2 d_Po_letOut_46 ?_
          refine lv_aload_n E1 E2 d_Po_letOut_49 rfl (lv_at hl 0 rfl) ?_
          refine g_Po_station_s F h (by omega) k_146 ho5 d_Po_letOut_50 ?_
          refine g_St_vlan F h (by omega) k_205 (v := N.2.1 8 y6) rfl d_Po_letOut_53 ?_
          refine lv_aload_n E1 E2 d_Po_letOut_56 rfl (lv_at hl 1 rfl) ?_
          refine g_Fr_vlan F h (by omega) k_600 (v := N.2.1 12 f) rfl d_Po_letOut_57 ?_
          have hwsvlan : N.2.1 8 y6 < 3 := wf_svlan h.2.2.2 y6
          have hwsvlan0 : 1 ≤ N.2.1 8 y6 := wf_svlan_lo h.2.2.2 y6
          have hwfvlan : N.2.1 12 f < 3 := wf_fvlan h.2.2.2 f
          have hwfvlan0 : 1 ≤ N.2.1 12 f := wf_fvlan_lo h.2.2.2 f
          refine lv_icmp_ne E1 E2 d_Po_letOut_60 rfl (fun h7 => ?_) (fun h7 => ?_)
          · have h7 : ¬ ((N.2.1 8 y6) = (N.2.1 12 f)) := (fun hw => h7 ((nI_eq (a := N.2.1 8 y6) (b := N.2.1 12 f) (by omega) (by omega)).mpr hw))
            refine lv_iconst (v := 1) E1 E2 d_Po_letOut_71 (by decide) ?_
            have hq : o_Po_letOut N x f = (1, N) := Eq.trans (if_pos h1) (Eq.trans (if_neg h2) (Eq.trans (bn_oc_n ho3) (Eq.trans (bn_oc_s ho5) (if_neg h7))))
            exact bn_retz2 F hr rfl hk h hq d_Po_letOut_72
          · have h7 : (N.2.1 8 y6) = (N.2.1 12 f) := ((nI_eq (a := N.2.1 8 y6) (b := N.2.1 12 f) (by omega) (by omega)).mp h7)
            refine lv_aload_n E1 E2 d_Po_letOut_63 rfl (lv_at hl 0 rfl) ?_
            refine g_Po_station_s F h (by omega) k_146 ho5 d_Po_letOut_64 ?_
            refine lv_aload_n E1 E2 d_Po_letOut_67 rfl (lv_at hl 1 rfl) ?_
            refine bn_callv F h (bn_runV (n := 1) (As := [.ref (ad 13 f)]) (rest := []) F hml hl.1 h (mm_11 (by omega)) rfl rfl (c_St_keep l D ar ad nf N y6 (by omega) f (by omega) _) (bn_goodV k_638 k_639 k_640 k_6 k_641) rfl rfl (by decide) ⟨by decide, by decide⟩ rfl rfl (Nat.le_of_ble_eq_true rfl) d_Po_letOut_68 ⟨Nat.zero_le _, Nat.zero_le _⟩) (fun H locs h => ?_)
            have h : bn_H (bn_y D ar ad nf) s.heap H locs (o_St_keep N y6 f) := h
            refine lv_iconst (v := 1) E1 E2 d_Po_letOut_71 (by decide) ?_
            have hq : o_Po_letOut N x f = (1, (o_St_keep N y6 f)) := Eq.trans (if_pos h1) (Eq.trans (if_neg h2) (Eq.trans (bn_oc_n ho3) (Eq.trans (bn_oc_s ho5) (if_pos h7))))
            exact bn_retz2 F hr rfl hk h hq d_Po_letOut_72
      · skip
        refine lv_ifnull E1 E2 d_Po_letOut_25 ?_
        refine lv_aload_n E1 E2 d_Po_letOut_28 rfl (lv_at hl 0 rfl) ?_
        refine g_Po_peer_s F h (by omega) k_143 ho3 d_Po_letOut_29 ?_
        refine g_Po_line F h (by omega) k_135 d_Po_letOut_32 ?_
        refine lv_aload_n E1 E2 d_Po_letOut_35 rfl (lv_at hl 1 rfl) ?_
        refine bn_callv F h (bn_runV (n := 1) (As := [.ref (ad 13 f)]) (rest := []) F hml hl.1 h (mm_7 (by omega)) rfl rfl (c_Li_putFrame l D ar ad nf N y4 (by omega) f (by omega) _) (bn_goodV k_634 k_635 k_636 k_4 k_637) rfl rfl (by decide) ⟨by decide, by decide⟩ rfl rfl (Nat.le_of_ble_eq_true rfl) d_Po_letOut_36 ⟨Nat.zero_le _, Nat.zero_le _⟩) (fun H locs h => ?_)
        have h : bn_H (bn_y D ar ad nf) s.heap H locs (o_Li_putFrame N y4 f) := h
        refine lv_goto E1 E2 d_Po_letOut_39 rfl ?_
        refine lv_iconst (v := 1) E1 E2 d_Po_letOut_71 (by decide) ?_
        have hq : o_Po_letOut N x f = (1, (o_Li_putFrame N y4 f)) := Eq.trans (if_pos h1) (Eq.trans (if_neg h2) (bn_oc_s ho3))
        exact bn_retz2 F hr rfl hk h hq d_Po_letOut_72
    · have h2 : r_Po_carries N x (nI (N.2.1 12 f)) = 0 := h2
      refine lv_iconst (v := 0) E1 E2 d_Po_letOut_19 (by decide) ?_
      have hq : o_Po_letOut N x f = (0, N) := Eq.trans (if_pos h1) (if_pos h2)
      exact bn_retz2 F hr rfl hk h hq d_Po_letOut_20
end
section
/-! contracts of the class, written by wip/whole/gen_class.py -/
def r_Br_isUnused (N : bn_S) (b : Nat) : Int32 := (if r_Po_isFree N (4 * b + 0) = 0 then 0 else (if r_Po_isFree N (4 * b + 1) = 0 then 0 else (if r_Po_isFree N (4 * b + 2) = 0 then 0 else (if r_Po_isFree N (4 * b + 3) = 0 then 0 else 1))))
set_option maxHeartbeats 4000000 in
set_option maxRecDepth 100000 in
theorem c_Br_isUnused (l : Launch) (D : va_G) (ar : Nat → ClassId) (ad : Nat → Nat → Nat) (nf : Nat) (N : bn_S) (b : Nat) (hb : b < 5) : bn_I l y_Br_isUnused w_Br_isUnused { frames := 1, cells := 0, slots := 0, locals := 20 } (bn_y D ar ad nf) N [.ref (ad 2 b)] (r_Br_isUnused N b) N := by
  intro sz
  refine bn_start (cc := b_Br_isUnused) (maxL := 5) (ret := (Option.some Jvm.ClassFile.FieldType.boolean)) (by decide) rfl (Nat.le_of_ble_eq_true rfl) ?_
  intro p e s m args below meth c ls hsz F hml hr hk hl h
  subst hsz
  have E1 := F.1
  have E2 := F.2.1
  have hl : lv_has ls 5 [(0, .ref (ad 2 b))] := hl
  refine lv_aload_n E1 E2 d_Br_isUnused_0 rfl (lv_at hl 0 rfl) ?_
  refine g_Br_ports F h (by omega) k_38 d_Br_isUnused_1 ?_
  refine lv_astore_n E1 E2 d_Br_isUnused_4 rfl hl (by decide) rfl (fun ls hl => ?_)
  have hl : lv_has ls 5 [(1, .ref (ad 3 b)), (0, .ref (ad 2 b))] := hl
  refine lv_aload_n E1 E2 d_Br_isUnused_5 rfl (lv_at hl 0 rfl) ?_
  refine an_ports F h (by omega) d_Br_isUnused_6 ?_
  refine lv_istore_n E1 E2 d_Br_isUnused_7 rfl hl (by decide) rfl (fun ls hl => ?_)
  have hl : lv_has ls 5 [(2, .int (nI 4)), (1, .ref (ad 3 b)), (0, .ref (ad 2 b))] := hl
  refine lv_iconst (v := 0) E1 E2 d_Br_isUnused_8 (by decide) ?_
  refine lv_istore_n E1 E2 d_Br_isUnused_9 rfl hl (by decide) rfl (fun ls hl => ?_)
  have hl : lv_has ls 5 [(3, .int 0), (2, .int (nI 4)), (1, .ref (ad 3 b)), (0, .ref (ad 2 b))] := hl
  refine lv_iload_n E1 E2 d_Br_isUnused_10 rfl (lv_at hl 0 rfl) ?_
  refine lv_iload_n E1 E2 d_Br_isUnused_11 rfl (lv_at hl 1 rfl) ?_
  refine lv_icmp_ge E1 E2 d_Br_isUnused_12 rfl (fun hz => absurd ((nI_leI (a := 4) (b := 0) (by omega) (by omega)).mp hz) (by omega)) (fun _ => ?_)
  refine lv_aload_n E1 E2 d_Br_isUnused_15 rfl (lv_at hl 2 rfl) ?_
  refine lv_iload_n E1 E2 d_Br_isUnused_16 rfl (lv_at hl 0 rfl) ?_
  refine al_ports F h (by omega) (i := 0) (by omega) d_Br_isUnused_17 ?_
  refine lv_astore E1 E2 d_Br_isUnused_18 hl (by decide) rfl (fun ls hl => ?_)
  have hl : lv_has ls 5 [(4, .ref (ad 6 (4 * b + 0))), (3, .int 0), (2, .int (nI 4)), (1, .ref (ad 3 b)), (0, .ref (ad 2 b))] := hl
  refine lv_aload E1 E2 d_Br_isUnused_20 (lv_at hl 0 rfl) ?_
  refine bn_calli F h (bn_runV (n := 0) (As := []) (rest := []) F hml hl.1 h (mm_6 (by omega)) rfl rfl (c_Po_isFree l D ar ad nf N (4 * b + 0) (by omega) _) (bn_goodV k_240 k_241 k_242 k_3 k_243) rfl rfl (by decide) ⟨by decide, by decide⟩ rfl rfl (Nat.le_of_ble_eq_true rfl) d_Br_isUnused_22 ⟨Nat.zero_le _, Nat.zero_le _⟩) (fun H locs h => ?_)
  refine lv_if_ne E1 E2 d_Br_isUnused_25 rfl (fun h1 => ?_) (fun h1 => ?_)
  · have h1 : ¬ (r_Po_isFree N (4 * b + 0) = 0) := h1
    refine lv_iinc (v := 1) E1 E2 d_Br_isUnused_30 hl (k := 1) rfl rfl (by decide) rfl (fun ls hl => ?_)
    have hl : lv_has ls 5 [(3, .int 1), (4, .ref (ad 6 (4 * b + 0))), (2, .int (nI 4)), (1, .ref (ad 3 b)), (0, .ref (ad 2 b))] := hl
    refine lv_goto E1 E2 d_Br_isUnused_33 rfl ?_
    refine lv_iload_n E1 E2 d_Br_isUnused_10 rfl (lv_at hl 0 rfl) ?_
    refine lv_iload_n E1 E2 d_Br_isUnused_11 rfl (lv_at hl 2 rfl) ?_
    refine lv_icmp_ge E1 E2 d_Br_isUnused_12 rfl (fun hz => absurd ((nI_leI (a := 4) (b := 1) (by omega) (by omega)).mp hz) (by omega)) (fun _ => ?_)
    refine lv_aload_n E1 E2 d_Br_isUnused_15 rfl (lv_at hl 3 rfl) ?_
    refine lv_iload_n E1 E2 d_Br_isUnused_16 rfl (lv_at hl 0 rfl) ?_
    refine al_ports F h (by omega) (i := 1) (by omega) d_Br_isUnused_17 ?_
    refine lv_astore E1 E2 d_Br_isUnused_18 hl (by decide) rfl (fun ls hl => ?_)
    have hl : lv_has ls 5 [(4, .ref (ad 6 (4 * b + 1))), (3, .int 1), (2, .int (nI 4)), (1, .ref (ad 3 b)), (0, .ref (ad 2 b))] := hl
    refine lv_aload E1 E2 d_Br_isUnused_20 (lv_at hl 0 rfl) ?_
    refine bn_calli F h (bn_runV (n := 0) (As := []) (rest := []) F hml hl.1 h (mm_6 (by omega)) rfl rfl (c_Po_isFree l D ar ad nf N (4 * b + 1) (by omega) _) (bn_goodV k_240 k_241 k_242 k_3 k_243) rfl rfl (by decide) ⟨by decide, by decide⟩ rfl rfl (Nat.le_of_ble_eq_true rfl) d_Br_isUnused_22 ⟨Nat.zero_le _, Nat.zero_le _⟩) (fun H locs h => ?_)
    refine lv_if_ne E1 E2 d_Br_isUnused_25 rfl (fun h2 => ?_) (fun h2 => ?_)
    · have h2 : ¬ (r_Po_isFree N (4 * b + 1) = 0) := h2
      refine lv_iinc (v := 2) E1 E2 d_Br_isUnused_30 hl (k := 1) rfl rfl (by decide) rfl (fun ls hl => ?_)
      have hl : lv_has ls 5 [(3, .int 2), (4, .ref (ad 6 (4 * b + 1))), (2, .int (nI 4)), (1, .ref (ad 3 b)), (0, .ref (ad 2 b))] := hl
      refine lv_goto E1 E2 d_Br_isUnused_33 rfl ?_
      refine lv_iload_n E1 E2 d_Br_isUnused_10 rfl (lv_at hl 0 rfl) ?_
      refine lv_iload_n E1 E2 d_Br_isUnused_11 rfl (lv_at hl 2 rfl) ?_
      refine lv_icmp_ge E1 E2 d_Br_isUnused_12 rfl (fun hz => absurd ((nI_leI (a := 4) (b := 2) (by omega) (by omega)).mp hz) (by omega)) (fun _ => ?_)
      refine lv_aload_n E1 E2 d_Br_isUnused_15 rfl (lv_at hl 3 rfl) ?_
      refine lv_iload_n E1 E2 d_Br_isUnused_16 rfl (lv_at hl 0 rfl) ?_
      refine al_ports F h (by omega) (i := 2) (by omega) d_Br_isUnused_17 ?_
      refine lv_astore E1 E2 d_Br_isUnused_18 hl (by decide) rfl (fun ls hl => ?_)
      have hl : lv_has ls 5 [(4, .ref (ad 6 (4 * b + 2))), (3, .int 2), (2, .int (nI 4)), (1, .ref (ad 3 b)), (0, .ref (ad 2 b))] := hl
      refine lv_aload E1 E2 d_Br_isUnused_20 (lv_at hl 0 rfl) ?_
      refine bn_calli F h (bn_runV (n := 0) (As := []) (rest := []) F hml hl.1 h (mm_6 (by omega)) rfl rfl (c_Po_isFree l D ar ad nf N (4 * b + 2) (by omega) _) (bn_goodV k_240 k_241 k_242 k_3 k_243) rfl rfl (by decide) ⟨by decide, by decide⟩ rfl rfl (Nat.le_of_ble_eq_true rfl) d_Br_isUnused_22 ⟨Nat.zero_le _, Nat.zero_le _⟩) (fun H locs h => ?_)
      refine lv_if_ne E1 E2 d_Br_isUnused_25 rfl (fun h3 => ?_) (fun h3 => ?_)
      · have h3 : ¬ (r_Po_isFree N (4 * b + 2) = 0) := h3
        refine lv_iinc (v := 3) E1 E2 d_Br_isUnused_30 hl (k := 1) rfl rfl (by decide) rfl (fun ls hl => ?_)
        have hl : lv_has ls 5 [(3, .int 3), (4, .ref (ad 6 (4 * b + 2))), (2, .int (nI 4)), (1, .ref (ad 3 b)), (0, .ref (ad 2 b))] := hl
        refine lv_goto E1 E2 d_Br_isUnused_33 rfl ?_
        refine lv_iload_n E1 E2 d_Br_isUnused_10 rfl (lv_at hl 0 rfl) ?_
        refine lv_iload_n E1 E2 d_Br_isUnused_11 rfl (lv_at hl 2 rfl) ?_
        refine lv_icmp_ge E1 E2 d_Br_isUnused_12 rfl (fun hz => absurd ((nI_leI (a := 4) (b := 3) (by omega) (by omega)).mp hz) (by omega)) (fun _ => ?_)
        refine lv_aload_n E1 E2 d_Br_isUnused_15 rfl (lv_at hl 3 rfl) ?_
        refine lv_iload_n E1 E2 d_Br_isUnused_16 rfl (lv_at hl 0 rfl) ?_
        refine al_ports F h (by omega) (i := 3) (by omega) d_Br_isUnused_17 ?_
        refine lv_astore E1 E2 d_Br_isUnused_18 hl (by decide) rfl (fun ls hl => ?_)
        have hl : lv_has ls 5 [(4, .ref (ad 6 (4 * b + 3))), (3, .int 3), (2, .int (nI 4)), (1, .ref (ad 3 b)), (0, .ref (ad 2 b))] := hl
        refine lv_aload E1 E2 d_Br_isUnused_20 (lv_at hl 0 rfl) ?_
        refine bn_calli F h (bn_runV (n := 0) (As := []) (rest := []) F hml hl.1 h (mm_6 (by omega)) rfl rfl (c_Po_isFree l D ar ad nf N (4 * b + 3) (by omega) _) (bn_goodV k_240 k_241 k_242 k_3 k_243) rfl rfl (by decide) ⟨by decide, by decide⟩ rfl rfl (Nat.le_of_ble_eq_true rfl) d_Br_isUnused_22 ⟨Nat.zero_le _, Nat.zero_le _⟩) (fun H locs h => ?_)
        refine lv_if_ne E1 E2 d_Br_isUnused_25 rfl (fun h4 => ?_) (fun h4 => ?_)
        · have h4 : ¬ (r_Po_isFree N (4 * b + 3) = 0) := h4
          refine lv_iinc (v := 4) E1 E2 d_Br_isUnused_30 hl (k := 1) rfl rfl (by decide) rfl (fun ls hl => ?_)
          have hl : lv_has ls 5 [(3, .int 4), (4, .ref (ad 6 (4 * b + 3))), (2, .int (nI 4)), (1, .ref (ad 3 b)), (0, .ref (ad 2 b))] := hl
          refine lv_goto E1 E2 d_Br_isUnused_33 rfl ?_
          refine lv_iload_n E1 E2 d_Br_isUnused_10 rfl (lv_at hl 0 rfl) ?_
          refine lv_iload_n E1 E2 d_Br_isUnused_11 rfl (lv_at hl 2 rfl) ?_
          refine lv_icmp_ge E1 E2 d_Br_isUnused_12 rfl (fun _ => ?_) (fun hz => absurd ((nI_leI (a := 4) (b := 4) (by omega) (by omega)).mpr (by omega)) hz)
          refine lv_iconst (v := 1) E1 E2 d_Br_isUnused_36 (by decide) ?_
          have hq : r_Br_isUnused N b = 1 := Eq.trans (if_neg h1) (Eq.trans (if_neg h2) (Eq.trans (if_neg h3) (if_neg h4)))
          exact bn_retz F hr rfl hk h hq.symm rfl d_Br_isUnused_37
        · have h4 : r_Po_isFree N (4 * b + 3) = 0 := h4
          refine lv_iconst (v := 0) E1 E2 d_Br_isUnused_28 (by decide) ?_
          have hq : r_Br_isUnused N b = 0 := Eq.trans (if_neg h1) (Eq.trans (if_neg h2) (Eq.trans (if_neg h3) (if_pos h4)))
          exact bn_retz F hr rfl hk h hq.symm rfl d_Br_isUnused_29
      · have h3 : r_Po_isFree N (4 * b + 2) = 0 := h3
        refine lv_iconst (v := 0) E1 E2 d_Br_isUnused_28 (by decide) ?_
        have hq : r_Br_isUnused N b = 0 := Eq.trans (if_neg h1) (Eq.trans (if_neg h2) (if_pos h3))
        exact bn_retz F hr rfl hk h hq.symm rfl d_Br_isUnused_29
    · have h2 : r_Po_isFree N (4 * b + 1) = 0 := h2
      refine lv_iconst (v := 0) E1 E2 d_Br_isUnused_28 (by decide) ?_
      have hq : r_Br_isUnused N b = 0 := Eq.trans (if_neg h1) (if_pos h2)
      exact bn_retz F hr rfl hk h hq.symm rfl d_Br_isUnused_29
  · have h1 : r_Po_isFree N (4 * b + 0) = 0 := h1
    refine lv_iconst (v := 0) E1 E2 d_Br_isUnused_28 (by decide) ?_
    have hq : r_Br_isUnused N b = 0 := if_pos h1
    exact bn_retz F hr rfl hk h hq.symm rfl d_Br_isUnused_29
def o_Br_rank (N : bn_S) (b : Nat) (pr : Int32) : bn_S := (sI N 1 b ((8 * pr) + (nI b)))
set_option maxHeartbeats 4000000 in
set_option maxRecDepth 100000 in
theorem c_Br_rank (l : Launch) (D : va_G) (ar : Nat → ClassId) (ad : Nat → Nat → Nat) (nf : Nat) (N : bn_S) (b : Nat) (hb : b < 5) (pr : Int32) : bn_V l y_Br_rank w_Br_rank { frames := 0, cells := 0, slots := 0, locals := 0 } (bn_y D ar ad nf) N [.ref (ad 2 b), .int pr] (o_Br_rank N b pr) := by
  intro sz
  refine bn_start (cc := b_Br_rank) (maxL := 2) (ret := (Option.none : Option Jvm.ClassFile.FieldType)) (by decide) rfl (Nat.le_of_ble_eq_true rfl) ?_
  intro p e s m args below meth c ls hsz F hml hr hk hl h
  subst hsz
  have E1 := F.1
  have E2 := F.2.1
  have hl : lv_has ls 2 [(0, .ref (ad 2 b)), (1, .int pr)] := hl
  refine lv_aload_n E1 E2 d_Br_rank_0 rfl (lv_at hl 0 rfl) ?_
  refine lv_bipush (v := 8) E1 E2 d_Br_rank_1 (by decide) ?_
  refine lv_iload_n E1 E2 d_Br_rank_3 rfl (lv_at hl 1 rfl) ?_
  refine lv_imul E1 E2 d_Br_rank_4 ?_
  refine lv_aload_n E1 E2 d_Br_rank_5 rfl (lv_at hl 0 rfl) ?_
  refine g_Br_number F h (by omega) k_36 d_Br_rank_6 ?_
  refine lv_iadd E1 E2 d_Br_rank_9 ?_
  refine p_Br_id F h (by omega) k_37 d_Br_rank_10 (fun H locs h => ?_)
  have h : bn_H (bn_y D ar ad nf) s.heap H locs (sI N 1 b ((8 * pr) + (nI b))) := h
  have hq : o_Br_rank N b pr = (sI N 1 b ((8 * pr) + (nI b))) := rfl
  exact bn_retv F hr hk h hq.symm d_Br_rank_13
def r_Br_summary (N : bn_S) (b : Nat) : Int64 := ((Int32.toInt64 (N.1 2 b)) + ((Int32.toInt64 (N.1 3 b)) <<< (Int32.toInt64 8 &&& 63))) + ((Int32.toInt64 (N.1 4 b)) <<< (Int32.toInt64 24 &&& 63))
set_option maxHeartbeats 4000000 in
set_option maxRecDepth 100000 in
theorem c_Br_summary (l : Launch) (D : va_G) (ar : Nat → ClassId) (ad : Nat → Nat → Nat) (nf : Nat) (N : bn_S) (b : Nat) (hb : b < 5) : bn_L l y_Br_summary w_Br_summary { frames := 0, cells := 0, slots := 0, locals := 0 } (bn_y D ar ad nf) N [.ref (ad 2 b)] (r_Br_summary N b) N := by
  intro sz
  refine bn_start (cc := b_Br_summary) (maxL := 1) (ret := (Option.some Jvm.ClassFile.FieldType.long)) (by decide) rfl (Nat.le_of_ble_eq_true rfl) ?_
  intro p e s m args below meth c ls hsz F hml hr hk hl h
  subst hsz
  have E1 := F.1
  have E2 := F.2.1
  have hl : lv_has ls 1 [(0, .ref (ad 2 b))] := hl
  refine lv_aload_n E1 E2 d_Br_summary_0 rfl (lv_at hl 0 rfl) ?_
  refine g_Br_root F h (by omega) k_40 (v := N.1 2 b) rfl d_Br_summary_1 ?_
  refine lv_i2l (v := Int32.toInt64 (N.1 2 b)) E1 E2 d_Br_summary_4 rfl ?_
  refine lv_aload_n E1 E2 d_Br_summary_5 rfl (lv_at hl 0 rfl) ?_
  refine g_Br_cost F h (by omega) k_41 (v := N.1 3 b) rfl d_Br_summary_6 ?_
  refine lv_i2l (v := Int32.toInt64 (N.1 3 b)) E1 E2 d_Br_summary_9 rfl ?_
  refine lv_bipush (v := 8) E1 E2 d_Br_summary_10 (by decide) ?_
  refine lv_lshl (v := (Int32.toInt64 (N.1 3 b)) <<< (Int32.toInt64 8 &&& 63)) E1 E2 d_Br_summary_12 rfl ?_
  refine lv_ladd E1 E2 d_Br_summary_13 ?_
  refine lv_aload_n E1 E2 d_Br_summary_14 rfl (lv_at hl 0 rfl) ?_
  refine g_Br_hops F h (by omega) k_42 (v := N.1 4 b) rfl d_Br_summary_15 ?_
  refine lv_i2l (v := Int32.toInt64 (N.1 4 b)) E1 E2 d_Br_summary_18 rfl ?_
  refine lv_bipush (v := 24) E1 E2 d_Br_summary_19 (by decide) ?_
  refine lv_lshl (v := (Int32.toInt64 (N.1 4 b)) <<< (Int32.toInt64 24 &&& 63)) E1 E2 d_Br_summary_21 rfl ?_
  refine lv_ladd E1 E2 d_Br_summary_22 ?_
  have hq : r_Br_summary N b = ((Int32.toInt64 (N.1 2 b)) + ((Int32.toInt64 (N.1 3 b)) <<< (Int32.toInt64 8 &&& 63))) + ((Int32.toInt64 (N.1 4 b)) <<< (Int32.toInt64 24 &&& 63)) := rfl
  exact bn_retl F hr hk h hq.symm rfl d_Br_summary_23
def r_Br_ownVector (N : bn_S) (b : Nat) (x : Nat) : Int64 := r_Ve_of N (N.1 2 b) (N.1 3 b) (N.1 1 b) (nI (x % 4))
set_option maxHeartbeats 4000000 in
set_option maxRecDepth 100000 in
theorem c_Br_ownVector (l : Launch) (D : va_G) (ar : Nat → ClassId) (ad : Nat → Nat → Nat) (nf : Nat) (N : bn_S) (b : Nat) (hb : b < 5) (x : Nat) (hx : x < 20) : bn_L l y_Br_ownVector w_Br_ownVector { frames := 1, cells := 0, slots := 0, locals := 23 } (bn_y D ar ad nf) N [.ref (ad 2 b), .ref (ad 6 x)] (r_Br_ownVector N b x) N := by
  intro sz
  refine bn_start (cc := b_Br_ownVector) (maxL := 2) (ret := (Option.some Jvm.ClassFile.FieldType.long)) (by decide) rfl (Nat.le_of_ble_eq_true rfl) ?_
  intro p e s m args below meth c ls hsz F hml hr hk hl h
  subst hsz
  have E1 := F.1
  have E2 := F.2.1
  have hl : lv_has ls 2 [(0, .ref (ad 2 b)), (1, .ref (ad 6 x))] := hl
  refine lv_aload_n E1 E2 d_Br_ownVector_0 rfl (lv_at hl 0 rfl) ?_
  refine g_Br_root F h (by omega) k_40 (v := N.1 2 b) rfl d_Br_ownVector_1 ?_
  refine lv_aload_n E1 E2 d_Br_ownVector_4 rfl (lv_at hl 0 rfl) ?_
  refine g_Br_cost F h (by omega) k_41 (v := N.1 3 b) rfl d_Br_ownVector_5 ?_
  refine lv_aload_n E1 E2 d_Br_ownVector_8 rfl (lv_at hl 0 rfl) ?_
  refine g_Br_id F h (by omega) k_37 (v := N.1 1 b) rfl d_Br_ownVector_9 ?_
  refine lv_aload_n E1 E2 d_Br_ownVector_12 rfl (lv_at hl 1 rfl) ?_
  refine g_Po_number F h (by omega) k_134 d_Br_ownVector_13 ?_
  refine bn_calll F h (bn_runS (n := 4) (As := [.int (N.1 2 b), .int (N.1 3 b), .int (N.1 1 b), .int (nI (x % 4))]) (rest := []) F hml hl.1 h (c_Ve_of l D ar ad nf N (N.1 2 b) (N.1 3 b) (N.1 1 b) (nI (x % 4)) _) (bn_goodS k_256 k_257 k_8 k_258) rfl rfl (by decide) ⟨by decide, by decide⟩ rfl rfl (Nat.le_of_ble_eq_true rfl) d_Br_ownVector_16 ⟨Nat.zero_le _, Nat.zero_le _⟩) (fun H locs h => ?_)
  have hq : r_Br_ownVector N b x = r_Ve_of N (N.1 2 b) (N.1 3 b) (N.1 1 b) (nI (x % 4)) := rfl
  exact bn_retl F hr hk h hq.symm rfl d_Br_ownVector_19
def r_Br_dueRole (N : bn_S) (b : Nat) (x : Nat) : Int32 := (if r_Po_isFree N x = 0 then (bn_oc (N.2.2.2 3 x) (bn_oc (N.2.2.2 1 b) (if (N.2.1 2 x) = 0 then 2 else (if (N.2.2.1 1 x) ≤ (r_Br_ownVector N b x) then 3 else 2)) (fun y5 => (if x = y5 then 1 else (if (N.2.1 2 x) = 0 then 2 else (if (N.2.2.1 1 x) ≤ (r_Br_ownVector N b x) then 3 else 2))))) (fun y3 => 2)) else 0)
set_option maxHeartbeats 4000000 in
set_option maxRecDepth 100000 in
theorem c_Br_dueRole (l : Launch) (D : va_G) (ar : Nat → ClassId) (ad : Nat → Nat → Nat) (nf : Nat) (N : bn_S) (b : Nat) (hb : b < 5) (x : Nat) (hx : x < 20) : bn_I l y_Br_dueRole w_Br_dueRole { frames := 2, cells := 0, slots := 0, locals := 44 } (bn_y D ar ad nf) N [.ref (ad 2 b), .ref (ad 6 x)] (r_Br_dueRole N b x) N := by
  intro sz
  refine bn_start (cc := b_Br_dueRole) (maxL := 2) (ret := (Option.some Jvm.ClassFile.FieldType.int)) (by decide) rfl (Nat.le_of_ble_eq_true rfl) ?_
  intro p e s m args below meth c ls hsz F hml hr hk hl h
  subst hsz
  have E1 := F.1
  have E2 := F.2.1
  have hl : lv_has ls 2 [(0, .ref (ad 2 b)), (1, .ref (ad 6 x))] := hl
  refine lv_aload_n E1 E2 d_Br_dueRole_0 rfl (lv_at hl 1 rfl) ?_
  refine bn_calli F h (bn_runV (n := 0) (As := []) (rest := []) F hml hl.1 h (mm_6 (by omega)) rfl rfl (c_Po_isFree l D ar ad nf N x (by omega) _) (bn_goodV k_240 k_241 k_242 k_3 k_243) rfl rfl (by decide) ⟨by decide, by decide⟩ rfl rfl (Nat.le_of_ble_eq_true rfl) d_Br_dueRole_1 ⟨Nat.zero_le _, Nat.zero_le _⟩) (fun H locs h => ?_)
  refine lv_if_eq E1 E2 d_Br_dueRole_4 rfl (fun h1 => ?_) (fun h1 => ?_)
  · have h1 : r_Po_isFree N x = 0 := h1
    refine lv_aload_n E1 E2 d_Br_dueRole_9 rfl (lv_at hl 1 rfl) ?_
    refine g_Po_station F h (by omega) k_147 d_Br_dueRole_10 (fun ho2 => ?_) (fun y3 ho2 hy3 => ?_)
    · skip
      refine lv_ifnullN E1 E2 d_Br_dueRole_13 rfl ?_
      refine lv_aload_n E1 E2 d_Br_dueRole_18 rfl (lv_at hl 1 rfl) ?_
      refine lv_aload_n E1 E2 d_Br_dueRole_19 rfl (lv_at hl 0 rfl) ?_
      refine g_Br_rootPort F h (by omega) k_43 d_Br_dueRole_20 (fun ho4 => ?_) (fun y5 ho4 hy5 => ?_)
      · skip
        refine lv_acmp_ne (rx := (some (ad 6 x))) (ry := none) E1 E2 d_Br_dueRole_23 rfl (fun _ => ?_) (fun hz => absurd hz (by simp))
        refine lv_aload_n E1 E2 d_Br_dueRole_28 rfl (lv_at hl 1 rfl) ?_
        refine g_Po_hasInfo F h (by omega) k_149 (v := N.2.1 2 x) rfl d_Br_dueRole_29 ?_
        have hwhasInfo : N.2.1 2 x < 2 := wf_hasInfo h.2.2.2 x
        refine lv_if_eq E1 E2 d_Br_dueRole_32 rfl (fun h6 => ?_) (fun h6 => ?_)
        · have h6 : (N.2.1 2 x) = 0 := ((nI_eq (a := N.2.1 2 x) (b := 0) (by omega) (by omega)).mp h6)
          refine lv_iconst (v := 2) E1 E2 d_Br_dueRole_48 (by decide) ?_
          refine lv_goto E1 E2 d_Br_dueRole_49 rfl ?_
          have hq : r_Br_dueRole N b x = 2 := Eq.trans (if_pos h1) (Eq.trans (bn_oc_n ho2) (Eq.trans (bn_oc_n ho4) (if_pos h6)))
          exact bn_reti F hr hk h hq.symm rfl d_Br_dueRole_53
        · have h6 : ¬ ((N.2.1 2 x) = 0) := (fun hw => h6 ((nI_eq (a := N.2.1 2 x) (b := 0) (by omega) (by omega)).mpr hw))
          refine lv_aload_n E1 E2 d_Br_dueRole_35 rfl (lv_at hl 0 rfl) ?_
          refine lv_aload_n E1 E2 d_Br_dueRole_36 rfl (lv_at hl 1 rfl) ?_
          refine bn_calll F h (bn_runV (n := 1) (As := [.ref (ad 6 x)]) (rest := []) F hml hl.1 h (mm_2 (by omega)) rfl rfl (c_Br_ownVector l D ar ad nf N b (by omega) x (by omega) _) (bn_goodV k_284 k_286 ks_Br_ownVector k_2 k_287) rfl rfl (by decide) ⟨by decide, by decide⟩ rfl rfl (Nat.le_of_ble_eq_true rfl) d_Br_dueRole_37 ⟨Nat.zero_le _, Nat.zero_le _⟩) (fun H locs h => ?_)
          refine lv_aload_n E1 E2 d_Br_dueRole_40 rfl (lv_at hl 1 rfl) ?_
          refine g_Po_info F h (by omega) k_152 (v := N.2.2.1 1 x) rfl d_Br_dueRole_41 ?_
          refine W.lcmp E1 E2 d_Br_dueRole_44 ?_
          refine lv_if_ge E1 E2 d_Br_dueRole_45 rfl (fun h7 => ?_) (fun h7 => ?_)
          · have h7 : (N.2.2.1 1 x) ≤ (r_Br_ownVector N b x) := ((lg_cmp_ge _ _).mp h7)
            refine lv_iconst (v := 3) E1 E2 d_Br_dueRole_52 (by decide) ?_
            have hq : r_Br_dueRole N b x = 3 := Eq.trans (if_pos h1) (Eq.trans (bn_oc_n ho2) (Eq.trans (bn_oc_n ho4) (Eq.trans (if_neg h6) (if_pos h7))))
            exact bn_reti F hr hk h hq.symm rfl d_Br_dueRole_53
          · have h7 : ¬ ((N.2.2.1 1 x) ≤ (r_Br_ownVector N b x)) := (fun hw => h7 ((lg_cmp_ge _ _).mpr hw))
            refine lv_iconst (v := 2) E1 E2 d_Br_dueRole_48 (by decide) ?_
            refine lv_goto E1 E2 d_Br_dueRole_49 rfl ?_
            have hq : r_Br_dueRole N b x = 2 := Eq.trans (if_pos h1) (Eq.trans (bn_oc_n ho2) (Eq.trans (bn_oc_n ho4) (Eq.trans (if_neg h6) (if_neg h7))))
            exact bn_reti F hr hk h hq.symm rfl d_Br_dueRole_53
      · skip
        refine lv_acmp_ne (rx := (some (ad 6 x))) (ry := (some (ad 6 y5))) E1 E2 d_Br_dueRole_23 rfl (fun h8 => ?_) (fun h8 => ?_)
        · have h8 : ¬ (x = y5) := (fun hw => h8 ((bn_inj h (mm_6 (by omega)) (mm_6 (by omega))).mpr hw))
          refine lv_aload_n E1 E2 d_Br_dueRole_28 rfl (lv_at hl 1 rfl) ?_
          refine g_Po_hasInfo F h (by omega) k_149 (v := N.2.1 2 x) rfl d_Br_dueRole_29 ?_
          have hwhasInfo : N.2.1 2 x < 2 := wf_hasInfo h.2.2.2 x
          refine lv_if_eq E1 E2 d_Br_dueRole_32 rfl (fun h9 => ?_) (fun h9 => ?_)
          · have h9 : (N.2.1 2 x) = 0 := ((nI_eq (a := N.2.1 2 x) (b := 0) (by omega) (by omega)).mp h9)
            refine lv_iconst (v := 2) E1 E2 d_Br_dueRole_48 (by decide) ?_
            refine lv_goto E1 E2 d_Br_dueRole_49 rfl ?_
            have hq : r_Br_dueRole N b x = 2 := Eq.trans (if_pos h1) (Eq.trans (bn_oc_n ho2) (Eq.trans (bn_oc_s ho4) (Eq.trans (if_neg h8) (if_pos h9))))
            exact bn_reti F hr hk h hq.symm rfl d_Br_dueRole_53
          · have h9 : ¬ ((N.2.1 2 x) = 0) := (fun hw => h9 ((nI_eq (a := N.2.1 2 x) (b := 0) (by omega) (by omega)).mpr hw))
            refine lv_aload_n E1 E2 d_Br_dueRole_35 rfl (lv_at hl 0 rfl) ?_
            refine lv_aload_n E1 E2 d_Br_dueRole_36 rfl (lv_at hl 1 rfl) ?_
            refine bn_calll F h (bn_runV (n := 1) (As := [.ref (ad 6 x)]) (rest := []) F hml hl.1 h (mm_2 (by omega)) rfl rfl (c_Br_ownVector l D ar ad nf N b (by omega) x (by omega) _) (bn_goodV k_284 k_286 ks_Br_ownVector k_2 k_287) rfl rfl (by decide) ⟨by decide, by decide⟩ rfl rfl (Nat.le_of_ble_eq_true rfl) d_Br_dueRole_37 ⟨Nat.zero_le _, Nat.zero_le _⟩) (fun H locs h => ?_)
            refine lv_aload_n E1 E2 d_Br_dueRole_40 rfl (lv_at hl 1 rfl) ?_
            refine g_Po_info F h (by omega) k_152 (v := N.2.2.1 1 x) rfl d_Br_dueRole_41 ?_
            refine W.lcmp E1 E2 d_Br_dueRole_44 ?_
            refine lv_if_ge E1 E2 d_Br_dueRole_45 rfl (fun h10 => ?_) (fun h10 => ?_)
            · have h10 : (N.2.2.1 1 x) ≤ (r_Br_ownVector N b x) := ((lg_cmp_ge _ _).mp h10)
              refine lv_iconst (v := 3) E1 E2 d_Br_dueRole_52 (by decide) ?_
              have hq : r_Br_dueRole N b x = 3 := Eq.trans (if_pos h1) (Eq.trans (bn_oc_n ho2) (Eq.trans (bn_oc_s ho4) (Eq.trans (if_neg h8) (Eq.trans (if_neg h9) (if_pos h10)))))
              exact bn_reti F hr hk h hq.symm rfl d_Br_dueRole_53
            · have h10 : ¬ ((N.2.2.1 1 x) ≤ (r_Br_ownVector N b x)) := (fun hw => h10 ((lg_cmp_ge _ _).mpr hw))
              refine lv_iconst (v := 2) E1 E2 d_Br_dueRole_48 (by decide) ?_
              refine lv_goto E1 E2 d_Br_dueRole_49 rfl ?_
              have hq : r_Br_dueRole N b x = 2 := Eq.trans (if_pos h1) (Eq.trans (bn_oc_n ho2) (Eq.trans (bn_oc_s ho4) (Eq.trans (if_neg h8) (Eq.trans (if_neg h9) (if_neg h10)))))
              exact bn_reti F hr hk h hq.symm rfl d_Br_dueRole_53
        · have h8 : x = y5 := ((bn_inj h (mm_6 (by omega)) (mm_6 (by omega))).mp h8)
          refine lv_iconst (v := 1) E1 E2 d_Br_dueRole_26 (by decide) ?_
          have hq : r_Br_dueRole N b x = 1 := Eq.trans (if_pos h1) (Eq.trans (bn_oc_n ho2) (Eq.trans (bn_oc_s ho4) (if_pos h8)))
          exact bn_reti F hr hk h hq.symm rfl d_Br_dueRole_27
    · skip
      refine lv_ifnull E1 E2 d_Br_dueRole_13 ?_
      refine lv_iconst (v := 2) E1 E2 d_Br_dueRole_16 (by decide) ?_
      have hq : r_Br_dueRole N b x = 2 := Eq.trans (if_pos h1) (bn_oc_s ho2)
      exact bn_reti F hr hk h hq.symm rfl d_Br_dueRole_17
  · have h1 : ¬ (r_Po_isFree N x = 0) := h1
    refine lv_iconst (v := 0) E1 E2 d_Br_dueRole_7 (by decide) ?_
    have hq : r_Br_dueRole N b x = 0 := if_neg h1
    exact bn_reti F hr hk h hq.symm rfl d_Br_dueRole_8
def bd_Br_chooseRoot (b : Nat) (k : Nat) (q : Int64 × bn_S) : Int64 × bn_S := (if ((q.2).2.1 2 (4 * b + k)) = 0 then (q.1, q.2) else (if r_Ve_bridgeOf (q.2) ((q.2).2.2.1 1 (4 * b + k)) = (q.2).1 1 b then (q.1, q.2) else (if (q.1) ≤ (r_Ve_farther (q.2) ((q.2).2.2.1 1 (4 * b + k)) ((q.2).1 5 (4 * b + k))) then (q.1, q.2) else (r_Ve_farther (q.2) ((q.2).2.2.1 1 (4 * b + k)) ((q.2).1 5 (4 * b + k)), (sO (sI (q.2) 4 b (r_Po_hopsThrough (q.2) (4 * b + k))) 1 b (some (4 * b + k)))))))
def it_Br_chooseRoot (b : Nat) (q0 : Int64 × bn_S) : Nat → Int64 × bn_S
  | 0 => q0
  | k + 1 => bd_Br_chooseRoot b k (it_Br_chooseRoot b q0 k)
theorem it_Br_chooseRoot_s (b : Nat) (q0 : Int64 × bn_S) (k : Nat) : bd_Br_chooseRoot b k (it_Br_chooseRoot b q0 k) = it_Br_chooseRoot b q0 (k + 1) := rfl
def o_Br_chooseRoot (N : bn_S) (b : Nat) : bn_S := (sI (sI ((it_Br_chooseRoot b (r_Ve_of N (N.1 1 b) 0 (N.1 1 b) 0, (sO (sI N 4 b 0) 1 b none)) 4).2) 2 b (r_Ve_rootOf ((it_Br_chooseRoot b (r_Ve_of N (N.1 1 b) 0 (N.1 1 b) 0, (sO (sI N 4 b 0) 1 b none)) 4).2) ((it_Br_chooseRoot b (r_Ve_of N (N.1 1 b) 0 (N.1 1 b) 0, (sO (sI N 4 b 0) 1 b none)) 4).1))) 3 b (r_Ve_costOf (sI ((it_Br_chooseRoot b (r_Ve_of N (N.1 1 b) 0 (N.1 1 b) 0, (sO (sI N 4 b 0) 1 b none)) 4).2) 2 b (r_Ve_rootOf ((it_Br_chooseRoot b (r_Ve_of N (N.1 1 b) 0 (N.1 1 b) 0, (sO (sI N 4 b 0) 1 b none)) 4).2) ((it_Br_chooseRoot b (r_Ve_of N (N.1 1 b) 0 (N.1 1 b) 0, (sO (sI N 4 b 0) 1 b none)) 4).1))) ((it_Br_chooseRoot b (r_Ve_of N (N.1 1 b) 0 (N.1 1 b) 0, (sO (sI N 4 b 0) 1 b none)) 4).1)))
set_option maxHeartbeats 4000000 in
set_option maxRecDepth 100000 in
theorem c_Br_chooseRoot (l : Launch) (D : va_G) (ar : Nat → ClassId) (ad : Nat → Nat → Nat) (nf : Nat) (N : bn_S) (b : Nat) (hb : b < 5) : bn_V l y_Br_chooseRoot w_Br_chooseRoot { frames := 1, cells := 0, slots := 0, locals := 23 } (bn_y D ar ad nf) N [.ref (ad 2 b)] (o_Br_chooseRoot N b) := by
  intro sz
  refine bn_start (cc := b_Br_chooseRoot) (maxL := 9) (ret := (Option.none : Option Jvm.ClassFile.FieldType)) (by decide) rfl (Nat.le_of_ble_eq_true rfl) ?_
  intro p e s m args below meth c ls hsz F hml hr hk hl h
  subst hsz
  have E1 := F.1
  have E2 := F.2.1
  have hl : lv_has ls 9 [(0, .ref (ad 2 b))] := hl
  refine lv_aload_n E1 E2 d_Br_chooseRoot_0 rfl (lv_at hl 0 rfl) ?_
  refine g_Br_id F h (by omega) k_37 (v := N.1 1 b) rfl d_Br_chooseRoot_1 ?_
  refine lv_iconst (v := 0) E1 E2 d_Br_chooseRoot_4 (by decide) ?_
  refine lv_aload_n E1 E2 d_Br_chooseRoot_5 rfl (lv_at hl 0 rfl) ?_
  refine g_Br_id F h (by omega) k_37 (v := N.1 1 b) rfl d_Br_chooseRoot_6 ?_
  refine lv_iconst (v := 0) E1 E2 d_Br_chooseRoot_9 (by decide) ?_
  refine bn_calll F h (bn_runS (n := 4) (As := [.int (N.1 1 b), .int 0, .int (N.1 1 b), .int 0]) (rest := []) F hml hl.1 h (c_Ve_of l D ar ad nf N (N.1 1 b) 0 (N.1 1 b) 0 _) (bn_goodS k_256 k_257 k_8 k_258) rfl rfl (by decide) ⟨by decide, by decide⟩ rfl rfl (Nat.le_of_ble_eq_true rfl) d_Br_chooseRoot_10 ⟨Nat.zero_le _, Nat.zero_le _⟩) (fun H locs h => ?_)
  refine lv_lstore_n E1 E2 d_Br_chooseRoot_13 rfl hl (by decide) rfl (fun ls hl => ?_)
  have hl : lv_has ls 9 [(1, .long (r_Ve_of N (N.1 1 b) 0 (N.1 1 b) 0)), (0, .ref (ad 2 b))] := hl
  refine lv_aload_n E1 E2 d_Br_chooseRoot_14 rfl (lv_at hl 1 rfl) ?_
  refine lv_iconst (v := 0) E1 E2 d_Br_chooseRoot_15 (by decide) ?_
  refine p_Br_hops F h (by omega) k_42 d_Br_chooseRoot_16 (fun H locs h => ?_)
  have h : bn_H (bn_y D ar ad nf) s.heap H locs (sI N 4 b 0) := h
  refine lv_aload_n E1 E2 d_Br_chooseRoot_19 rfl (lv_at hl 1 rfl) ?_
  refine lv_null E1 E2 d_Br_chooseRoot_20 ?_
  refine p_Br_rootPort F h (by omega) k_43 (none) (fun _ hz => by cases hz) d_Br_chooseRoot_21 (fun H locs h => ?_)
  have h : bn_H (bn_y D ar ad nf) s.heap H locs (sO (sI N 4 b 0) 1 b none) := h
  refine lv_aload_n E1 E2 d_Br_chooseRoot_24 rfl (lv_at hl 1 rfl) ?_
  refine g_Br_ports F h (by omega) k_38 d_Br_chooseRoot_25 ?_
  refine lv_astore_n E1 E2 d_Br_chooseRoot_28 rfl hl (by decide) rfl (fun ls hl => ?_)
  have hl : lv_has ls 9 [(3, .ref (ad 3 b)), (1, .long (r_Ve_of N (N.1 1 b) 0 (N.1 1 b) 0)), (0, .ref (ad 2 b))] := hl
  refine lv_aload_n E1 E2 d_Br_chooseRoot_29 rfl (lv_at hl 0 rfl) ?_
  refine an_ports F h (by omega) d_Br_chooseRoot_30 ?_
  refine lv_istore E1 E2 d_Br_chooseRoot_31 hl (by decide) rfl (fun ls hl => ?_)
  have hl : lv_has ls 9 [(4, .int (nI 4)), (3, .ref (ad 3 b)), (1, .long (r_Ve_of N (N.1 1 b) 0 (N.1 1 b) 0)), (0, .ref (ad 2 b))] := hl
  refine lv_iconst (v := 0) E1 E2 d_Br_chooseRoot_33 (by decide) ?_
  refine lv_istore E1 E2 d_Br_chooseRoot_34 hl (by decide) rfl (fun ls hl => ?_)
  have hl : lv_has ls 9 [(5, .int 0), (4, .int (nI 4)), (3, .ref (ad 3 b)), (1, .long (r_Ve_of N (N.1 1 b) 0 (N.1 1 b) 0)), (0, .ref (ad 2 b))] := hl
  have hs36 : ∀ (Q0 : State → Prop) (k : Nat), k < 4 → ∀ (q : Int64 × bn_S) (H : Heap) (locs : List Loc) (ls : Array Slot), lv_has ls 9 [(0, .ref (ad 2 b)), (1, .long (q.1)), (3, .ref (ad 3 b)), (4, .int (nI 4)), (5, .int (nI k))] → bn_H (bn_y D ar ad nf) s.heap H locs q.2 → (∀ (H : Heap) (locs : List Loc) (ls : Array Slot), lv_has ls 9 [(0, .ref (ad 2 b)), (1, .long ((bd_Br_chooseRoot b k q).1)), (3, .ref (ad 3 b)), (4, .int (nI 4)), (5, .int (nI (k + 1)))] → bn_H (bn_y D ar ad nf) s.heap H locs (bd_Br_chooseRoot b k q).2 → W p l e { frames := 1, cells := 0, slots := 0, locals := 23 } s m args below meth c H locs 0 0 Q0 (F0 m 36 ls [])) → W p l e { frames := 1, cells := 0, slots := 0, locals := 23 } s m args below meth c H locs 0 0 Q0 (F0 m 36 ls []) := by
    intro Q0 k hkk q H locs ls hl h kk
    refine lv_iload E1 E2 d_Br_chooseRoot_36 (lv_at hl 4 rfl) ?_
    refine lv_iload E1 E2 d_Br_chooseRoot_38 (lv_at hl 3 rfl) ?_
    refine lv_icmp_ge E1 E2 d_Br_chooseRoot_40 rfl (fun hz => absurd ((nI_leI (a := 4) (b := k) (by omega) (by omega)).mp hz) (by omega)) (fun _ => ?_)
    refine lv_aload_n E1 E2 d_Br_chooseRoot_43 rfl (lv_at hl 2 rfl) ?_
    refine lv_iload E1 E2 d_Br_chooseRoot_44 (lv_at hl 4 rfl) ?_
    refine al_ports F h (by omega) (i := k) (by omega) d_Br_chooseRoot_46 ?_
    refine lv_astore E1 E2 d_Br_chooseRoot_47 hl (by decide) rfl (fun ls hl => ?_)
    have hl : lv_has ls 9 [(6, .ref (ad 6 (4 * b + k))), (0, .ref (ad 2 b)), (1, .long (q.1)), (3, .ref (ad 3 b)), (4, .int (nI 4)), (5, .int (nI k))] := hl
    refine lv_aload E1 E2 d_Br_chooseRoot_49 (lv_at hl 0 rfl) ?_
    refine g_Po_hasInfo F h (by omega) k_149 (v := (q.2).2.1 2 (4 * b + k)) rfl d_Br_chooseRoot_51 ?_
    have hwhasInfo : (q.2).2.1 2 (4 * b + k) < 2 := wf_hasInfo h.2.2.2 (4 * b + k)
    refine lv_if_eq E1 E2 d_Br_chooseRoot_54 rfl (fun h1 => ?_) (fun h1 => ?_)
    · have h1 : ((q.2).2.1 2 (4 * b + k)) = 0 := ((nI_eq (a := (q.2).2.1 2 (4 * b + k)) (b := 0) (by omega) (by omega)).mp h1)
      refine lv_iinc (v := (nI (k + 1))) E1 E2 d_Br_chooseRoot_115 hl (k := 5) rfl (nI_1 _) (by decide) rfl (fun ls hl => ?_)
      have hl : lv_has ls 9 [(5, .int (nI (k + 1))), (6, .ref (ad 6 (4 * b + k))), (0, .ref (ad 2 b)), (1, .long (q.1)), (3, .ref (ad 3 b)), (4, .int (nI 4))] := hl
      refine lv_goto E1 E2 d_Br_chooseRoot_118 rfl ?_
      have hq : (bd_Br_chooseRoot b k q) = (q.1, q.2) := if_pos h1
      rw [hq] at kk
      exact kk H locs ls (lv_sub hl [2, 3, 4, 5, 0] rfl) h
    · have h1 : ¬ (((q.2).2.1 2 (4 * b + k)) = 0) := (fun hw => h1 ((nI_eq (a := (q.2).2.1 2 (4 * b + k)) (b := 0) (by omega) (by omega)).mpr hw))
      refine lv_aload E1 E2 d_Br_chooseRoot_57 (lv_at hl 0 rfl) ?_
      refine g_Po_info F h (by omega) k_152 (v := (q.2).2.2.1 1 (4 * b + k)) rfl d_Br_chooseRoot_59 ?_
      refine bn_calli F h (bn_runS (n := 1) (As := [.long ((q.2).2.2.1 1 (4 * b + k))]) (rest := []) F hml hl.1 h (c_Ve_bridgeOf l D ar ad nf (q.2) ((q.2).2.2.1 1 (4 * b + k)) _) (bn_goodS k_259 k_260 k_8 k_261) rfl rfl (by decide) ⟨by decide, by decide⟩ rfl rfl (Nat.le_of_ble_eq_true rfl) d_Br_chooseRoot_62 ⟨Nat.zero_le _, Nat.zero_le _⟩) (fun H locs h => ?_)
      refine lv_aload_n E1 E2 d_Br_chooseRoot_65 rfl (lv_at hl 1 rfl) ?_
      refine g_Br_id F h (by omega) k_37 (v := (q.2).1 1 b) rfl d_Br_chooseRoot_66 ?_
      refine lv_icmp_ne E1 E2 d_Br_chooseRoot_69 rfl (fun h2 => ?_) (fun h2 => ?_)
      · have h2 : ¬ (r_Ve_bridgeOf (q.2) ((q.2).2.2.1 1 (4 * b + k)) = (q.2).1 1 b) := h2
        refine lv_aload E1 E2 d_Br_chooseRoot_75 (lv_at hl 0 rfl) ?_
        refine g_Po_info F h (by omega) k_152 (v := (q.2).2.2.1 1 (4 * b + k)) rfl d_Br_chooseRoot_77 ?_
        refine lv_aload E1 E2 d_Br_chooseRoot_80 (lv_at hl 0 rfl) ?_
        refine g_Po_cost F h (by omega) k_140 (v := (q.2).1 5 (4 * b + k)) rfl d_Br_chooseRoot_82 ?_
        refine bn_calll F h (bn_runS (n := 2) (As := [.long ((q.2).2.2.1 1 (4 * b + k)), .int ((q.2).1 5 (4 * b + k))]) (rest := []) F hml hl.1 h (c_Ve_farther l D ar ad nf (q.2) ((q.2).2.2.1 1 (4 * b + k)) ((q.2).1 5 (4 * b + k)) _) (bn_goodS k_262 k_263 k_8 k_264) rfl rfl (by decide) ⟨by decide, by decide⟩ rfl rfl (Nat.le_of_ble_eq_true rfl) d_Br_chooseRoot_85 ⟨Nat.zero_le _, Nat.zero_le _⟩) (fun H locs h => ?_)
        refine lv_lstore E1 E2 d_Br_chooseRoot_88 hl (by decide) rfl (fun ls hl => ?_)
        have hl : lv_has ls 9 [(7, .long (r_Ve_farther (q.2) ((q.2).2.2.1 1 (4 * b + k)) ((q.2).1 5 (4 * b + k)))), (6, .ref (ad 6 (4 * b + k))), (0, .ref (ad 2 b)), (1, .long (q.1)), (3, .ref (ad 3 b)), (4, .int (nI 4)), (5, .int (nI k))] := hl
        refine lv_lload E1 E2 d_Br_chooseRoot_90 (lv_at hl 0 rfl) ?_
        refine lv_lload_n E1 E2 d_Br_chooseRoot_92 rfl (lv_at hl 3 rfl) ?_
        refine W.lcmp E1 E2 d_Br_chooseRoot_93 ?_
        refine lv_if_ge E1 E2 d_Br_chooseRoot_94 rfl (fun h3 => ?_) (fun h3 => ?_)
        · have h3 : (q.1) ≤ (r_Ve_farther (q.2) ((q.2).2.2.1 1 (4 * b + k)) ((q.2).1 5 (4 * b + k))) := ((lg_cmp_ge _ _).mp h3)
          refine lv_iinc (v := (nI (k + 1))) E1 E2 d_Br_chooseRoot_115 hl (k := 6) rfl (nI_1 _) (by decide) rfl (fun ls hl => ?_)
          have hl : lv_has ls 9 [(5, .int (nI (k + 1))), (7, .long (r_Ve_farther (q.2) ((q.2).2.2.1 1 (4 * b + k)) ((q.2).1 5 (4 * b + k)))), (6, .ref (ad 6 (4 * b + k))), (0, .ref (ad 2 b)), (1, .long (q.1)), (3, .ref (ad 3 b)), (4, .int (nI 4))] := hl
          refine lv_goto E1 E2 d_Br_chooseRoot_118 rfl ?_
          have hq : (bd_Br_chooseRoot b k q) = (q.1, q.2) := Eq.trans (if_neg h1) (Eq.trans (if_neg h2) (if_pos h3))
          rw [hq] at kk
          exact kk H locs ls (lv_sub hl [3, 4, 5, 6, 0] rfl) h
        · have h3 : ¬ ((q.1) ≤ (r_Ve_farther (q.2) ((q.2).2.2.1 1 (4 * b + k)) ((q.2).1 5 (4 * b + k)))) := (fun hw => h3 ((lg_cmp_ge _ _).mpr hw))
          refine lv_lload E1 E2 d_Br_chooseRoot_97 (lv_at hl 0 rfl) ?_
          refine lv_lstore_n E1 E2 d_Br_chooseRoot_99 rfl hl (by decide) rfl (fun ls hl => ?_)
          have hl : lv_has ls 9 [(1, .long (r_Ve_farther (q.2) ((q.2).2.2.1 1 (4 * b + k)) ((q.2).1 5 (4 * b + k)))), (7, .long (r_Ve_farther (q.2) ((q.2).2.2.1 1 (4 * b + k)) ((q.2).1 5 (4 * b + k)))), (6, .ref (ad 6 (4 * b + k))), (0, .ref (ad 2 b)), (3, .ref (ad 3 b)), (4, .int (nI 4)), (5, .int (nI k))] := hl
          refine lv_aload_n E1 E2 d_Br_chooseRoot_100 rfl (lv_at hl 3 rfl) ?_
          refine lv_aload E1 E2 d_Br_chooseRoot_101 (lv_at hl 2 rfl) ?_
          refine bn_calli F h (bn_runV (n := 0) (As := []) (rest := [.ref (ad 2 b)]) F hml hl.1 h (mm_6 (by omega)) rfl rfl (c_Po_hopsThrough l D ar ad nf (q.2) (4 * b + k) (by omega) _) (bn_goodV k_265 k_266 k_267 k_3 k_268) rfl rfl (by decide) ⟨by decide, by decide⟩ rfl rfl (Nat.le_of_ble_eq_true rfl) d_Br_chooseRoot_103 ⟨Nat.zero_le _, Nat.zero_le _⟩) (fun H locs h => ?_)
          refine p_Br_hops F h (by omega) k_42 d_Br_chooseRoot_106 (fun H locs h => ?_)
          have h : bn_H (bn_y D ar ad nf) s.heap H locs (sI (q.2) 4 b (r_Po_hopsThrough (q.2) (4 * b + k))) := h
          refine lv_aload_n E1 E2 d_Br_chooseRoot_109 rfl (lv_at hl 3 rfl) ?_
          refine lv_aload E1 E2 d_Br_chooseRoot_110 (lv_at hl 2 rfl) ?_
          refine p_Br_rootPort F h (by omega) k_43 (some (4 * b + k)) (fun _ hz => by cases hz; omega) d_Br_chooseRoot_112 (fun H locs h => ?_)
          have h : bn_H (bn_y D ar ad nf) s.heap H locs (sO (sI (q.2) 4 b (r_Po_hopsThrough (q.2) (4 * b + k))) 1 b (some (4 * b + k))) := h
          refine lv_iinc (v := (nI (k + 1))) E1 E2 d_Br_chooseRoot_115 hl (k := 6) rfl (nI_1 _) (by decide) rfl (fun ls hl => ?_)
          have hl : lv_has ls 9 [(5, .int (nI (k + 1))), (1, .long (r_Ve_farther (q.2) ((q.2).2.2.1 1 (4 * b + k)) ((q.2).1 5 (4 * b + k)))), (7, .long (r_Ve_farther (q.2) ((q.2).2.2.1 1 (4 * b + k)) ((q.2).1 5 (4 * b + k)))), (6, .ref (ad 6 (4 * b + k))), (0, .ref (ad 2 b)), (3, .ref (ad 3 b)), (4, .int (nI 4))] := hl
          refine lv_goto E1 E2 d_Br_chooseRoot_118 rfl ?_
          have hq : (bd_Br_chooseRoot b k q) = (r_Ve_farther (q.2) ((q.2).2.2.1 1 (4 * b + k)) ((q.2).1 5 (4 * b + k)), (sO (sI (q.2) 4 b (r_Po_hopsThrough (q.2) (4 * b + k))) 1 b (some (4 * b + k)))) := Eq.trans (if_neg h1) (Eq.trans (if_neg h2) (if_neg h3))
          rw [hq] at kk
          exact kk H locs ls (lv_sub hl [4, 1, 5, 6, 0] rfl) h
      · have h2 : r_Ve_bridgeOf (q.2) ((q.2).2.2.1 1 (4 * b + k)) = (q.2).1 1 b := h2
        refine lv_goto E1 E2 d_Br_chooseRoot_72 rfl ?_
        refine lv_iinc (v := (nI (k + 1))) E1 E2 d_Br_chooseRoot_115 hl (k := 5) rfl (nI_1 _) (by decide) rfl (fun ls hl => ?_)
        have hl : lv_has ls 9 [(5, .int (nI (k + 1))), (6, .ref (ad 6 (4 * b + k))), (0, .ref (ad 2 b)), (1, .long (q.1)), (3, .ref (ad 3 b)), (4, .int (nI 4))] := hl
        refine lv_goto E1 E2 d_Br_chooseRoot_118 rfl ?_
        have hq : (bd_Br_chooseRoot b k q) = (q.1, q.2) := Eq.trans (if_neg h1) (if_pos h2)
        rw [hq] at kk
        exact kk H locs ls (lv_sub hl [2, 3, 4, 5, 0] rfl) h
  refine hs36 _ 0 (by decide) (it_Br_chooseRoot b (r_Ve_of N (N.1 1 b) 0 (N.1 1 b) 0, (sO (sI N 4 b 0) 1 b none)) 0) _ _ ls (lv_sub hl [4, 3, 2, 1, 0] rfl) h (fun H locs ls hl h => ?_)
  rw [it_Br_chooseRoot_s] at hl h
  refine hs36 _ 1 (by decide) (it_Br_chooseRoot b (r_Ve_of N (N.1 1 b) 0 (N.1 1 b) 0, (sO (sI N 4 b 0) 1 b none)) 1) _ _ ls hl h (fun H locs ls hl h => ?_)
  rw [it_Br_chooseRoot_s] at hl h
  refine hs36 _ 2 (by decide) (it_Br_chooseRoot b (r_Ve_of N (N.1 1 b) 0 (N.1 1 b) 0, (sO (sI N 4 b 0) 1 b none)) 2) _ _ ls hl h (fun H locs ls hl h => ?_)
  rw [it_Br_chooseRoot_s] at hl h
  refine hs36 _ 3 (by decide) (it_Br_chooseRoot b (r_Ve_of N (N.1 1 b) 0 (N.1 1 b) 0, (sO (sI N 4 b 0) 1 b none)) 3) _ _ ls hl h (fun H locs ls hl h => ?_)
  rw [it_Br_chooseRoot_s] at hl h
  have hl : lv_has ls 9 [(0, .ref (ad 2 b)), (1, .long ((it_Br_chooseRoot b (r_Ve_of N (N.1 1 b) 0 (N.1 1 b) 0, (sO (sI N 4 b 0) 1 b none)) 4).1)), (3, .ref (ad 3 b)), (4, .int (nI 4)), (5, .int (nI 4))] := hl
  have h : bn_H (bn_y D ar ad nf) s.heap H locs (it_Br_chooseRoot b (r_Ve_of N (N.1 1 b) 0 (N.1 1 b) 0, (sO (sI N 4 b 0) 1 b none)) 4).2 := h
  refine lv_iload E1 E2 d_Br_chooseRoot_36 (lv_at hl 4 rfl) ?_
  refine lv_iload E1 E2 d_Br_chooseRoot_38 (lv_at hl 3 rfl) ?_
  refine lv_icmp_ge E1 E2 d_Br_chooseRoot_40 rfl (fun _ => ?_) (fun hz => absurd ((nI_leI (a := 4) (b := 4) (by omega) (by omega)).mpr (by omega)) hz)
  refine lv_aload_n E1 E2 d_Br_chooseRoot_121 rfl (lv_at hl 0 rfl) ?_
  refine lv_lload_n E1 E2 d_Br_chooseRoot_122 rfl (lv_at hl 1 rfl) ?_
  refine bn_calli F h (bn_runS (n := 1) (As := [.long ((it_Br_chooseRoot b (r_Ve_of N (N.1 1 b) 0 (N.1 1 b) 0, (sO (sI N 4 b 0) 1 b none)) 4).1)]) (rest := [.ref (ad 2 b)]) F hml hl.1 h (c_Ve_rootOf l D ar ad nf ((it_Br_chooseRoot b (r_Ve_of N (N.1 1 b) 0 (N.1 1 b) 0, (sO (sI N 4 b 0) 1 b none)) 4).2) ((it_Br_chooseRoot b (r_Ve_of N (N.1 1 b) 0 (N.1 1 b) 0, (sO (sI N 4 b 0) 1 b none)) 4).1) _) (bn_goodS k_269 k_270 k_8 k_271) rfl rfl (by decide) ⟨by decide, by decide⟩ rfl rfl (Nat.le_of_ble_eq_true rfl) d_Br_chooseRoot_123 ⟨Nat.zero_le _, Nat.zero_le _⟩) (fun H locs h => ?_)
  refine p_Br_root F h (by omega) k_40 d_Br_chooseRoot_126 (fun H locs h => ?_)
  have h : bn_H (bn_y D ar ad nf) s.heap H locs (sI ((it_Br_chooseRoot b (r_Ve_of N (N.1 1 b) 0 (N.1 1 b) 0, (sO (sI N 4 b 0) 1 b none)) 4).2) 2 b (r_Ve_rootOf ((it_Br_chooseRoot b (r_Ve_of N (N.1 1 b) 0 (N.1 1 b) 0, (sO (sI N 4 b 0) 1 b none)) 4).2) ((it_Br_chooseRoot b (r_Ve_of N (N.1 1 b) 0 (N.1 1 b) 0, (sO (sI N 4 b 0) 1 b none)) 4).1))) := h
  refine lv_aload_n E1 E2 d_Br_chooseRoot_129 rfl (lv_at hl 0 rfl) ?_
  refine lv_lload_n E1 E2 d_Br_chooseRoot_130 rfl (lv_at hl 1 rfl) ?_
  refine bn_calli F h (bn_runS (n := 1) (As := [.long ((it_Br_chooseRoot b (r_Ve_of N (N.1 1 b) 0 (N.1 1 b) 0, (sO (sI N 4 b 0) 1 b none)) 4).1)]) (rest := [.ref (ad 2 b)]) F hml hl.1 h (c_Ve_costOf l D ar ad nf (sI ((it_Br_chooseRoot b (r_Ve_of N (N.1 1 b) 0 (N.1 1 b) 0, (sO (sI N 4 b 0) 1 b none)) 4).2) 2 b (r_Ve_rootOf ((it_Br_chooseRoot b (r_Ve_of N (N.1 1 b) 0 (N.1 1 b) 0, (sO (sI N 4 b 0) 1 b none)) 4).2) ((it_Br_chooseRoot b (r_Ve_of N (N.1 1 b) 0 (N.1 1 b) 0, (sO (sI N 4 b 0) 1 b none)) 4).1))) ((it_Br_chooseRoot b (r_Ve_of N (N.1 1 b) 0 (N.1 1 b) 0, (sO (sI N 4 b 0) 1 b none)) 4).1) _) (bn_goodS k_272 k_273 k_8 k_274) rfl rfl (by decide) ⟨by decide, by decide⟩ rfl rfl (Nat.le_of_ble_eq_true rfl) d_Br_chooseRoot_131 ⟨Nat.zero_le _, Nat.zero_le _⟩) (fun H locs h => ?_)
  refine p_Br_cost F h (by omega) k_41 d_Br_chooseRoot_134 (fun H locs h => ?_)
  have h : bn_H (bn_y D ar ad nf) s.heap H locs (sI (sI ((it_Br_chooseRoot b (r_Ve_of N (N.1 1 b) 0 (N.1 1 b) 0, (sO (sI N 4 b 0) 1 b none)) 4).2) 2 b (r_Ve_rootOf ((it_Br_chooseRoot b (r_Ve_of N (N.1 1 b) 0 (N.1 1 b) 0, (sO (sI N 4 b 0) 1 b none)) 4).2) ((it_Br_chooseRoot b (r_Ve_of N (N.1 1 b) 0 (N.1 1 b) 0, (sO (sI N 4 b 0) 1 b none)) 4).1))) 3 b (r_Ve_costOf (sI ((it_Br_chooseRoot b (r_Ve_of N (N.1 1 b) 0 (N.1 1 b) 0, (sO (sI N 4 b 0) 1 b none)) 4).2) 2 b (r_Ve_rootOf ((it_Br_chooseRoot b (r_Ve_of N (N.1 1 b) 0 (N.1 1 b) 0, (sO (sI N 4 b 0) 1 b none)) 4).2) ((it_Br_chooseRoot b (r_Ve_of N (N.1 1 b) 0 (N.1 1 b) 0, (sO (sI N 4 b 0) 1 b none)) 4).1))) ((it_Br_chooseRoot b (r_Ve_of N (N.1 1 b) 0 (N.1 1 b) 0, (sO (sI N 4 b 0) 1 b none)) 4).1))) := h
  have hq : o_Br_chooseRoot N b = (sI (sI ((it_Br_chooseRoot b (r_Ve_of N (N.1 1 b) 0 (N.1 1 b) 0, (sO (sI N 4 b 0) 1 b none)) 4).2) 2 b (r_Ve_rootOf ((it_Br_chooseRoot b (r_Ve_of N (N.1 1 b) 0 (N.1 1 b) 0, (sO (sI N 4 b 0) 1 b none)) 4).2) ((it_Br_chooseRoot b (r_Ve_of N (N.1 1 b) 0 (N.1 1 b) 0, (sO (sI N 4 b 0) 1 b none)) 4).1))) 3 b (r_Ve_costOf (sI ((it_Br_chooseRoot b (r_Ve_of N (N.1 1 b) 0 (N.1 1 b) 0, (sO (sI N 4 b 0) 1 b none)) 4).2) 2 b (r_Ve_rootOf ((it_Br_chooseRoot b (r_Ve_of N (N.1 1 b) 0 (N.1 1 b) 0, (sO (sI N 4 b 0) 1 b none)) 4).2) ((it_Br_chooseRoot b (r_Ve_of N (N.1 1 b) 0 (N.1 1 b) 0, (sO (sI N 4 b 0) 1 b none)) 4).1))) ((it_Br_chooseRoot b (r_Ve_of N (N.1 1 b) 0 (N.1 1 b) 0, (sO (sI N 4 b 0) 1 b none)) 4).1))) := rfl
  exact bn_retv F hr hk h hq.symm d_Br_chooseRoot_137
end
section
/-! contracts of the class, written by wip/whole/gen_class.py -/
def bd_Br_giveRoles (b : Nat) (k : Nat) (q : Nat × bn_S) : Nat × bn_S := (if r_Br_dueRole (q.2) b (4 * b + k) = (q.2).1 9 (4 * b + k) then (q.1, q.2) else (1, (o_Po_become (q.2) (4 * b + k) (r_Br_dueRole (q.2) b (4 * b + k)))))
def it_Br_giveRoles (b : Nat) (q0 : Nat × bn_S) : Nat → Nat × bn_S
  | 0 => q0
  | k + 1 => bd_Br_giveRoles b k (it_Br_giveRoles b q0 k)
theorem it_Br_giveRoles_s (b : Nat) (q0 : Nat × bn_S) (k : Nat) : bd_Br_giveRoles b k (it_Br_giveRoles b q0 k) = it_Br_giveRoles b q0 (k + 1) := rfl
def o_Br_giveRoles (N : bn_S) (b : Nat) : Int32 × bn_S := (nI ((it_Br_giveRoles b (0, N) 4).1), (it_Br_giveRoles b (0, N) 4).2)
set_option maxHeartbeats 4000000 in
set_option maxRecDepth 100000 in
theorem c_Br_giveRoles (l : Launch) (D : va_G) (ar : Nat → ClassId) (ad : Nat → Nat → Nat) (nf : Nat) (N : bn_S) (b : Nat) (hb : b < 5) : bn_I l y_Br_giveRoles w_Br_giveRoles { frames := 3, cells := 0, slots := 0, locals := 65 } (bn_y D ar ad nf) N [.ref (ad 2 b)] (o_Br_giveRoles N b).1 (o_Br_giveRoles N b).2 := by
  intro sz
  refine bn_start (cc := b_Br_giveRoles) (maxL := 7) (ret := (Option.some Jvm.ClassFile.FieldType.boolean)) (by decide) rfl (Nat.le_of_ble_eq_true rfl) ?_
  intro p e s m args below meth c ls hsz F hml hr hk hl h
  subst hsz
  have E1 := F.1
  have E2 := F.2.1
  have hl : lv_has ls 7 [(0, .ref (ad 2 b))] := hl
  refine lv_iconst (v := 0) E1 E2 d_Br_giveRoles_0 (by decide) ?_
  refine lv_istore_n E1 E2 d_Br_giveRoles_1 rfl hl (by decide) rfl (fun ls hl => ?_)
  have hl : lv_has ls 7 [(1, .int 0), (0, .ref (ad 2 b))] := hl
  refine lv_aload_n E1 E2 d_Br_giveRoles_2 rfl (lv_at hl 1 rfl) ?_
  refine g_Br_ports F h (by omega) k_38 d_Br_giveRoles_3 ?_
  refine lv_astore_n E1 E2 d_Br_giveRoles_6 rfl hl (by decide) rfl (fun ls hl => ?_)
  have hl : lv_has ls 7 [(2, .ref (ad 3 b)), (1, .int 0), (0, .ref (ad 2 b))] := hl
  refine lv_aload_n E1 E2 d_Br_giveRoles_7 rfl (lv_at hl 0 rfl) ?_
  refine an_ports F h (by omega) d_Br_giveRoles_8 ?_
  refine lv_istore_n E1 E2 d_Br_giveRoles_9 rfl hl (by decide) rfl (fun ls hl => ?_)
  have hl : lv_has ls 7 [(3, .int (nI 4)), (2, .ref (ad 3 b)), (1, .int 0), (0, .ref (ad 2 b))] := hl
  refine lv_iconst (v := 0) E1 E2 d_Br_giveRoles_10 (by decide) ?_
  refine lv_istore E1 E2 d_Br_giveRoles_11 hl (by decide) rfl (fun ls hl => ?_)
  have hl : lv_has ls 7 [(4, .int 0), (3, .int (nI 4)), (2, .ref (ad 3 b)), (1, .int 0), (0, .ref (ad 2 b))] := hl
  have hs13 : ∀ (Q0 : State → Prop) (k : Nat), k < 4 → ∀ (q : Nat × bn_S) (H : Heap) (locs : List Loc) (ls : Array Slot), lv_has ls 7 [(0, .ref (ad 2 b)), (1, .int (nI (q.1))), (2, .ref (ad 3 b)), (3, .int (nI 4)), (4, .int (nI k))] → bn_H (bn_y D ar ad nf) s.heap H locs q.2 → q.1 < 2 → (∀ (H : Heap) (locs : List Loc) (ls : Array Slot), lv_has ls 7 [(0, .ref (ad 2 b)), (1, .int (nI ((bd_Br_giveRoles b k q).1))), (2, .ref (ad 3 b)), (3, .int (nI 4)), (4, .int (nI (k + 1)))] → bn_H (bn_y D ar ad nf) s.heap H locs (bd_Br_giveRoles b k q).2 → (bd_Br_giveRoles b k q).1 < 2 → W p l e { frames := 3, cells := 0, slots := 0, locals := 65 } s m args below meth c H locs 0 0 Q0 (F0 m 13 ls [])) → W p l e { frames := 3, cells := 0, slots := 0, locals := 65 } s m args below meth c H locs 0 0 Q0 (F0 m 13 ls []) := by
    intro Q0 k hkk q H locs ls hl h hqb kk
    refine lv_iload E1 E2 d_Br_giveRoles_13 (lv_at hl 4 rfl) ?_
    refine lv_iload_n E1 E2 d_Br_giveRoles_15 rfl (lv_at hl 3 rfl) ?_
    refine lv_icmp_ge E1 E2 d_Br_giveRoles_16 rfl (fun hz => absurd ((nI_leI (a := 4) (b := k) (by omega) (by omega)).mp hz) (by omega)) (fun _ => ?_)
    refine lv_aload_n E1 E2 d_Br_giveRoles_19 rfl (lv_at hl 2 rfl) ?_
    refine lv_iload E1 E2 d_Br_giveRoles_20 (lv_at hl 4 rfl) ?_
    refine al_ports F h (by omega) (i := k) (by omega) d_Br_giveRoles_22 ?_
    refine lv_astore E1 E2 d_Br_giveRoles_23 hl (by decide) rfl (fun ls hl => ?_)
    have hl : lv_has ls 7 [(5, .ref (ad 6 (4 * b + k))), (0, .ref (ad 2 b)), (1, .int (nI (q.1))), (2, .ref (ad 3 b)), (3, .int (nI 4)), (4, .int (nI k))] := hl
    refine lv_aload_n E1 E2 d_Br_giveRoles_25 rfl (lv_at hl 1 rfl) ?_
    refine lv_aload E1 E2 d_Br_giveRoles_26 (lv_at hl 0 rfl) ?_
    refine bn_calli F h (bn_runV (n := 1) (As := [.ref (ad 6 (4 * b + k))]) (rest := []) F hml hl.1 h (mm_2 (by omega)) rfl rfl (c_Br_dueRole l D ar ad nf (q.2) b (by omega) (4 * b + k) (by omega) _) (bn_goodV k_280 k_282 ks_Br_dueRole k_2 k_283) rfl rfl (by decide) ⟨by decide, by decide⟩ rfl rfl (Nat.le_of_ble_eq_true rfl) d_Br_giveRoles_28 ⟨Nat.zero_le _, Nat.zero_le _⟩) (fun H locs h => ?_)
    refine lv_istore E1 E2 d_Br_giveRoles_31 hl (by decide) rfl (fun ls hl => ?_)
    have hl : lv_has ls 7 [(6, .int (r_Br_dueRole (q.2) b (4 * b + k))), (5, .ref (ad 6 (4 * b + k))), (0, .ref (ad 2 b)), (1, .int (nI (q.1))), (2, .ref (ad 3 b)), (3, .int (nI 4)), (4, .int (nI k))] := hl
    refine lv_iload E1 E2 d_Br_giveRoles_33 (lv_at hl 0 rfl) ?_
    refine lv_aload E1 E2 d_Br_giveRoles_35 (lv_at hl 1 rfl) ?_
    refine g_Po_role F h (by omega) k_156 (v := (q.2).1 9 (4 * b + k)) rfl d_Br_giveRoles_37 ?_
    refine lv_icmp_eq E1 E2 d_Br_giveRoles_40 rfl (fun h1 => ?_) (fun h1 => ?_)
    · have h1 : r_Br_dueRole (q.2) b (4 * b + k) = (q.2).1 9 (4 * b + k) := h1
      refine lv_iinc (v := (nI (k + 1))) E1 E2 d_Br_giveRoles_52 hl (k := 6) rfl (nI_1 _) (by decide) rfl (fun ls hl => ?_)
      have hl : lv_has ls 7 [(4, .int (nI (k + 1))), (6, .int (r_Br_dueRole (q.2) b (4 * b + k))), (5, .ref (ad 6 (4 * b + k))), (0, .ref (ad 2 b)), (1, .int (nI (q.1))), (2, .ref (ad 3 b)), (3, .int (nI 4))] := hl
      refine lv_goto E1 E2 d_Br_giveRoles_55 rfl ?_
      have hq : (bd_Br_giveRoles b k q) = (q.1, q.2) := if_pos h1
      rw [hq] at kk
      exact kk H locs ls (lv_sub hl [3, 4, 5, 6, 0] rfl) h hqb
    · have h1 : ¬ (r_Br_dueRole (q.2) b (4 * b + k) = (q.2).1 9 (4 * b + k)) := h1
      refine lv_aload E1 E2 d_Br_giveRoles_43 (lv_at hl 1 rfl) ?_
      refine lv_iload E1 E2 d_Br_giveRoles_45 (lv_at hl 0 rfl) ?_
      refine bn_callv F h (bn_runV (n := 1) (As := [.int (r_Br_dueRole (q.2) b (4 * b + k))]) (rest := []) F hml hl.1 h (mm_6 (by omega)) rfl rfl (c_Po_become l D ar ad nf (q.2) (4 * b + k) (by omega) (r_Br_dueRole (q.2) b (4 * b + k)) _) (bn_goodV k_288 k_289 k_290 k_3 k_291) rfl rfl (by decide) ⟨by decide, by decide⟩ rfl rfl (Nat.le_of_ble_eq_true rfl) d_Br_giveRoles_47 ⟨Nat.zero_le _, Nat.zero_le _⟩) (fun H locs h => ?_)
      have h : bn_H (bn_y D ar ad nf) s.heap H locs (o_Po_become (q.2) (4 * b + k) (r_Br_dueRole (q.2) b (4 * b + k))) := h
      refine lv_iconst (v := 1) E1 E2 d_Br_giveRoles_50 (by decide) ?_
      refine lv_istore_n E1 E2 d_Br_giveRoles_51 rfl hl (by decide) rfl (fun ls hl => ?_)
      have hl : lv_has ls 7 [(1, .int 1), (6, .int (r_Br_dueRole (q.2) b (4 * b + k))), (5, .ref (ad 6 (4 * b + k))), (0, .ref (ad 2 b)), (2, .ref (ad 3 b)), (3, .int (nI 4)), (4, .int (nI k))] := hl
      refine lv_iinc (v := (nI (k + 1))) E1 E2 d_Br_giveRoles_52 hl (k := 6) rfl (nI_1 _) (by decide) rfl (fun ls hl => ?_)
      have hl : lv_has ls 7 [(4, .int (nI (k + 1))), (1, .int 1), (6, .int (r_Br_dueRole (q.2) b (4 * b + k))), (5, .ref (ad 6 (4 * b + k))), (0, .ref (ad 2 b)), (2, .ref (ad 3 b)), (3, .int (nI 4))] := hl
      refine lv_goto E1 E2 d_Br_giveRoles_55 rfl ?_
      have hq : (bd_Br_giveRoles b k q) = (1, (o_Po_become (q.2) (4 * b + k) (r_Br_dueRole (q.2) b (4 * b + k)))) := if_neg h1
      rw [hq] at kk
      exact kk H locs ls (lv_sub hl [4, 1, 5, 6, 0] rfl) h (show 1 < 2 by decide)
  refine hs13 _ 0 (by decide) (it_Br_giveRoles b (0, N) 0) _ _ ls (lv_sub hl [4, 3, 2, 1, 0] rfl) h (show 0 < 2 by decide) (fun H locs ls hl h hqb => ?_)
  rw [it_Br_giveRoles_s] at hl h hqb
  refine hs13 _ 1 (by decide) (it_Br_giveRoles b (0, N) 1) _ _ ls hl h hqb (fun H locs ls hl h hqb => ?_)
  rw [it_Br_giveRoles_s] at hl h hqb
  refine hs13 _ 2 (by decide) (it_Br_giveRoles b (0, N) 2) _ _ ls hl h hqb (fun H locs ls hl h hqb => ?_)
  rw [it_Br_giveRoles_s] at hl h hqb
  refine hs13 _ 3 (by decide) (it_Br_giveRoles b (0, N) 3) _ _ ls hl h hqb (fun H locs ls hl h hqb => ?_)
  rw [it_Br_giveRoles_s] at hl h hqb
  have hl : lv_has ls 7 [(0, .ref (ad 2 b)), (1, .int (nI ((it_Br_giveRoles b (0, N) 4).1))), (2, .ref (ad 3 b)), (3, .int (nI 4)), (4, .int (nI 4))] := hl
  have h : bn_H (bn_y D ar ad nf) s.heap H locs (it_Br_giveRoles b (0, N) 4).2 := h
  have hqb : (it_Br_giveRoles b (0, N) 4).1 < 2 := hqb
  refine lv_iload E1 E2 d_Br_giveRoles_13 (lv_at hl 4 rfl) ?_
  refine lv_iload_n E1 E2 d_Br_giveRoles_15 rfl (lv_at hl 3 rfl) ?_
  refine lv_icmp_ge E1 E2 d_Br_giveRoles_16 rfl (fun _ => ?_) (fun hz => absurd ((nI_leI (a := 4) (b := 4) (by omega) (by omega)).mpr (by omega)) hz)
  refine lv_iload_n E1 E2 d_Br_giveRoles_58 rfl (lv_at hl 1 rfl) ?_
  have hq : o_Br_giveRoles N b = (nI ((it_Br_giveRoles b (0, N) 4).1), (it_Br_giveRoles b (0, N) 4).2) := rfl
  exact bn_retz2 F hr (bn_nz hqb) hk h hq d_Br_giveRoles_59
end
section
/-! contracts of the class, written by wip/whole/gen_class.py -/
def o_Br_tellOn (N : bn_S) (b : Nat) (x : Nat) : bn_S := (bn_oc (N.2.2.2 2 x) N (fun y2 => (o_Li_putTell N y2 (r_Br_ownVector N b x) (N.1 4 b) (N.2.1 3 x))))
set_option maxHeartbeats 4000000 in
set_option maxRecDepth 100000 in
theorem c_Br_tellOn (l : Launch) (D : va_G) (ar : Nat → ClassId) (ad : Nat → Nat → Nat) (nf : Nat) (N : bn_S) (b : Nat) (hb : b < 5) (x : Nat) (hx : x < 20) : bn_V l y_Br_tellOn w_Br_tellOn { frames := 2, cells := 0, slots := 0, locals := 49 } (bn_y D ar ad nf) N [.ref (ad 2 b), .ref (ad 6 x)] (o_Br_tellOn N b x) := by
  intro sz
  refine bn_start (cc := b_Br_tellOn) (maxL := 2) (ret := (Option.none : Option Jvm.ClassFile.FieldType)) (by decide) rfl (Nat.le_of_ble_eq_true rfl) ?_
  intro p e s m args below meth c ls hsz F hml hr hk hl h
  subst hsz
  have E1 := F.1
  have E2 := F.2.1
  have hl : lv_has ls 2 [(0, .ref (ad 2 b)), (1, .ref (ad 6 x))] := hl
  refine lv_aload_n E1 E2 d_Br_tellOn_0 rfl (lv_at hl 1 rfl) ?_
  refine g_Po_peer F h (by omega) k_145 d_Br_tellOn_1 (fun ho1 => ?_) (fun y2 ho1 hy2 => ?_)
  · skip
    refine lv_ifnullN E1 E2 d_Br_tellOn_4 rfl ?_
    have hq : o_Br_tellOn N b x = N := bn_oc_n ho1
    exact bn_retv F hr hk h hq.symm d_Br_tellOn_30
  · skip
    refine lv_ifnull E1 E2 d_Br_tellOn_4 ?_
    refine lv_aload_n E1 E2 d_Br_tellOn_7 rfl (lv_at hl 1 rfl) ?_
    refine g_Po_peer_s F h (by omega) k_145 ho1 d_Br_tellOn_8 ?_
    refine g_Po_line F h (by omega) k_137 d_Br_tellOn_11 ?_
    refine lv_aload_n E1 E2 d_Br_tellOn_14 rfl (lv_at hl 0 rfl) ?_
    refine lv_aload_n E1 E2 d_Br_tellOn_15 rfl (lv_at hl 1 rfl) ?_
    refine bn_calll F h (bn_runV (n := 1) (As := [.ref (ad 6 x)]) (rest := [.ref (ad 7 y2)]) F hml hl.1 h (mm_2 (by omega)) rfl rfl (c_Br_ownVector l D ar ad nf N b (by omega) x (by omega) _) (bn_goodV k_284 k_286 ks_Br_ownVector k_2 k_287) rfl rfl (by decide) ⟨by decide, by decide⟩ rfl rfl (Nat.le_of_ble_eq_true rfl) d_Br_tellOn_16 ⟨Nat.zero_le _, Nat.zero_le _⟩) (fun H locs h => ?_)
    refine lv_aload_n E1 E2 d_Br_tellOn_19 rfl (lv_at hl 0 rfl) ?_
    refine g_Br_hops F h (by omega) k_42 (v := N.1 4 b) rfl d_Br_tellOn_20 ?_
    refine lv_aload_n E1 E2 d_Br_tellOn_23 rfl (lv_at hl 1 rfl) ?_
    refine g_Po_proposing F h (by omega) k_160 (v := N.2.1 3 x) rfl d_Br_tellOn_24 ?_
    have hwprop : N.2.1 3 x < 2 := wf_prop h.2.2.2 x
    refine bn_callv F h (bn_runV (n := 3) (As := [.long (r_Br_ownVector N b x), .int (N.1 4 b), .int (nI (N.2.1 3 x))]) (rest := []) F hml hl.1 h (mm_7 (by omega)) rfl rfl (c_Li_putTell l D ar ad nf N y2 (by omega) (r_Br_ownVector N b x) (N.1 4 b) (N.2.1 3 x) (by omega) _) (bn_goodV k_308 k_309 k_310 k_4 k_311) rfl rfl (by decide) ⟨by decide, by decide⟩ rfl rfl (Nat.le_of_ble_eq_true rfl) d_Br_tellOn_27 ⟨Nat.zero_le _, Nat.zero_le _⟩) (fun H locs h => ?_)
    have h : bn_H (bn_y D ar ad nf) s.heap H locs (o_Li_putTell N y2 (r_Br_ownVector N b x) (N.1 4 b) (N.2.1 3 x)) := h
    have hq : o_Br_tellOn N b x = (o_Li_putTell N y2 (r_Br_ownVector N b x) (N.1 4 b) (N.2.1 3 x)) := bn_oc_s ho1
    exact bn_retv F hr hk h hq.symm d_Br_tellOn_30
def bd_Br_tellOnAll (b : Nat) (k : Nat) (q : bn_S) : bn_S := (if r_Po_isLinkedDesignated q (4 * b + k) = 0 then q else (o_Br_tellOn q b (4 * b + k)))
def it_Br_tellOnAll (b : Nat) (q0 : bn_S) : Nat → bn_S
  | 0 => q0
  | k + 1 => bd_Br_tellOnAll b k (it_Br_tellOnAll b q0 k)
theorem it_Br_tellOnAll_s (b : Nat) (q0 : bn_S) (k : Nat) : bd_Br_tellOnAll b k (it_Br_tellOnAll b q0 k) = it_Br_tellOnAll b q0 (k + 1) := rfl
def o_Br_tellOnAll (N : bn_S) (b : Nat) : bn_S := (it_Br_tellOnAll b N 4)
set_option maxHeartbeats 4000000 in
set_option maxRecDepth 100000 in
theorem c_Br_tellOnAll (l : Launch) (D : va_G) (ar : Nat → ClassId) (ad : Nat → Nat → Nat) (nf : Nat) (N : bn_S) (b : Nat) (hb : b < 5) : bn_V l y_Br_tellOnAll w_Br_tellOnAll { frames := 3, cells := 0, slots := 0, locals := 70 } (bn_y D ar ad nf) N [.ref (ad 2 b)] (o_Br_tellOnAll N b) := by
  intro sz
  refine bn_start (cc := b_Br_tellOnAll) (maxL := 5) (ret := (Option.none : Option Jvm.ClassFile.FieldType)) (by decide) rfl (Nat.le_of_ble_eq_true rfl) ?_
  intro p e s m args below meth c ls hsz F hml hr hk hl h
  subst hsz
  have E1 := F.1
  have E2 := F.2.1
  have hl : lv_has ls 5 [(0, .ref (ad 2 b))] := hl
  refine lv_aload_n E1 E2 d_Br_tellOnAll_0 rfl (lv_at hl 0 rfl) ?_
  refine g_Br_ports F h (by omega) k_38 d_Br_tellOnAll_1 ?_
  refine lv_astore_n E1 E2 d_Br_tellOnAll_4 rfl hl (by decide) rfl (fun ls hl => ?_)
  have hl : lv_has ls 5 [(1, .ref (ad 3 b)), (0, .ref (ad 2 b))] := hl
  refine lv_aload_n E1 E2 d_Br_tellOnAll_5 rfl (lv_at hl 0 rfl) ?_
  refine an_ports F h (by omega) d_Br_tellOnAll_6 ?_
  refine lv_istore_n E1 E2 d_Br_tellOnAll_7 rfl hl (by decide) rfl (fun ls hl => ?_)
  have hl : lv_has ls 5 [(2, .int (nI 4)), (1, .ref (ad 3 b)), (0, .ref (ad 2 b))] := hl
  refine lv_iconst (v := 0) E1 E2 d_Br_tellOnAll_8 (by decide) ?_
  refine lv_istore_n E1 E2 d_Br_tellOnAll_9 rfl hl (by decide) rfl (fun ls hl => ?_)
  have hl : lv_has ls 5 [(3, .int 0), (2, .int (nI 4)), (1, .ref (ad 3 b)), (0, .ref (ad 2 b))] := hl
  have hs10 : ∀ (Q0 : State → Prop) (k : Nat), k < 4 → ∀ (q : bn_S) (H : Heap) (locs : List Loc) (ls : Array Slot), lv_has ls 5 [(0, .ref (ad 2 b)), (1, .ref (ad 3 b)), (2, .int (nI 4)), (3, .int (nI k))] → bn_H (bn_y D ar ad nf) s.heap H locs q → (∀ (H : Heap) (locs : List Loc) (ls : Array Slot), lv_has ls 5 [(0, .ref (ad 2 b)), (1, .ref (ad 3 b)), (2, .int (nI 4)), (3, .int (nI (k + 1)))] → bn_H (bn_y D ar ad nf) s.heap H locs (bd_Br_tellOnAll b k q) → W p l e { frames := 3, cells := 0, slots := 0, locals := 70 } s m args below meth c H locs 0 0 Q0 (F0 m 10 ls [])) → W p l e { frames := 3, cells := 0, slots := 0, locals := 70 } s m args below meth c H locs 0 0 Q0 (F0 m 10 ls []) := by
    intro Q0 k hkk q H locs ls hl h kk
    refine lv_iload_n E1 E2 d_Br_tellOnAll_10 rfl (lv_at hl 3 rfl) ?_
    refine lv_iload_n E1 E2 d_Br_tellOnAll_11 rfl (lv_at hl 2 rfl) ?_
    refine lv_icmp_ge E1 E2 d_Br_tellOnAll_12 rfl (fun hz => absurd ((nI_leI (a := 4) (b := k) (by omega) (by omega)).mp hz) (by omega)) (fun _ => ?_)
    refine lv_aload_n E1 E2 d_Br_tellOnAll_15 rfl (lv_at hl 1 rfl) ?_
    refine lv_iload_n E1 E2 d_Br_tellOnAll_16 rfl (lv_at hl 3 rfl) ?_
    refine al_ports F h (by omega) (i := k) (by omega) d_Br_tellOnAll_17 ?_
    refine lv_astore E1 E2 d_Br_tellOnAll_18 hl (by decide) rfl (fun ls hl => ?_)
    have hl : lv_has ls 5 [(4, .ref (ad 6 (4 * b + k))), (0, .ref (ad 2 b)), (1, .ref (ad 3 b)), (2, .int (nI 4)), (3, .int (nI k))] := hl
    refine lv_aload E1 E2 d_Br_tellOnAll_20 (lv_at hl 0 rfl) ?_
    refine bn_calli F h (bn_runV (n := 0) (As := []) (rest := []) F hml hl.1 h (mm_6 (by omega)) rfl rfl (c_Po_isLinkedDesignated l D ar ad nf q (4 * b + k) (by omega) _) (bn_goodV k_300 k_301 k_302 k_3 k_303) rfl rfl (by decide) ⟨by decide, by decide⟩ rfl rfl (Nat.le_of_ble_eq_true rfl) d_Br_tellOnAll_22 ⟨Nat.zero_le _, Nat.zero_le _⟩) (fun H locs h => ?_)
    refine lv_if_eq E1 E2 d_Br_tellOnAll_25 rfl (fun h1 => ?_) (fun h1 => ?_)
    · have h1 : r_Po_isLinkedDesignated q (4 * b + k) = 0 := h1
      refine lv_iinc (v := (nI (k + 1))) E1 E2 d_Br_tellOnAll_34 hl (k := 4) rfl (nI_1 _) (by decide) rfl (fun ls hl => ?_)
      have hl : lv_has ls 5 [(3, .int (nI (k + 1))), (4, .ref (ad 6 (4 * b + k))), (0, .ref (ad 2 b)), (1, .ref (ad 3 b)), (2, .int (nI 4))] := hl
      refine lv_goto E1 E2 d_Br_tellOnAll_37 rfl ?_
      have hq : (bd_Br_tellOnAll b k q) = q := if_pos h1
      rw [hq] at kk
      exact kk H locs ls (lv_sub hl [2, 3, 4, 0] rfl) h
    · have h1 : ¬ (r_Po_isLinkedDesignated q (4 * b + k) = 0) := h1
      refine lv_aload_n E1 E2 d_Br_tellOnAll_28 rfl (lv_at hl 1 rfl) ?_
      refine lv_aload E1 E2 d_Br_tellOnAll_29 (lv_at hl 0 rfl) ?_
      refine bn_callv F h (bn_runV (n := 1) (As := [.ref (ad 6 (4 * b + k))]) (rest := []) F hml hl.1 h (mm_2 (by omega)) rfl rfl (c_Br_tellOn l D ar ad nf q b (by omega) (4 * b + k) (by omega) _) (bn_goodV k_304 k_306 ks_Br_tellOn k_2 k_307) rfl rfl (by decide) ⟨by decide, by decide⟩ rfl rfl (Nat.le_of_ble_eq_true rfl) d_Br_tellOnAll_31 ⟨Nat.zero_le _, Nat.zero_le _⟩) (fun H locs h => ?_)
      have h : bn_H (bn_y D ar ad nf) s.heap H locs (o_Br_tellOn q b (4 * b + k)) := h
      refine lv_iinc (v := (nI (k + 1))) E1 E2 d_Br_tellOnAll_34 hl (k := 4) rfl (nI_1 _) (by decide) rfl (fun ls hl => ?_)
      have hl : lv_has ls 5 [(3, .int (nI (k + 1))), (4, .ref (ad 6 (4 * b + k))), (0, .ref (ad 2 b)), (1, .ref (ad 3 b)), (2, .int (nI 4))] := hl
      refine lv_goto E1 E2 d_Br_tellOnAll_37 rfl ?_
      have hq : (bd_Br_tellOnAll b k q) = (o_Br_tellOn q b (4 * b + k)) := if_neg h1
      rw [hq] at kk
      exact kk H locs ls (lv_sub hl [2, 3, 4, 0] rfl) h
  refine hs10 _ 0 (by decide) (it_Br_tellOnAll b N 0) _ _ ls (lv_sub hl [3, 2, 1, 0] rfl) h (fun H locs ls hl h => ?_)
  rw [it_Br_tellOnAll_s] at h
  refine hs10 _ 1 (by decide) (it_Br_tellOnAll b N 1) _ _ ls hl h (fun H locs ls hl h => ?_)
  rw [it_Br_tellOnAll_s] at h
  refine hs10 _ 2 (by decide) (it_Br_tellOnAll b N 2) _ _ ls hl h (fun H locs ls hl h => ?_)
  rw [it_Br_tellOnAll_s] at h
  refine hs10 _ 3 (by decide) (it_Br_tellOnAll b N 3) _ _ ls hl h (fun H locs ls hl h => ?_)
  rw [it_Br_tellOnAll_s] at h
  have hl : lv_has ls 5 [(0, .ref (ad 2 b)), (1, .ref (ad 3 b)), (2, .int (nI 4)), (3, .int (nI 4))] := hl
  have h : bn_H (bn_y D ar ad nf) s.heap H locs (it_Br_tellOnAll b N 4) := h
  refine lv_iload_n E1 E2 d_Br_tellOnAll_10 rfl (lv_at hl 3 rfl) ?_
  refine lv_iload_n E1 E2 d_Br_tellOnAll_11 rfl (lv_at hl 2 rfl) ?_
  refine lv_icmp_ge E1 E2 d_Br_tellOnAll_12 rfl (fun _ => ?_) (fun hz => absurd ((nI_leI (a := 4) (b := 4) (by omega) (by omega)).mpr (by omega)) hz)
  have hq : o_Br_tellOnAll N b = (it_Br_tellOnAll b N 4) := rfl
  exact bn_retv F hr hk h hq.symm d_Br_tellOnAll_40
def o_Br_compute (N : bn_S) (b : Nat) : bn_S := (if (o_Br_giveRoles (o_Br_chooseRoot N b) b).1 = 0 then (if ((o_Br_giveRoles (o_Br_chooseRoot N b) b).2).1 2 b = N.1 2 b then (if ((o_Br_giveRoles (o_Br_chooseRoot N b) b).2).1 3 b = N.1 3 b then (if ((o_Br_giveRoles (o_Br_chooseRoot N b) b).2).1 4 b = N.1 4 b then (o_Br_giveRoles (o_Br_chooseRoot N b) b).2 else (o_Br_tellOnAll ((o_Br_giveRoles (o_Br_chooseRoot N b) b).2) b)) else (o_Br_tellOnAll ((o_Br_giveRoles (o_Br_chooseRoot N b) b).2) b)) else (o_Br_tellOnAll ((o_Br_giveRoles (o_Br_chooseRoot N b) b).2) b)) else (o_Br_tellOnAll ((o_Br_giveRoles (o_Br_chooseRoot N b) b).2) b))
set_option maxHeartbeats 4000000 in
set_option maxRecDepth 100000 in
theorem c_Br_compute (l : Launch) (D : va_G) (ar : Nat → ClassId) (ad : Nat → Nat → Nat) (nf : Nat) (N : bn_S) (b : Nat) (hb : b < 5) : bn_V l y_Br_compute w_Br_compute { frames := 4, cells := 0, slots := 0, locals := 94 } (bn_y D ar ad nf) N [.ref (ad 2 b)] (o_Br_compute N b) := by
  intro sz
  refine bn_start (cc := b_Br_compute) (maxL := 5) (ret := (Option.none : Option Jvm.ClassFile.FieldType)) (by decide) rfl (Nat.le_of_ble_eq_true rfl) ?_
  intro p e s m args below meth c ls hsz F hml hr hk hl h
  subst hsz
  have E1 := F.1
  have E2 := F.2.1
  have hl : lv_has ls 5 [(0, .ref (ad 2 b))] := hl
  refine lv_aload_n E1 E2 d_Br_compute_0 rfl (lv_at hl 0 rfl) ?_
  refine g_Br_root F h (by omega) k_40 (v := N.1 2 b) rfl d_Br_compute_1 ?_
  refine lv_istore_n E1 E2 d_Br_compute_4 rfl hl (by decide) rfl (fun ls hl => ?_)
  have hl : lv_has ls 5 [(1, .int (N.1 2 b)), (0, .ref (ad 2 b))] := hl
  refine lv_aload_n E1 E2 d_Br_compute_5 rfl (lv_at hl 1 rfl) ?_
  refine g_Br_cost F h (by omega) k_41 (v := N.1 3 b) rfl d_Br_compute_6 ?_
  refine lv_istore_n E1 E2 d_Br_compute_9 rfl hl (by decide) rfl (fun ls hl => ?_)
  have hl : lv_has ls 5 [(2, .int (N.1 3 b)), (1, .int (N.1 2 b)), (0, .ref (ad 2 b))] := hl
  refine lv_aload_n E1 E2 d_Br_compute_10 rfl (lv_at hl 2 rfl) ?_
  refine g_Br_hops F h (by omega) k_42 (v := N.1 4 b) rfl d_Br_compute_11 ?_
  refine lv_istore_n E1 E2 d_Br_compute_14 rfl hl (by decide) rfl (fun ls hl => ?_)
  have hl : lv_has ls 5 [(3, .int (N.1 4 b)), (2, .int (N.1 3 b)), (1, .int (N.1 2 b)), (0, .ref (ad 2 b))] := hl
  refine lv_aload_n E1 E2 d_Br_compute_15 rfl (lv_at hl 3 rfl) ?_
  refine bn_callv F h (bn_runV (n := 0) (As := []) (rest := []) F hml hl.1 h (mm_2 (by omega)) rfl rfl (c_Br_chooseRoot l D ar ad nf N b (by omega) _) (bn_goodV k_252 k_254 ks_Br_chooseRoot k_2 k_255) rfl rfl (by decide) ⟨by decide, by decide⟩ rfl rfl (Nat.le_of_ble_eq_true rfl) d_Br_compute_16 ⟨Nat.zero_le _, Nat.zero_le _⟩) (fun H locs h => ?_)
  have h : bn_H (bn_y D ar ad nf) s.heap H locs (o_Br_chooseRoot N b) := h
  refine lv_aload_n E1 E2 d_Br_compute_19 rfl (lv_at hl 3 rfl) ?_
  refine bn_calli F h (bn_runV (n := 0) (As := []) (rest := []) F hml hl.1 h (mm_2 (by omega)) rfl rfl (c_Br_giveRoles l D ar ad nf (o_Br_chooseRoot N b) b (by omega) _) (bn_goodV k_276 k_278 ks_Br_giveRoles k_2 k_279) rfl rfl (by decide) ⟨by decide, by decide⟩ rfl rfl (Nat.le_of_ble_eq_true rfl) d_Br_compute_20 ⟨Nat.zero_le _, Nat.zero_le _⟩) (fun H locs h => ?_)
  have h : bn_H (bn_y D ar ad nf) s.heap H locs (o_Br_giveRoles (o_Br_chooseRoot N b) b).2 := h
  refine lv_istore E1 E2 d_Br_compute_23 hl (by decide) rfl (fun ls hl => ?_)
  have hl : lv_has ls 5 [(4, .int ((o_Br_giveRoles (o_Br_chooseRoot N b) b).1)), (3, .int (N.1 4 b)), (2, .int (N.1 3 b)), (1, .int (N.1 2 b)), (0, .ref (ad 2 b))] := hl
  refine lv_iload E1 E2 d_Br_compute_25 (lv_at hl 0 rfl) ?_
  refine lv_if_ne E1 E2 d_Br_compute_27 rfl (fun h1 => ?_) (fun h1 => ?_)
  · have h1 : ¬ ((o_Br_giveRoles (o_Br_chooseRoot N b) b).1 = 0) := h1
    refine lv_aload_n E1 E2 d_Br_compute_54 rfl (lv_at hl 4 rfl) ?_
    refine bn_callv F h (bn_runV (n := 0) (As := []) (rest := []) F hml hl.1 h (mm_2 (by omega)) rfl rfl (c_Br_tellOnAll l D ar ad nf ((o_Br_giveRoles (o_Br_chooseRoot N b) b).2) b (by omega) _) (bn_goodV k_296 k_297 k_298 k_2 k_299) rfl rfl (by decide) ⟨by decide, by decide⟩ rfl rfl (Nat.le_of_ble_eq_true rfl) d_Br_compute_55 ⟨Nat.zero_le _, Nat.zero_le _⟩) (fun H locs h => ?_)
    have h : bn_H (bn_y D ar ad nf) s.heap H locs (o_Br_tellOnAll ((o_Br_giveRoles (o_Br_chooseRoot N b) b).2) b) := h
    have hq : o_Br_compute N b = (o_Br_tellOnAll ((o_Br_giveRoles (o_Br_chooseRoot N b) b).2) b) := if_neg h1
    exact bn_retv F hr hk h hq.symm d_Br_compute_58
  · have h1 : (o_Br_giveRoles (o_Br_chooseRoot N b) b).1 = 0 := h1
    refine lv_aload_n E1 E2 d_Br_compute_30 rfl (lv_at hl 4 rfl) ?_
    refine g_Br_root F h (by omega) k_40 (v := ((o_Br_giveRoles (o_Br_chooseRoot N b) b).2).1 2 b) rfl d_Br_compute_31 ?_
    refine lv_iload_n E1 E2 d_Br_compute_34 rfl (lv_at hl 3 rfl) ?_
    refine lv_icmp_ne E1 E2 d_Br_compute_35 rfl (fun h2 => ?_) (fun h2 => ?_)
    · have h2 : ¬ (((o_Br_giveRoles (o_Br_chooseRoot N b) b).2).1 2 b = N.1 2 b) := h2
      refine lv_aload_n E1 E2 d_Br_compute_54 rfl (lv_at hl 4 rfl) ?_
      refine bn_callv F h (bn_runV (n := 0) (As := []) (rest := []) F hml hl.1 h (mm_2 (by omega)) rfl rfl (c_Br_tellOnAll l D ar ad nf ((o_Br_giveRoles (o_Br_chooseRoot N b) b).2) b (by omega) _) (bn_goodV k_296 k_297 k_298 k_2 k_299) rfl rfl (by decide) ⟨by decide, by decide⟩ rfl rfl (Nat.le_of_ble_eq_true rfl) d_Br_compute_55 ⟨Nat.zero_le _, Nat.zero_le _⟩) (fun H locs h => ?_)
      have h : bn_H (bn_y D ar ad nf) s.heap H locs (o_Br_tellOnAll ((o_Br_giveRoles (o_Br_chooseRoot N b) b).2) b) := h
      have hq : o_Br_compute N b = (o_Br_tellOnAll ((o_Br_giveRoles (o_Br_chooseRoot N b) b).2) b) := Eq.trans (if_pos h1) (if_neg h2)
      exact bn_retv F hr hk h hq.symm d_Br_compute_58
    · have h2 : ((o_Br_giveRoles (o_Br_chooseRoot N b) b).2).1 2 b = N.1 2 b := h2
      refine lv_aload_n E1 E2 d_Br_compute_38 rfl (lv_at hl 4 rfl) ?_
      refine g_Br_cost F h (by omega) k_41 (v := ((o_Br_giveRoles (o_Br_chooseRoot N b) b).2).1 3 b) rfl d_Br_compute_39 ?_
      refine lv_iload_n E1 E2 d_Br_compute_42 rfl (lv_at hl 2 rfl) ?_
      refine lv_icmp_ne E1 E2 d_Br_compute_43 rfl (fun h3 => ?_) (fun h3 => ?_)
      · have h3 : ¬ (((o_Br_giveRoles (o_Br_chooseRoot N b) b).2).1 3 b = N.1 3 b) := h3
        refine lv_aload_n E1 E2 d_Br_compute_54 rfl (lv_at hl 4 rfl) ?_
        refine bn_callv F h (bn_runV (n := 0) (As := []) (rest := []) F hml hl.1 h (mm_2 (by omega)) rfl rfl (c_Br_tellOnAll l D ar ad nf ((o_Br_giveRoles (o_Br_chooseRoot N b) b).2) b (by omega) _) (bn_goodV k_296 k_297 k_298 k_2 k_299) rfl rfl (by decide) ⟨by decide, by decide⟩ rfl rfl (Nat.le_of_ble_eq_true rfl) d_Br_compute_55 ⟨Nat.zero_le _, Nat.zero_le _⟩) (fun H locs h => ?_)
        have h : bn_H (bn_y D ar ad nf) s.heap H locs (o_Br_tellOnAll ((o_Br_giveRoles (o_Br_chooseRoot N b) b).2) b) := h
        have hq : o_Br_compute N b = (o_Br_tellOnAll ((o_Br_giveRoles (o_Br_chooseRoot N b) b).2) b) := Eq.trans (if_pos h1) (Eq.trans (if_pos h2) (if_neg h3))
        exact bn_retv F hr hk h hq.symm d_Br_compute_58
      · have h3 : ((o_Br_giveRoles (o_Br_chooseRoot N b) b).2).1 3 b = N.1 3 b := h3
        refine lv_aload_n E1 E2 d_Br_compute_46 rfl (lv_at hl 4 rfl) ?_
        refine g_Br_hops F h (by omega) k_42 (v := ((o_Br_giveRoles (o_Br_chooseRoot N b) b).2).1 4 b) rfl d_Br_compute_47 ?_
        refine lv_iload_n E1 E2 d_Br_compute_50 rfl (lv_at hl 1 rfl) ?_
        refine lv_icmp_eq E1 E2 d_Br_compute_51 rfl (fun h4 => ?_) (fun h4 => ?_)
        · have h4 : ((o_Br_giveRoles (o_Br_chooseRoot N b) b).2).1 4 b = N.1 4 b := h4
          have hq : o_Br_compute N b = (o_Br_giveRoles (o_Br_chooseRoot N b) b).2 := Eq.trans (if_pos h1) (Eq.trans (if_pos h2) (Eq.trans (if_pos h3) (if_pos h4)))
          exact bn_retv F hr hk h hq.symm d_Br_compute_58
        · have h4 : ¬ (((o_Br_giveRoles (o_Br_chooseRoot N b) b).2).1 4 b = N.1 4 b) := h4
          refine lv_aload_n E1 E2 d_Br_compute_54 rfl (lv_at hl 4 rfl) ?_
          refine bn_callv F h (bn_runV (n := 0) (As := []) (rest := []) F hml hl.1 h (mm_2 (by omega)) rfl rfl (c_Br_tellOnAll l D ar ad nf ((o_Br_giveRoles (o_Br_chooseRoot N b) b).2) b (by omega) _) (bn_goodV k_296 k_297 k_298 k_2 k_299) rfl rfl (by decide) ⟨by decide, by decide⟩ rfl rfl (Nat.le_of_ble_eq_true rfl) d_Br_compute_55 ⟨Nat.zero_le _, Nat.zero_le _⟩) (fun H locs h => ?_)
          have h : bn_H (bn_y D ar ad nf) s.heap H locs (o_Br_tellOnAll ((o_Br_giveRoles (o_Br_chooseRoot N b) b).2) b) := h
          have hq : o_Br_compute N b = (o_Br_tellOnAll ((o_Br_giveRoles (o_Br_chooseRoot N b) b).2) b) := Eq.trans (if_pos h1) (Eq.trans (if_pos h2) (Eq.trans (if_pos h3) (if_neg h4)))
          exact bn_retv F hr hk h hq.symm d_Br_compute_58
def bd_Br_proposeOnOthers (b : Nat) (x : Nat) (k : Nat) (q : bn_S) : bn_S := (if 4 * b + k = x then q else (if r_Po_isLinkedDesignated q (4 * b + k) = 0 then q else (if (o_Po_proposeUnlessAgreed q (4 * b + k)).1 = 0 then (o_Po_proposeUnlessAgreed q (4 * b + k)).2 else (o_Br_tellOn ((o_Po_proposeUnlessAgreed q (4 * b + k)).2) b (4 * b + k)))))
def it_Br_proposeOnOthers (b : Nat) (x : Nat) (q0 : bn_S) : Nat → bn_S
  | 0 => q0
  | k + 1 => bd_Br_proposeOnOthers b x k (it_Br_proposeOnOthers b x q0 k)
theorem it_Br_proposeOnOthers_s (b : Nat) (x : Nat) (q0 : bn_S) (k : Nat) : bd_Br_proposeOnOthers b x k (it_Br_proposeOnOthers b x q0 k) = it_Br_proposeOnOthers b x q0 (k + 1) := rfl
def o_Br_proposeOnOthers (N : bn_S) (b : Nat) (x : Nat) : bn_S := (it_Br_proposeOnOthers b x N 4)
set_option maxHeartbeats 4000000 in
set_option maxRecDepth 100000 in
theorem c_Br_proposeOnOthers (l : Launch) (D : va_G) (ar : Nat → ClassId) (ad : Nat → Nat → Nat) (nf : Nat) (N : bn_S) (b : Nat) (hb : b < 5) (x : Nat) (hx : x < 20) : bn_V l y_Br_proposeOnOthers w_Br_proposeOnOthers { frames := 3, cells := 0, slots := 0, locals := 70 } (bn_y D ar ad nf) N [.ref (ad 2 b), .ref (ad 6 x)] (o_Br_proposeOnOthers N b x) := by
  intro sz
  refine bn_start (cc := b_Br_proposeOnOthers) (maxL := 6) (ret := (Option.none : Option Jvm.ClassFile.FieldType)) (by decide) rfl (Nat.le_of_ble_eq_true rfl) ?_
  intro p e s m args below meth c ls hsz F hml hr hk hl h
  subst hsz
  have E1 := F.1
  have E2 := F.2.1
  have hl : lv_has ls 6 [(0, .ref (ad 2 b)), (1, .ref (ad 6 x))] := hl
  refine lv_aload_n E1 E2 d_Br_proposeOnOthers_0 rfl (lv_at hl 0 rfl) ?_
  refine g_Br_ports F h (by omega) k_38 d_Br_proposeOnOthers_1 ?_
  refine lv_astore_n E1 E2 d_Br_proposeOnOthers_4 rfl hl (by decide) rfl (fun ls hl => ?_)
  have hl : lv_has ls 6 [(2, .ref (ad 3 b)), (0, .ref (ad 2 b)), (1, .ref (ad 6 x))] := hl
  refine lv_aload_n E1 E2 d_Br_proposeOnOthers_5 rfl (lv_at hl 0 rfl) ?_
  refine an_ports F h (by omega) d_Br_proposeOnOthers_6 ?_
  refine lv_istore_n E1 E2 d_Br_proposeOnOthers_7 rfl hl (by decide) rfl (fun ls hl => ?_)
  have hl : lv_has ls 6 [(3, .int (nI 4)), (2, .ref (ad 3 b)), (0, .ref (ad 2 b)), (1, .ref (ad 6 x))] := hl
  refine lv_iconst (v := 0) E1 E2 d_Br_proposeOnOthers_8 (by decide) ?_
  refine lv_istore E1 E2 d_Br_proposeOnOthers_9 hl (by decide) rfl (fun ls hl => ?_)
  have hl : lv_has ls 6 [(4, .int 0), (3, .int (nI 4)), (2, .ref (ad 3 b)), (0, .ref (ad 2 b)), (1, .ref (ad 6 x))] := hl
  have hs11 : ∀ (Q0 : State → Prop) (k : Nat), k < 4 → ∀ (q : bn_S) (H : Heap) (locs : List Loc) (ls : Array Slot), lv_has ls 6 [(0, .ref (ad 2 b)), (1, .ref (ad 6 x)), (2, .ref (ad 3 b)), (3, .int (nI 4)), (4, .int (nI k))] → bn_H (bn_y D ar ad nf) s.heap H locs q → (∀ (H : Heap) (locs : List Loc) (ls : Array Slot), lv_has ls 6 [(0, .ref (ad 2 b)), (1, .ref (ad 6 x)), (2, .ref (ad 3 b)), (3, .int (nI 4)), (4, .int (nI (k + 1)))] → bn_H (bn_y D ar ad nf) s.heap H locs (bd_Br_proposeOnOthers b x k q) → W p l e { frames := 3, cells := 0, slots := 0, locals := 70 } s m args below meth c H locs 0 0 Q0 (F0 m 11 ls [])) → W p l e { frames := 3, cells := 0, slots := 0, locals := 70 } s m args below meth c H locs 0 0 Q0 (F0 m 11 ls []) := by
    intro Q0 k hkk q H locs ls hl h kk
    refine lv_iload E1 E2 d_Br_proposeOnOthers_11 (lv_at hl 4 rfl) ?_
    refine lv_iload_n E1 E2 d_Br_proposeOnOthers_13 rfl (lv_at hl 3 rfl) ?_
    refine lv_icmp_ge E1 E2 d_Br_proposeOnOthers_14 rfl (fun hz => absurd ((nI_leI (a := 4) (b := k) (by omega) (by omega)).mp hz) (by omega)) (fun _ => ?_)
    refine lv_aload_n E1 E2 d_Br_proposeOnOthers_17 rfl (lv_at hl 2 rfl) ?_
    refine lv_iload E1 E2 d_Br_proposeOnOthers_18 (lv_at hl 4 rfl) ?_
    refine al_ports F h (by omega) (i := k) (by omega) d_Br_proposeOnOthers_20 ?_
    refine lv_astore E1 E2 d_Br_proposeOnOthers_21 hl (by decide) rfl (fun ls hl => ?_)
    have hl : lv_has ls 6 [(5, .ref (ad 6 (4 * b + k))), (0, .ref (ad 2 b)), (1, .ref (ad 6 x)), (2, .ref (ad 3 b)), (3, .int (nI 4)), (4, .int (nI k))] := hl
    refine lv_aload E1 E2 d_Br_proposeOnOthers_23 (lv_at hl 0 rfl) ?_
    refine lv_aload_n E1 E2 d_Br_proposeOnOthers_25 rfl (lv_at hl 2 rfl) ?_
    refine lv_acmp_eq (rx := (some (ad 6 (4 * b + k)))) (ry := (some (ad 6 x))) E1 E2 d_Br_proposeOnOthers_26 rfl (fun h1 => ?_) (fun h1 => ?_)
    · have h1 : 4 * b + k = x := ((bn_inj h (mm_6 (by omega)) (mm_6 (by omega))).mp h1)
      refine lv_iinc (v := (nI (k + 1))) E1 E2 d_Br_proposeOnOthers_51 hl (k := 5) rfl (nI_1 _) (by decide) rfl (fun ls hl => ?_)
      have hl : lv_has ls 6 [(4, .int (nI (k + 1))), (5, .ref (ad 6 (4 * b + k))), (0, .ref (ad 2 b)), (1, .ref (ad 6 x)), (2, .ref (ad 3 b)), (3, .int (nI 4))] := hl
      refine lv_goto E1 E2 d_Br_proposeOnOthers_54 rfl ?_
      have hq : (bd_Br_proposeOnOthers b x k q) = q := if_pos h1
      rw [hq] at kk
      exact kk H locs ls (lv_sub hl [2, 3, 4, 5, 0] rfl) h
    · have h1 : ¬ (4 * b + k = x) := (fun hw => h1 ((bn_inj h (mm_6 (by omega)) (mm_6 (by omega))).mpr hw))
      refine lv_aload E1 E2 d_Br_proposeOnOthers_29 (lv_at hl 0 rfl) ?_
      refine bn_calli F h (bn_runV (n := 0) (As := []) (rest := []) F hml hl.1 h (mm_6 (by omega)) rfl rfl (c_Po_isLinkedDesignated l D ar ad nf q (4 * b + k) (by omega) _) (bn_goodV k_300 k_301 k_302 k_3 k_303) rfl rfl (by decide) ⟨by decide, by decide⟩ rfl rfl (Nat.le_of_ble_eq_true rfl) d_Br_proposeOnOthers_31 ⟨Nat.zero_le _, Nat.zero_le _⟩) (fun H locs h => ?_)
      refine lv_if_eq E1 E2 d_Br_proposeOnOthers_34 rfl (fun h2 => ?_) (fun h2 => ?_)
      · have h2 : r_Po_isLinkedDesignated q (4 * b + k) = 0 := h2
        refine lv_iinc (v := (nI (k + 1))) E1 E2 d_Br_proposeOnOthers_51 hl (k := 5) rfl (nI_1 _) (by decide) rfl (fun ls hl => ?_)
        have hl : lv_has ls 6 [(4, .int (nI (k + 1))), (5, .ref (ad 6 (4 * b + k))), (0, .ref (ad 2 b)), (1, .ref (ad 6 x)), (2, .ref (ad 3 b)), (3, .int (nI 4))] := hl
        refine lv_goto E1 E2 d_Br_proposeOnOthers_54 rfl ?_
        have hq : (bd_Br_proposeOnOthers b x k q) = q := Eq.trans (if_neg h1) (if_pos h2)
        rw [hq] at kk
        exact kk H locs ls (lv_sub hl [2, 3, 4, 5, 0] rfl) h
      · have h2 : ¬ (r_Po_isLinkedDesignated q (4 * b + k) = 0) := h2
        refine lv_aload E1 E2 d_Br_proposeOnOthers_37 (lv_at hl 0 rfl) ?_
        refine bn_calli F h (bn_runV (n := 0) (As := []) (rest := []) F hml hl.1 h (mm_6 (by omega)) rfl rfl (c_Po_proposeUnlessAgreed l D ar ad nf q (4 * b + k) (by omega) _) (bn_goodV k_675 k_676 k_677 k_3 k_678) rfl rfl (by decide) ⟨by decide, by decide⟩ rfl rfl (Nat.le_of_ble_eq_true rfl) d_Br_proposeOnOthers_39 ⟨Nat.zero_le _, Nat.zero_le _⟩) (fun H locs h => ?_)
        have h : bn_H (bn_y D ar ad nf) s.heap H locs (o_Po_proposeUnlessAgreed q (4 * b + k)).2 := h
        refine lv_if_eq E1 E2 d_Br_proposeOnOthers_42 rfl (fun h3 => ?_) (fun h3 => ?_)
        · have h3 : (o_Po_proposeUnlessAgreed q (4 * b + k)).1 = 0 := h3
          refine lv_iinc (v := (nI (k + 1))) E1 E2 d_Br_proposeOnOthers_51 hl (k := 5) rfl (nI_1 _) (by decide) rfl (fun ls hl => ?_)
          have hl : lv_has ls 6 [(4, .int (nI (k + 1))), (5, .ref (ad 6 (4 * b + k))), (0, .ref (ad 2 b)), (1, .ref (ad 6 x)), (2, .ref (ad 3 b)), (3, .int (nI 4))] := hl
          refine lv_goto E1 E2 d_Br_proposeOnOthers_54 rfl ?_
          have hq : (bd_Br_proposeOnOthers b x k q) = (o_Po_proposeUnlessAgreed q (4 * b + k)).2 := Eq.trans (if_neg h1) (Eq.trans (if_neg h2) (if_pos h3))
          rw [hq] at kk
          exact kk H locs ls (lv_sub hl [2, 3, 4, 5, 0] rfl) h
        · have h3 : ¬ ((o_Po_proposeUnlessAgreed q (4 * b + k)).1 = 0) := h3
          refine lv_aload_n E1 E2 d_Br_proposeOnOthers_45 rfl (lv_at hl 1 rfl) ?_
          refine lv_aload E1 E2 d_Br_proposeOnOthers_46 (lv_at hl 0 rfl) ?_
          refine bn_callv F h (bn_runV (n := 1) (As := [.ref (ad 6 (4 * b + k))]) (rest := []) F hml hl.1 h (mm_2 (by omega)) rfl rfl (c_Br_tellOn l D ar ad nf ((o_Po_proposeUnlessAgreed q (4 * b + k)).2) b (by omega) (4 * b + k) (by omega) _) (bn_goodV k_304 k_306 ks_Br_tellOn k_2 k_307) rfl rfl (by decide) ⟨by decide, by decide⟩ rfl rfl (Nat.le_of_ble_eq_true rfl) d_Br_proposeOnOthers_48 ⟨Nat.zero_le _, Nat.zero_le _⟩) (fun H locs h => ?_)
          have h : bn_H (bn_y D ar ad nf) s.heap H locs (o_Br_tellOn ((o_Po_proposeUnlessAgreed q (4 * b + k)).2) b (4 * b + k)) := h
          refine lv_iinc (v := (nI (k + 1))) E1 E2 d_Br_proposeOnOthers_51 hl (k := 5) rfl (nI_1 _) (by decide) rfl (fun ls hl => ?_)
          have hl : lv_has ls 6 [(4, .int (nI (k + 1))), (5, .ref (ad 6 (4 * b + k))), (0, .ref (ad 2 b)), (1, .ref (ad 6 x)), (2, .ref (ad 3 b)), (3, .int (nI 4))] := hl
          refine lv_goto E1 E2 d_Br_proposeOnOthers_54 rfl ?_
          have hq : (bd_Br_proposeOnOthers b x k q) = (o_Br_tellOn ((o_Po_proposeUnlessAgreed q (4 * b + k)).2) b (4 * b + k)) := Eq.trans (if_neg h1) (Eq.trans (if_neg h2) (if_neg h3))
          rw [hq] at kk
          exact kk H locs ls (lv_sub hl [2, 3, 4, 5, 0] rfl) h
  refine hs11 _ 0 (by decide) (it_Br_proposeOnOthers b x N 0) _ _ ls (lv_sub hl [3, 4, 2, 1, 0] rfl) h (fun H locs ls hl h => ?_)
  rw [it_Br_proposeOnOthers_s] at h
  refine hs11 _ 1 (by decide) (it_Br_proposeOnOthers b x N 1) _ _ ls hl h (fun H locs ls hl h => ?_)
  rw [it_Br_proposeOnOthers_s] at h
  refine hs11 _ 2 (by decide) (it_Br_proposeOnOthers b x N 2) _ _ ls hl h (fun H locs ls hl h => ?_)
  rw [it_Br_proposeOnOthers_s] at h
  refine hs11 _ 3 (by decide) (it_Br_proposeOnOthers b x N 3) _ _ ls hl h (fun H locs ls hl h => ?_)
  rw [it_Br_proposeOnOthers_s] at h
  have hl : lv_has ls 6 [(0, .ref (ad 2 b)), (1, .ref (ad 6 x)), (2, .ref (ad 3 b)), (3, .int (nI 4)), (4, .int (nI 4))] := hl
  have h : bn_H (bn_y D ar ad nf) s.heap H locs (it_Br_proposeOnOthers b x N 4) := h
  refine lv_iload E1 E2 d_Br_proposeOnOthers_11 (lv_at hl 4 rfl) ?_
  refine lv_iload_n E1 E2 d_Br_proposeOnOthers_13 rfl (lv_at hl 3 rfl) ?_
  refine lv_icmp_ge E1 E2 d_Br_proposeOnOthers_14 rfl (fun _ => ?_) (fun hz => absurd ((nI_leI (a := 4) (b := 4) (by omega) (by omega)).mpr (by omega)) hz)
  have hq : o_Br_proposeOnOthers N b x = (it_Br_proposeOnOthers b x N 4) := rfl
  exact bn_retv F hr hk h hq.symm d_Br_proposeOnOthers_57
def o_Br_answerProposal (N : bn_S) (b : Nat) (x : Nat) : bn_S := (if N.1 9 x = 1 then (bn_oc ((o_Br_proposeOnOthers N b x).2.2.2 2 x) (o_Br_proposeOnOthers N b x) (fun y6 => (if (o_Br_proposeOnOthers N b x).1 9 x = 1 then (o_Li_putAgree (o_Br_proposeOnOthers N b x) y6 ((o_Br_proposeOnOthers N b x).1 2 b)) else (if (o_Br_proposeOnOthers N b x).1 9 x = 3 then (o_Li_putAgree (o_Br_proposeOnOthers N b x) y6 ((o_Br_proposeOnOthers N b x).1 2 b)) else (o_Br_proposeOnOthers N b x))))) else (bn_oc (N.2.2.2 2 x) N (fun y3 => (if N.1 9 x = 3 then (o_Li_putAgree N y3 (N.1 2 b)) else N))))
set_option maxHeartbeats 4000000 in
set_option maxRecDepth 100000 in
theorem c_Br_answerProposal (l : Launch) (D : va_G) (ar : Nat → ClassId) (ad : Nat → Nat → Nat) (nf : Nat) (N : bn_S) (b : Nat) (hb : b < 5) (x : Nat) (hx : x < 20) : bn_V l y_Br_answerProposal w_Br_answerProposal { frames := 4, cells := 0, slots := 0, locals := 95 } (bn_y D ar ad nf) N [.ref (ad 2 b), .ref (ad 6 x)] (o_Br_answerProposal N b x) := by
  intro sz
  refine bn_start (cc := b_Br_answerProposal) (maxL := 2) (ret := (Option.none : Option Jvm.ClassFile.FieldType)) (by decide) rfl (Nat.le_of_ble_eq_true rfl) ?_
  intro p e s m args below meth c ls hsz F hml hr hk hl h
  subst hsz
  have E1 := F.1
  have E2 := F.2.1
  have hl : lv_has ls 2 [(0, .ref (ad 2 b)), (1, .ref (ad 6 x))] := hl
  refine lv_aload_n E1 E2 d_Br_answerProposal_0 rfl (lv_at hl 1 rfl) ?_
  refine g_Po_role F h (by omega) k_156 (v := N.1 9 x) rfl d_Br_answerProposal_1 ?_
  refine lv_iconst (v := 1) E1 E2 d_Br_answerProposal_4 (by decide) ?_
  refine lv_icmp_ne E1 E2 d_Br_answerProposal_5 rfl (fun h1 => ?_) (fun h1 => ?_)
  · have h1 : ¬ (N.1 9 x = 1) := h1
    refine lv_aload_n E1 E2 d_Br_answerProposal_13 rfl (lv_at hl 1 rfl) ?_
    refine g_Po_peer F h (by omega) k_145 d_Br_answerProposal_14 (fun ho2 => ?_) (fun y3 ho2 hy3 => ?_)
    · skip
      refine lv_ifnullN E1 E2 d_Br_answerProposal_17 rfl ?_
      have hq : o_Br_answerProposal N b x = N := Eq.trans (if_neg h1) (bn_oc_n ho2)
      exact bn_retv F hr hk h hq.symm d_Br_answerProposal_50
    · skip
      refine lv_ifnull E1 E2 d_Br_answerProposal_17 ?_
      refine lv_aload_n E1 E2 d_Br_answerProposal_20 rfl (lv_at hl 1 rfl) ?_
      refine g_Po_role F h (by omega) k_156 (v := N.1 9 x) rfl d_Br_answerProposal_21 ?_
      refine lv_iconst (v := 1) E1 E2 d_Br_answerProposal_24 (by decide) ?_
      refine lv_icmp_eq E1 E2 d_Br_answerProposal_25 rfl (fun hz => absurd hz h1) (fun _ => ?_)
      refine lv_aload_n E1 E2 d_Br_answerProposal_28 rfl (lv_at hl 1 rfl) ?_
      refine g_Po_role F h (by omega) k_156 (v := N.1 9 x) rfl d_Br_answerProposal_29 ?_
      refine lv_iconst (v := 3) E1 E2 d_Br_answerProposal_32 (by decide) ?_
      refine lv_icmp_ne E1 E2 d_Br_answerProposal_33 rfl (fun h4 => ?_) (fun h4 => ?_)
      · have h4 : ¬ (N.1 9 x = 3) := h4
        have hq : o_Br_answerProposal N b x = N := Eq.trans (if_neg h1) (Eq.trans (bn_oc_s ho2) (if_neg h4))
        exact bn_retv F hr hk h hq.symm d_Br_answerProposal_50
      · have h4 : N.1 9 x = 3 := h4
        refine lv_aload_n E1 E2 d_Br_answerProposal_36 rfl (lv_at hl 1 rfl) ?_
        refine g_Po_peer_s F h (by omega) k_145 ho2 d_Br_answerProposal_37 ?_
        refine g_Po_line F h (by omega) k_137 d_Br_answerProposal_40 ?_
        refine lv_aload_n E1 E2 d_Br_answerProposal_43 rfl (lv_at hl 0 rfl) ?_
        refine g_Br_root F h (by omega) k_40 (v := N.1 2 b) rfl d_Br_answerProposal_44 ?_
        refine bn_callv F h (bn_runV (n := 1) (As := [.int (N.1 2 b)]) (rest := []) F hml hl.1 h (mm_7 (by omega)) rfl rfl (c_Li_putAgree l D ar ad nf N y3 (by omega) (N.1 2 b) _) (bn_goodV k_679 k_680 k_681 k_4 k_682) rfl rfl (by decide) ⟨by decide, by decide⟩ rfl rfl (Nat.le_of_ble_eq_true rfl) d_Br_answerProposal_47 ⟨Nat.zero_le _, Nat.zero_le _⟩) (fun H locs h => ?_)
        have h : bn_H (bn_y D ar ad nf) s.heap H locs (o_Li_putAgree N y3 (N.1 2 b)) := h
        have hq : o_Br_answerProposal N b x = (o_Li_putAgree N y3 (N.1 2 b)) := Eq.trans (if_neg h1) (Eq.trans (bn_oc_s ho2) (if_pos h4))
        exact bn_retv F hr hk h hq.symm d_Br_answerProposal_50
  · have h1 : N.1 9 x = 1 := h1
    refine lv_aload_n E1 E2 d_Br_answerProposal_8 rfl (lv_at hl 0 rfl) ?_
    refine lv_aload_n E1 E2 d_Br_answerProposal_9 rfl (lv_at hl 1 rfl) ?_
    refine bn_callv F h (bn_runV (n := 1) (As := [.ref (ad 6 x)]) (rest := []) F hml hl.1 h (mm_2 (by omega)) rfl rfl (c_Br_proposeOnOthers l D ar ad nf N b (by omega) x (by omega) _) (bn_goodV k_671 k_673 ks_Br_proposeOnOthers k_2 k_674) rfl rfl (by decide) ⟨by decide, by decide⟩ rfl rfl (Nat.le_of_ble_eq_true rfl) d_Br_answerProposal_10 ⟨Nat.zero_le _, Nat.zero_le _⟩) (fun H locs h => ?_)
    have h : bn_H (bn_y D ar ad nf) s.heap H locs (o_Br_proposeOnOthers N b x) := h
    refine lv_aload_n E1 E2 d_Br_answerProposal_13 rfl (lv_at hl 1 rfl) ?_
    refine g_Po_peer F h (by omega) k_145 d_Br_answerProposal_14 (fun ho5 => ?_) (fun y6 ho5 hy6 => ?_)
    · skip
      refine lv_ifnullN E1 E2 d_Br_answerProposal_17 rfl ?_
      have hq : o_Br_answerProposal N b x = (o_Br_proposeOnOthers N b x) := Eq.trans (if_pos h1) (bn_oc_n ho5)
      exact bn_retv F hr hk h hq.symm d_Br_answerProposal_50
    · skip
      refine lv_ifnull E1 E2 d_Br_answerProposal_17 ?_
      refine lv_aload_n E1 E2 d_Br_answerProposal_20 rfl (lv_at hl 1 rfl) ?_
      refine g_Po_role F h (by omega) k_156 (v := (o_Br_proposeOnOthers N b x).1 9 x) rfl d_Br_answerProposal_21 ?_
      refine lv_iconst (v := 1) E1 E2 d_Br_answerProposal_24 (by decide) ?_
      refine lv_icmp_eq E1 E2 d_Br_answerProposal_25 rfl (fun h7 => ?_) (fun h7 => ?_)
      · have h7 : (o_Br_proposeOnOthers N b x).1 9 x = 1 := h7
        refine lv_aload_n E1 E2 d_Br_answerProposal_36 rfl (lv_at hl 1 rfl) ?_
        refine g_Po_peer_s F h (by omega) k_145 ho5 d_Br_answerProposal_37 ?_
        refine g_Po_line F h (by omega) k_137 d_Br_answerProposal_40 ?_
        refine lv_aload_n E1 E2 d_Br_answerProposal_43 rfl (lv_at hl 0 rfl) ?_
        refine g_Br_root F h (by omega) k_40 (v := (o_Br_proposeOnOthers N b x).1 2 b) rfl d_Br_answerProposal_44 ?_
        refine bn_callv F h (bn_runV (n := 1) (As := [.int ((o_Br_proposeOnOthers N b x).1 2 b)]) (rest := []) F hml hl.1 h (mm_7 (by omega)) rfl rfl (c_Li_putAgree l D ar ad nf (o_Br_proposeOnOthers N b x) y6 (by omega) ((o_Br_proposeOnOthers N b x).1 2 b) _) (bn_goodV k_679 k_680 k_681 k_4 k_682) rfl rfl (by decide) ⟨by decide, by decide⟩ rfl rfl (Nat.le_of_ble_eq_true rfl) d_Br_answerProposal_47 ⟨Nat.zero_le _, Nat.zero_le _⟩) (fun H locs h => ?_)
        have h : bn_H (bn_y D ar ad nf) s.heap H locs (o_Li_putAgree (o_Br_proposeOnOthers N b x) y6 ((o_Br_proposeOnOthers N b x).1 2 b)) := h
        have hq : o_Br_answerProposal N b x = (o_Li_putAgree (o_Br_proposeOnOthers N b x) y6 ((o_Br_proposeOnOthers N b x).1 2 b)) := Eq.trans (if_pos h1) (Eq.trans (bn_oc_s ho5) (if_pos h7))
        exact bn_retv F hr hk h hq.symm d_Br_answerProposal_50
      · have h7 : ¬ ((o_Br_proposeOnOthers N b x).1 9 x = 1) := h7
        refine lv_aload_n E1 E2 d_Br_answerProposal_28 rfl (lv_at hl 1 rfl) ?_
        refine g_Po_role F h (by omega) k_156 (v := (o_Br_proposeOnOthers N b x).1 9 x) rfl d_Br_answerProposal_29 ?_
        refine lv_iconst (v := 3) E1 E2 d_Br_answerProposal_32 (by decide) ?_
        refine lv_icmp_ne E1 E2 d_Br_answerProposal_33 rfl (fun h8 => ?_) (fun h8 => ?_)
        · have h8 : ¬ ((o_Br_proposeOnOthers N b x).1 9 x = 3) := h8
          have hq : o_Br_answerProposal N b x = (o_Br_proposeOnOthers N b x) := Eq.trans (if_pos h1) (Eq.trans (bn_oc_s ho5) (Eq.trans (if_neg h7) (if_neg h8)))
          exact bn_retv F hr hk h hq.symm d_Br_answerProposal_50
        · have h8 : (o_Br_proposeOnOthers N b x).1 9 x = 3 := h8
          refine lv_aload_n E1 E2 d_Br_answerProposal_36 rfl (lv_at hl 1 rfl) ?_
          refine g_Po_peer_s F h (by omega) k_145 ho5 d_Br_answerProposal_37 ?_
          refine g_Po_line F h (by omega) k_137 d_Br_answerProposal_40 ?_
          refine lv_aload_n E1 E2 d_Br_answerProposal_43 rfl (lv_at hl 0 rfl) ?_
          refine g_Br_root F h (by omega) k_40 (v := (o_Br_proposeOnOthers N b x).1 2 b) rfl d_Br_answerProposal_44 ?_
          refine bn_callv F h (bn_runV (n := 1) (As := [.int ((o_Br_proposeOnOthers N b x).1 2 b)]) (rest := []) F hml hl.1 h (mm_7 (by omega)) rfl rfl (c_Li_putAgree l D ar ad nf (o_Br_proposeOnOthers N b x) y6 (by omega) ((o_Br_proposeOnOthers N b x).1 2 b) _) (bn_goodV k_679 k_680 k_681 k_4 k_682) rfl rfl (by decide) ⟨by decide, by decide⟩ rfl rfl (Nat.le_of_ble_eq_true rfl) d_Br_answerProposal_47 ⟨Nat.zero_le _, Nat.zero_le _⟩) (fun H locs h => ?_)
          have h : bn_H (bn_y D ar ad nf) s.heap H locs (o_Li_putAgree (o_Br_proposeOnOthers N b x) y6 ((o_Br_proposeOnOthers N b x).1 2 b)) := h
          have hq : o_Br_answerProposal N b x = (o_Li_putAgree (o_Br_proposeOnOthers N b x) y6 ((o_Br_proposeOnOthers N b x).1 2 b)) := Eq.trans (if_pos h1) (Eq.trans (bn_oc_s ho5) (Eq.trans (if_neg h7) (if_pos h8)))
          exact bn_retv F hr hk h hq.symm d_Br_answerProposal_50
def o_Br_hearTell (N : bn_S) (b : Nat) (x : Nat) (i : Nat) : bn_S := (if N.1 14 i < 6 then (if ((o_Br_compute (o_Po_hold N x (N.2.2.1 2 i) (N.1 14 i)) b).2.1 5 i) = 0 then (o_Br_compute (o_Po_hold N x (N.2.2.1 2 i) (N.1 14 i)) b) else (o_Br_answerProposal (o_Br_compute (o_Po_hold N x (N.2.2.1 2 i) (N.1 14 i)) b) b x)) else N)
set_option maxHeartbeats 4000000 in
set_option maxRecDepth 100000 in
theorem c_Br_hearTell (l : Launch) (D : va_G) (ar : Nat → ClassId) (ad : Nat → Nat → Nat) (nf : Nat) (N : bn_S) (b : Nat) (hb : b < 5) (x : Nat) (hx : x < 20) (i : Nat) (hi : i < 240) : bn_V l y_Br_hearTell w_Br_hearTell { frames := 5, cells := 0, slots := 0, locals := 118 } (bn_y D ar ad nf) N [.ref (ad 2 b), .ref (ad 6 x), .ref (ad 9 i)] (o_Br_hearTell N b x i) := by
  intro sz
  refine bn_start (cc := b_Br_hearTell) (maxL := 3) (ret := (Option.none : Option Jvm.ClassFile.FieldType)) (by decide) rfl (Nat.le_of_ble_eq_true rfl) ?_
  intro p e s m args below meth c ls hsz F hml hr hk hl h
  subst hsz
  have E1 := F.1
  have E2 := F.2.1
  have hl : lv_has ls 3 [(0, .ref (ad 2 b)), (1, .ref (ad 6 x)), (2, .ref (ad 9 i))] := hl
  refine lv_aload_n E1 E2 d_Br_hearTell_0 rfl (lv_at hl 2 rfl) ?_
  refine g_Ms_hops F h (by omega) k_99 (v := N.1 14 i) rfl d_Br_hearTell_1 ?_
  refine lv_bipush (v := 6) E1 E2 d_Br_hearTell_4 (by decide) ?_
  refine lv_icmp_lt E1 E2 d_Br_hearTell_6 rfl (fun h1 => ?_) (fun h1 => ?_)
  · have h1 : N.1 14 i < 6 := h1
    refine lv_aload_n E1 E2 d_Br_hearTell_10 rfl (lv_at hl 1 rfl) ?_
    refine lv_aload_n E1 E2 d_Br_hearTell_11 rfl (lv_at hl 2 rfl) ?_
    refine g_Ms_vector F h (by omega) k_96 (v := N.2.2.1 2 i) rfl d_Br_hearTell_12 ?_
    refine lv_aload_n E1 E2 d_Br_hearTell_15 rfl (lv_at hl 2 rfl) ?_
    refine g_Ms_hops F h (by omega) k_99 (v := N.1 14 i) rfl d_Br_hearTell_16 ?_
    refine bn_callv F h (bn_runV (n := 2) (As := [.long (N.2.2.1 2 i), .int (N.1 14 i)]) (rest := []) F hml hl.1 h (mm_6 (by omega)) rfl rfl (c_Po_hold l D ar ad nf N x (by omega) (N.2.2.1 2 i) (N.1 14 i) _) (bn_goodV k_663 k_664 k_665 k_3 k_666) rfl rfl (by decide) ⟨by decide, by decide⟩ rfl rfl (Nat.le_of_ble_eq_true rfl) d_Br_hearTell_19 ⟨Nat.zero_le _, Nat.zero_le _⟩) (fun H locs h => ?_)
    have h : bn_H (bn_y D ar ad nf) s.heap H locs (o_Po_hold N x (N.2.2.1 2 i) (N.1 14 i)) := h
    refine lv_aload_n E1 E2 d_Br_hearTell_22 rfl (lv_at hl 0 rfl) ?_
    refine bn_callv F h (bn_runV (n := 0) (As := []) (rest := []) F hml hl.1 h (mm_2 (by omega)) rfl rfl (c_Br_compute l D ar ad nf (o_Po_hold N x (N.2.2.1 2 i) (N.1 14 i)) b (by omega) _) (bn_goodV k_379 k_249 k_250 k_2 k_251) rfl rfl (by decide) ⟨by decide, by decide⟩ rfl rfl (Nat.le_of_ble_eq_true rfl) d_Br_hearTell_23 ⟨Nat.zero_le _, Nat.zero_le _⟩) (fun H locs h => ?_)
    have h : bn_H (bn_y D ar ad nf) s.heap H locs (o_Br_compute (o_Po_hold N x (N.2.2.1 2 i) (N.1 14 i)) b) := h
    refine lv_aload_n E1 E2 d_Br_hearTell_26 rfl (lv_at hl 2 rfl) ?_
    refine g_Ms_proposing F h (by omega) k_102 (v := (o_Br_compute (o_Po_hold N x (N.2.2.1 2 i) (N.1 14 i)) b).2.1 5 i) rfl d_Br_hearTell_27 ?_
    have hwmprop : (o_Br_compute (o_Po_hold N x (N.2.2.1 2 i) (N.1 14 i)) b).2.1 5 i < 2 := wf_mprop h.2.2.2 i
    refine lv_if_eq E1 E2 d_Br_hearTell_30 rfl (fun h2 => ?_) (fun h2 => ?_)
    · have h2 : ((o_Br_compute (o_Po_hold N x (N.2.2.1 2 i) (N.1 14 i)) b).2.1 5 i) = 0 := ((nI_eq (a := (o_Br_compute (o_Po_hold N x (N.2.2.1 2 i) (N.1 14 i)) b).2.1 5 i) (b := 0) (by omega) (by omega)).mp h2)
      have hq : o_Br_hearTell N b x i = (o_Br_compute (o_Po_hold N x (N.2.2.1 2 i) (N.1 14 i)) b) := Eq.trans (if_pos h1) (if_pos h2)
      exact bn_retv F hr hk h hq.symm d_Br_hearTell_38
    · have h2 : ¬ (((o_Br_compute (o_Po_hold N x (N.2.2.1 2 i) (N.1 14 i)) b).2.1 5 i) = 0) := (fun hw => h2 ((nI_eq (a := (o_Br_compute (o_Po_hold N x (N.2.2.1 2 i) (N.1 14 i)) b).2.1 5 i) (b := 0) (by omega) (by omega)).mpr hw))
      refine lv_aload_n E1 E2 d_Br_hearTell_33 rfl (lv_at hl 0 rfl) ?_
      refine lv_aload_n E1 E2 d_Br_hearTell_34 rfl (lv_at hl 1 rfl) ?_
      refine bn_callv F h (bn_runV (n := 1) (As := [.ref (ad 6 x)]) (rest := []) F hml hl.1 h (mm_2 (by omega)) rfl rfl (c_Br_answerProposal l D ar ad nf (o_Br_compute (o_Po_hold N x (N.2.2.1 2 i) (N.1 14 i)) b) b (by omega) x (by omega) _) (bn_goodV k_667 k_669 ks_Br_answerProposal k_2 k_670) rfl rfl (by decide) ⟨by decide, by decide⟩ rfl rfl (Nat.le_of_ble_eq_true rfl) d_Br_hearTell_35 ⟨Nat.zero_le _, Nat.zero_le _⟩) (fun H locs h => ?_)
      have h : bn_H (bn_y D ar ad nf) s.heap H locs (o_Br_answerProposal (o_Br_compute (o_Po_hold N x (N.2.2.1 2 i) (N.1 14 i)) b) b x) := h
      have hq : o_Br_hearTell N b x i = (o_Br_answerProposal (o_Br_compute (o_Po_hold N x (N.2.2.1 2 i) (N.1 14 i)) b) b x) := Eq.trans (if_pos h1) (if_neg h2)
      exact bn_retv F hr hk h hq.symm d_Br_hearTell_38
  · have h1 : ¬ (N.1 14 i < 6) := h1
    have hq : o_Br_hearTell N b x i = N := if_neg h1
    exact bn_retv F hr hk h hq.symm d_Br_hearTell_9
def o_Br_hearAgree (N : bn_S) (b : Nat) (x : Nat) (ro : Int32) : bn_S := (if N.1 9 x = 2 then (if (N.2.1 3 x) = 0 then N else (if ro = N.1 2 b then (o_Po_takeAgreement N x) else N)) else N)
set_option maxHeartbeats 4000000 in
set_option maxRecDepth 100000 in
theorem c_Br_hearAgree (l : Launch) (D : va_G) (ar : Nat → ClassId) (ad : Nat → Nat → Nat) (nf : Nat) (N : bn_S) (b : Nat) (hb : b < 5) (x : Nat) (hx : x < 20) (ro : Int32) : bn_V l y_Br_hearAgree w_Br_hearAgree { frames := 2, cells := 0, slots := 0, locals := 40 } (bn_y D ar ad nf) N [.ref (ad 2 b), .ref (ad 6 x), .int ro] (o_Br_hearAgree N b x ro) := by
  intro sz
  refine bn_start (cc := b_Br_hearAgree) (maxL := 3) (ret := (Option.none : Option Jvm.ClassFile.FieldType)) (by decide) rfl (Nat.le_of_ble_eq_true rfl) ?_
  intro p e s m args below meth c ls hsz F hml hr hk hl h
  subst hsz
  have E1 := F.1
  have E2 := F.2.1
  have hl : lv_has ls 3 [(0, .ref (ad 2 b)), (1, .ref (ad 6 x)), (2, .int ro)] := hl
  refine lv_aload_n E1 E2 d_Br_hearAgree_0 rfl (lv_at hl 1 rfl) ?_
  refine g_Po_role F h (by omega) k_156 (v := N.1 9 x) rfl d_Br_hearAgree_1 ?_
  refine lv_iconst (v := 2) E1 E2 d_Br_hearAgree_4 (by decide) ?_
  refine lv_icmp_ne E1 E2 d_Br_hearAgree_5 rfl (fun h1 => ?_) (fun h1 => ?_)
  · have h1 : ¬ (N.1 9 x = 2) := h1
    have hq : o_Br_hearAgree N b x ro = N := if_neg h1
    exact bn_retv F hr hk h hq.symm d_Br_hearAgree_27
  · have h1 : N.1 9 x = 2 := h1
    refine lv_aload_n E1 E2 d_Br_hearAgree_8 rfl (lv_at hl 1 rfl) ?_
    refine g_Po_proposing F h (by omega) k_160 (v := N.2.1 3 x) rfl d_Br_hearAgree_9 ?_
    have hwprop : N.2.1 3 x < 2 := wf_prop h.2.2.2 x
    refine lv_if_eq E1 E2 d_Br_hearAgree_12 rfl (fun h2 => ?_) (fun h2 => ?_)
    · have h2 : (N.2.1 3 x) = 0 := ((nI_eq (a := N.2.1 3 x) (b := 0) (by omega) (by omega)).mp h2)
      have hq : o_Br_hearAgree N b x ro = N := Eq.trans (if_pos h1) (if_pos h2)
      exact bn_retv F hr hk h hq.symm d_Br_hearAgree_27
    · have h2 : ¬ ((N.2.1 3 x) = 0) := (fun hw => h2 ((nI_eq (a := N.2.1 3 x) (b := 0) (by omega) (by omega)).mpr hw))
      refine lv_iload_n E1 E2 d_Br_hearAgree_15 rfl (lv_at hl 2 rfl) ?_
      refine lv_aload_n E1 E2 d_Br_hearAgree_16 rfl (lv_at hl 0 rfl) ?_
      refine g_Br_root F h (by omega) k_40 (v := N.1 2 b) rfl d_Br_hearAgree_17 ?_
      refine lv_icmp_ne E1 E2 d_Br_hearAgree_20 rfl (fun h3 => ?_) (fun h3 => ?_)
      · have h3 : ¬ (ro = N.1 2 b) := h3
        have hq : o_Br_hearAgree N b x ro = N := Eq.trans (if_pos h1) (Eq.trans (if_neg h2) (if_neg h3))
        exact bn_retv F hr hk h hq.symm d_Br_hearAgree_27
      · have h3 : ro = N.1 2 b := h3
        refine lv_aload_n E1 E2 d_Br_hearAgree_23 rfl (lv_at hl 1 rfl) ?_
        refine bn_callv F h (bn_runV (n := 0) (As := []) (rest := []) F hml hl.1 h (mm_6 (by omega)) rfl rfl (c_Po_takeAgreement l D ar ad nf N x (by omega) _) (bn_goodV k_687 k_688 k_689 k_3 k_690) rfl rfl (by decide) ⟨by decide, by decide⟩ rfl rfl (Nat.le_of_ble_eq_true rfl) d_Br_hearAgree_24 ⟨Nat.zero_le _, Nat.zero_le _⟩) (fun H locs h => ?_)
        have h : bn_H (bn_y D ar ad nf) s.heap H locs (o_Po_takeAgreement N x) := h
        have hq : o_Br_hearAgree N b x ro = (o_Po_takeAgreement N x) := Eq.trans (if_pos h1) (Eq.trans (if_neg h2) (if_pos h3))
        exact bn_retv F hr hk h hq.symm d_Br_hearAgree_27
def r_Br_placeIndex (N : bn_S) (sr : Nat) (vl : Nat) : Nat := ((sr * 2) + vl) - 1
set_option maxHeartbeats 4000000 in
set_option maxRecDepth 100000 in
theorem c_Br_placeIndex (l : Launch) (D : va_G) (ar : Nat → ClassId) (ad : Nat → Nat → Nat) (nf : Nat) (N : bn_S) (sr : Nat) (hsr : sr < 8) (vl : Nat) (hvl : vl < 3) (hvl0 : 1 ≤ vl) : bn_I l y_Br_placeIndex w_Br_placeIndex { frames := 0, cells := 0, slots := 0, locals := 0 } (bn_y D ar ad nf) N [.int (nI sr), .int (nI vl)] (nI (((sr * 2) + vl) - 1)) N := by
  intro sz
  refine bn_start (cc := b_Br_placeIndex) (maxL := 2) (ret := (Option.some Jvm.ClassFile.FieldType.int)) (by decide) rfl (Nat.le_of_ble_eq_true rfl) ?_
  intro p e s m args below meth c ls hsz F hml hr hk hl h
  subst hsz
  have E1 := F.1
  have E2 := F.2.1
  have hl : lv_has ls 2 [(0, .int (nI sr)), (1, .int (nI vl))] := hl
  refine lv_iload_n E1 E2 d_Br_placeIndex_0 rfl (lv_at hl 0 rfl) ?_
  refine lv_iconst (v := 2) E1 E2 d_Br_placeIndex_1 (by decide) ?_
  refine lv_imul E1 E2 d_Br_placeIndex_2 ?_
  refine bn_ti (y := nI (sr * 2)) (pk_mul sr 2) ?_
  refine lv_iload_n E1 E2 d_Br_placeIndex_3 rfl (lv_at hl 1 rfl) ?_
  refine lv_iadd E1 E2 d_Br_placeIndex_4 ?_
  refine bn_ti (y := nI ((sr * 2) + vl)) (nI_add (sr * 2) vl) ?_
  refine lv_iconst (v := 1) E1 E2 d_Br_placeIndex_5 (by decide) ?_
  refine lv_isub E1 E2 d_Br_placeIndex_6 ?_
  refine bn_ti (y := nI (((sr * 2) + vl) - 1)) (pk_sub (a := ((sr * 2) + vl)) (b := 1) (by omega)) ?_
  have hq : r_Br_placeIndex N sr vl = ((sr * 2) + vl) - 1 := rfl
  exact bn_reti F hr hk h (congrArg nI hq).symm rfl d_Br_placeIndex_7
def o_Br_learn (N : bn_S) (b : Nat) (sr : Nat) (vl : Nat) (pp : Nat) : bn_S := (sI (sU N (b + 20) (((sr * 2) + vl) - 1) pp) (b + 20) (((sr * 2) + vl) - 1) 12)
set_option maxHeartbeats 4000000 in
set_option maxRecDepth 100000 in
theorem c_Br_learn (l : Launch) (D : va_G) (ar : Nat → ClassId) (ad : Nat → Nat → Nat) (nf : Nat) (N : bn_S) (b : Nat) (hb : b < 5) (sr : Nat) (hsr : sr < 8) (vl : Nat) (hvl : vl < 3) (hvl0 : 1 ≤ vl) (pp : Nat) (hpp : pp < 4) : bn_V l y_Br_learn w_Br_learn { frames := 1, cells := 0, slots := 0, locals := 21 } (bn_y D ar ad nf) N [.ref (ad 2 b), .int (nI sr), .int (nI vl), .int (nI pp)] (o_Br_learn N b sr vl pp) := by
  intro sz
  refine bn_start (cc := b_Br_learn) (maxL := 5) (ret := (Option.none : Option Jvm.ClassFile.FieldType)) (by decide) rfl (Nat.le_of_ble_eq_true rfl) ?_
  intro p e s m args below meth c ls hsz F hml hr hk hl h
  subst hsz
  have E1 := F.1
  have E2 := F.2.1
  have hl : lv_has ls 5 [(0, .ref (ad 2 b)), (1, .int (nI sr)), (2, .int (nI vl)), (3, .int (nI pp))] := hl
  refine lv_iload_n E1 E2 d_Br_learn_0 rfl (lv_at hl 1 rfl) ?_
  refine lv_iload_n E1 E2 d_Br_learn_1 rfl (lv_at hl 2 rfl) ?_
  refine bn_calli F h (bn_runS (n := 2) (As := [.int (nI sr), .int (nI vl)]) (rest := []) F hml hl.1 h (c_Br_placeIndex l D ar ad nf N sr (by omega) vl (by omega) (by omega) _) (bn_goodS k_427 k_428 k_2 k_429) rfl rfl (by decide) ⟨by decide, by decide⟩ rfl rfl (Nat.le_of_ble_eq_true rfl) d_Br_learn_2 ⟨Nat.zero_le _, Nat.zero_le _⟩) (fun H locs h => ?_)
  refine lv_istore E1 E2 d_Br_learn_5 hl (by decide) rfl (fun ls hl => ?_)
  have hl : lv_has ls 5 [(4, .int (nI (((sr * 2) + vl) - 1))), (0, .ref (ad 2 b)), (1, .int (nI sr)), (2, .int (nI vl)), (3, .int (nI pp))] := hl
  refine lv_aload_n E1 E2 d_Br_learn_7 rfl (lv_at hl 1 rfl) ?_
  refine g_Br_places F h (by omega) k_44 d_Br_learn_8 ?_
  refine lv_iload E1 E2 d_Br_learn_11 (lv_at hl 0 rfl) ?_
  refine lv_iload_n E1 E2 d_Br_learn_13 rfl (lv_at hl 4 rfl) ?_
  refine as_places F h (by omega) (i := ((sr * 2) + vl) - 1) (v := pp) (by omega) (by omega) d_Br_learn_14 (fun H locs h => ?_)
  have h : bn_H (bn_y D ar ad nf) s.heap H locs (sU N (b + 20) (((sr * 2) + vl) - 1) pp) := h
  refine lv_aload_n E1 E2 d_Br_learn_15 rfl (lv_at hl 1 rfl) ?_
  refine g_Br_placeLives F h (by omega) k_45 d_Br_learn_16 ?_
  refine lv_iload E1 E2 d_Br_learn_19 (lv_at hl 0 rfl) ?_
  refine lv_bipush (v := 12) E1 E2 d_Br_learn_21 (by decide) ?_
  refine as_lives F h (by omega) (i := ((sr * 2) + vl) - 1) (v := 12) (by omega) d_Br_learn_23 (fun H locs h => ?_)
  have h : bn_H (bn_y D ar ad nf) s.heap H locs (sI (sU N (b + 20) (((sr * 2) + vl) - 1) pp) (b + 20) (((sr * 2) + vl) - 1) 12) := h
  have hq : o_Br_learn N b sr vl pp = (sI (sU N (b + 20) (((sr * 2) + vl) - 1) pp) (b + 20) (((sr * 2) + vl) - 1) 12) := rfl
  exact bn_retv F hr hk h hq.symm d_Br_learn_24
def r_Br_placeOf (N : bn_S) (b : Nat) (sr : Nat) (vl : Nat) : Int32 := (if N.1 (b + 20) (((sr * 2) + vl) - 1) ≤ 0 then (-1) else nI (N.2.1 (b + 20) (((sr * 2) + vl) - 1)))
set_option maxHeartbeats 4000000 in
set_option maxRecDepth 100000 in
theorem c_Br_placeOf (l : Launch) (D : va_G) (ar : Nat → ClassId) (ad : Nat → Nat → Nat) (nf : Nat) (N : bn_S) (b : Nat) (hb : b < 5) (sr : Nat) (hsr : sr < 8) (vl : Nat) (hvl : vl < 3) (hvl0 : 1 ≤ vl) : bn_I l y_Br_placeOf w_Br_placeOf { frames := 1, cells := 0, slots := 0, locals := 21 } (bn_y D ar ad nf) N [.ref (ad 2 b), .int (nI sr), .int (nI vl)] (r_Br_placeOf N b sr vl) N := by
  intro sz
  refine bn_start (cc := b_Br_placeOf) (maxL := 4) (ret := (Option.some Jvm.ClassFile.FieldType.int)) (by decide) rfl (Nat.le_of_ble_eq_true rfl) ?_
  intro p e s m args below meth c ls hsz F hml hr hk hl h
  subst hsz
  have E1 := F.1
  have E2 := F.2.1
  have hl : lv_has ls 4 [(0, .ref (ad 2 b)), (1, .int (nI sr)), (2, .int (nI vl))] := hl
  refine lv_iload_n E1 E2 d_Br_placeOf_0 rfl (lv_at hl 1 rfl) ?_
  refine lv_iload_n E1 E2 d_Br_placeOf_1 rfl (lv_at hl 2 rfl) ?_
  refine bn_calli F h (bn_runS (n := 2) (As := [.int (nI sr), .int (nI vl)]) (rest := []) F hml hl.1 h (c_Br_placeIndex l D ar ad nf N sr (by omega) vl (by omega) (by omega) _) (bn_goodS k_427 k_428 k_2 k_429) rfl rfl (by decide) ⟨by decide, by decide⟩ rfl rfl (Nat.le_of_ble_eq_true rfl) d_Br_placeOf_2 ⟨Nat.zero_le _, Nat.zero_le _⟩) (fun H locs h => ?_)
  refine lv_istore_n E1 E2 d_Br_placeOf_5 rfl hl (by decide) rfl (fun ls hl => ?_)
  have hl : lv_has ls 4 [(3, .int (nI (((sr * 2) + vl) - 1))), (0, .ref (ad 2 b)), (1, .int (nI sr)), (2, .int (nI vl))] := hl
  refine lv_aload_n E1 E2 d_Br_placeOf_6 rfl (lv_at hl 1 rfl) ?_
  refine g_Br_placeLives F h (by omega) k_45 d_Br_placeOf_7 ?_
  refine lv_iload_n E1 E2 d_Br_placeOf_10 rfl (lv_at hl 0 rfl) ?_
  refine al_lives F h (by omega) (i := ((sr * 2) + vl) - 1) (v := N.1 (b + 20) (((sr * 2) + vl) - 1)) (by omega) rfl d_Br_placeOf_11 ?_
  refine lv_if_le E1 E2 d_Br_placeOf_12 rfl (fun h1 => ?_) (fun h1 => ?_)
  · have h1 : N.1 (b + 20) (((sr * 2) + vl) - 1) ≤ 0 := h1
    refine lv_iconst (v := (-1)) E1 E2 d_Br_placeOf_24 (by decide) ?_
    have hq : r_Br_placeOf N b sr vl = (-1) := if_pos h1
    exact bn_reti F hr hk h hq.symm rfl d_Br_placeOf_25
  · have h1 : ¬ (N.1 (b + 20) (((sr * 2) + vl) - 1) ≤ 0) := h1
    refine lv_aload_n E1 E2 d_Br_placeOf_15 rfl (lv_at hl 1 rfl) ?_
    refine g_Br_places F h (by omega) k_44 d_Br_placeOf_16 ?_
    refine lv_iload_n E1 E2 d_Br_placeOf_19 rfl (lv_at hl 0 rfl) ?_
    refine al_places F h (by omega) (i := ((sr * 2) + vl) - 1) (v := N.2.1 (b + 20) (((sr * 2) + vl) - 1)) (by omega) rfl d_Br_placeOf_20 ?_
    refine lv_goto E1 E2 d_Br_placeOf_21 rfl ?_
    have hq : r_Br_placeOf N b sr vl = nI (N.2.1 (b + 20) (((sr * 2) + vl) - 1)) := if_neg h1
    exact bn_reti F hr hk h hq.symm rfl d_Br_placeOf_25
def bd_Br_forgetBehind (b : Nat) (pp : Nat) (k : Nat) (q : bn_S) : bn_S := (if (q.2.1 (b + 20) k) = pp then (sI q (b + 20) k 0) else q)
def it_Br_forgetBehind (b : Nat) (pp : Nat) (q0 : bn_S) : Nat → bn_S
  | 0 => q0
  | k + 1 => bd_Br_forgetBehind b pp k (it_Br_forgetBehind b pp q0 k)
theorem it_Br_forgetBehind_s (b : Nat) (pp : Nat) (q0 : bn_S) (k : Nat) : bd_Br_forgetBehind b pp k (it_Br_forgetBehind b pp q0 k) = it_Br_forgetBehind b pp q0 (k + 1) := rfl
def o_Br_forgetBehind (N : bn_S) (b : Nat) (pp : Nat) : bn_S := (it_Br_forgetBehind b pp N 16)
set_option maxHeartbeats 4000000 in
set_option maxRecDepth 100000 in
theorem c_Br_forgetBehind (l : Launch) (D : va_G) (ar : Nat → ClassId) (ad : Nat → Nat → Nat) (nf : Nat) (N : bn_S) (b : Nat) (hb : b < 5) (pp : Nat) (hpp : pp < 4) : bn_V l y_Br_forgetBehind w_Br_forgetBehind { frames := 0, cells := 0, slots := 0, locals := 0 } (bn_y D ar ad nf) N [.ref (ad 2 b), .int (nI pp)] (o_Br_forgetBehind N b pp) := by
  intro sz
  refine bn_start (cc := b_Br_forgetBehind) (maxL := 3) (ret := (Option.none : Option Jvm.ClassFile.FieldType)) (by decide) rfl (Nat.le_of_ble_eq_true rfl) ?_
  intro p e s m args below meth c ls hsz F hml hr hk hl h
  subst hsz
  have E1 := F.1
  have E2 := F.2.1
  have hl : lv_has ls 3 [(0, .ref (ad 2 b)), (1, .int (nI pp))] := hl
  refine lv_iconst (v := 0) E1 E2 d_Br_forgetBehind_0 (by decide) ?_
  refine lv_istore_n E1 E2 d_Br_forgetBehind_1 rfl hl (by decide) rfl (fun ls hl => ?_)
  have hl : lv_has ls 3 [(2, .int 0), (0, .ref (ad 2 b)), (1, .int (nI pp))] := hl
  have hs2 : ∀ (Q0 : State → Prop) (k : Nat), k < 16 → ∀ (q : bn_S) (H : Heap) (locs : List Loc) (ls : Array Slot), lv_has ls 3 [(0, .ref (ad 2 b)), (1, .int (nI pp)), (2, .int (nI k))] → bn_H (bn_y D ar ad nf) s.heap H locs q → (∀ (H : Heap) (locs : List Loc) (ls : Array Slot), lv_has ls 3 [(0, .ref (ad 2 b)), (1, .int (nI pp)), (2, .int (nI (k + 1)))] → bn_H (bn_y D ar ad nf) s.heap H locs (bd_Br_forgetBehind b pp k q) → W p l e { frames := 0, cells := 0, slots := 0, locals := 0 } s m args below meth c H locs 0 0 Q0 (F0 m 2 ls [])) → W p l e { frames := 0, cells := 0, slots := 0, locals := 0 } s m args below meth c H locs 0 0 Q0 (F0 m 2 ls []) := by
    intro Q0 k hkk q H locs ls hl h kk
    refine lv_iload_n E1 E2 d_Br_forgetBehind_2 rfl (lv_at hl 2 rfl) ?_
    refine lv_aload_n E1 E2 d_Br_forgetBehind_3 rfl (lv_at hl 0 rfl) ?_
    refine g_Br_places F h (by omega) k_44 d_Br_forgetBehind_4 ?_
    refine an_places F h (by omega) d_Br_forgetBehind_7 ?_
    refine lv_icmp_ge E1 E2 d_Br_forgetBehind_8 rfl (fun hz => absurd ((nI_leI (a := 16) (b := k) (by omega) (by omega)).mp hz) (by omega)) (fun _ => ?_)
    refine lv_aload_n E1 E2 d_Br_forgetBehind_11 rfl (lv_at hl 0 rfl) ?_
    refine g_Br_places F h (by omega) k_44 d_Br_forgetBehind_12 ?_
    refine lv_iload_n E1 E2 d_Br_forgetBehind_15 rfl (lv_at hl 2 rfl) ?_
    refine al_places F h (by omega) (i := k) (v := q.2.1 (b + 20) k) (by omega) rfl d_Br_forgetBehind_16 ?_
    refine lv_iload_n E1 E2 d_Br_forgetBehind_17 rfl (lv_at hl 1 rfl) ?_
    have hwpl : q.2.1 (b + 20) k < 4 := wf_place h.2.2.2 b k
    refine lv_icmp_ne E1 E2 d_Br_forgetBehind_18 rfl (fun h1 => ?_) (fun h1 => ?_)
    · have h1 : ¬ ((q.2.1 (b + 20) k) = pp) := (fun hw => h1 ((nI_eq (a := q.2.1 (b + 20) k) (b := pp) (by omega) (by omega)).mpr hw))
      refine lv_iinc (v := (nI (k + 1))) E1 E2 d_Br_forgetBehind_28 hl (k := 2) rfl (nI_1 _) (by decide) rfl (fun ls hl => ?_)
      have hl : lv_has ls 3 [(2, .int (nI (k + 1))), (0, .ref (ad 2 b)), (1, .int (nI pp))] := hl
      refine lv_goto E1 E2 d_Br_forgetBehind_31 rfl ?_
      have hq : (bd_Br_forgetBehind b pp k q) = q := if_neg h1
      rw [hq] at kk
      exact kk H locs ls (lv_sub hl [1, 2, 0] rfl) h
    · have h1 : (q.2.1 (b + 20) k) = pp := ((nI_eq (a := q.2.1 (b + 20) k) (b := pp) (by omega) (by omega)).mp h1)
      refine lv_aload_n E1 E2 d_Br_forgetBehind_21 rfl (lv_at hl 0 rfl) ?_
      refine g_Br_placeLives F h (by omega) k_45 d_Br_forgetBehind_22 ?_
      refine lv_iload_n E1 E2 d_Br_forgetBehind_25 rfl (lv_at hl 2 rfl) ?_
      refine lv_iconst (v := 0) E1 E2 d_Br_forgetBehind_26 (by decide) ?_
      refine as_lives F h (by omega) (i := k) (v := 0) (by omega) d_Br_forgetBehind_27 (fun H locs h => ?_)
      have h : bn_H (bn_y D ar ad nf) s.heap H locs (sI q (b + 20) k 0) := h
      refine lv_iinc (v := (nI (k + 1))) E1 E2 d_Br_forgetBehind_28 hl (k := 2) rfl (nI_1 _) (by decide) rfl (fun ls hl => ?_)
      have hl : lv_has ls 3 [(2, .int (nI (k + 1))), (0, .ref (ad 2 b)), (1, .int (nI pp))] := hl
      refine lv_goto E1 E2 d_Br_forgetBehind_31 rfl ?_
      have hq : (bd_Br_forgetBehind b pp k q) = (sI q (b + 20) k 0) := if_pos h1
      rw [hq] at kk
      exact kk H locs ls (lv_sub hl [1, 2, 0] rfl) h
  refine hs2 _ 0 (by decide) (it_Br_forgetBehind b pp N 0) _ _ ls (lv_sub hl [1, 2, 0] rfl) h (fun H locs ls hl h => ?_)
  rw [it_Br_forgetBehind_s] at h
  refine hs2 _ 1 (by decide) (it_Br_forgetBehind b pp N 1) _ _ ls hl h (fun H locs ls hl h => ?_)
  rw [it_Br_forgetBehind_s] at h
  refine hs2 _ 2 (by decide) (it_Br_forgetBehind b pp N 2) _ _ ls hl h (fun H locs ls hl h => ?_)
  rw [it_Br_forgetBehind_s] at h
  refine hs2 _ 3 (by decide) (it_Br_forgetBehind b pp N 3) _ _ ls hl h (fun H locs ls hl h => ?_)
  rw [it_Br_forgetBehind_s] at h
  refine hs2 _ 4 (by decide) (it_Br_forgetBehind b pp N 4) _ _ ls hl h (fun H locs ls hl h => ?_)
  rw [it_Br_forgetBehind_s] at h
  refine hs2 _ 5 (by decide) (it_Br_forgetBehind b pp N 5) _ _ ls hl h (fun H locs ls hl h => ?_)
  rw [it_Br_forgetBehind_s] at h
  refine hs2 _ 6 (by decide) (it_Br_forgetBehind b pp N 6) _ _ ls hl h (fun H locs ls hl h => ?_)
  rw [it_Br_forgetBehind_s] at h
  refine hs2 _ 7 (by decide) (it_Br_forgetBehind b pp N 7) _ _ ls hl h (fun H locs ls hl h => ?_)
  rw [it_Br_forgetBehind_s] at h
  refine hs2 _ 8 (by decide) (it_Br_forgetBehind b pp N 8) _ _ ls hl h (fun H locs ls hl h => ?_)
  rw [it_Br_forgetBehind_s] at h
  refine hs2 _ 9 (by decide) (it_Br_forgetBehind b pp N 9) _ _ ls hl h (fun H locs ls hl h => ?_)
  rw [it_Br_forgetBehind_s] at h
  refine hs2 _ 10 (by decide) (it_Br_forgetBehind b pp N 10) _ _ ls hl h (fun H locs ls hl h => ?_)
  rw [it_Br_forgetBehind_s] at h
  refine hs2 _ 11 (by decide) (it_Br_forgetBehind b pp N 11) _ _ ls hl h (fun H locs ls hl h => ?_)
  rw [it_Br_forgetBehind_s] at h
  refine hs2 _ 12 (by decide) (it_Br_forgetBehind b pp N 12) _ _ ls hl h (fun H locs ls hl h => ?_)
  rw [it_Br_forgetBehind_s] at h
  refine hs2 _ 13 (by decide) (it_Br_forgetBehind b pp N 13) _ _ ls hl h (fun H locs ls hl h => ?_)
  rw [it_Br_forgetBehind_s] at h
  refine hs2 _ 14 (by decide) (it_Br_forgetBehind b pp N 14) _ _ ls hl h (fun H locs ls hl h => ?_)
  rw [it_Br_forgetBehind_s] at h
  refine hs2 _ 15 (by decide) (it_Br_forgetBehind b pp N 15) _ _ ls hl h (fun H locs ls hl h => ?_)
  rw [it_Br_forgetBehind_s] at h
  have hl : lv_has ls 3 [(0, .ref (ad 2 b)), (1, .int (nI pp)), (2, .int (nI 16))] := hl
  have h : bn_H (bn_y D ar ad nf) s.heap H locs (it_Br_forgetBehind b pp N 16) := h
  refine lv_iload_n E1 E2 d_Br_forgetBehind_2 rfl (lv_at hl 2 rfl) ?_
  refine lv_aload_n E1 E2 d_Br_forgetBehind_3 rfl (lv_at hl 0 rfl) ?_
  refine g_Br_places F h (by omega) k_44 d_Br_forgetBehind_4 ?_
  refine an_places F h (by omega) d_Br_forgetBehind_7 ?_
  refine lv_icmp_ge E1 E2 d_Br_forgetBehind_8 rfl (fun _ => ?_) (fun hz => absurd ((nI_leI (a := 16) (b := 16) (by omega) (by omega)).mpr (by omega)) hz)
  have hq : o_Br_forgetBehind N b pp = (it_Br_forgetBehind b pp N 16) := rfl
  exact bn_retv F hr hk h hq.symm d_Br_forgetBehind_34
def bd_Br_age1 (b : Nat) (k : Nat) (q : bn_S) : bn_S := (o_Po_ageInfo q (4 * b + k))
def it_Br_age1 (b : Nat) (q0 : bn_S) : Nat → bn_S
  | 0 => q0
  | k + 1 => bd_Br_age1 b k (it_Br_age1 b q0 k)
theorem it_Br_age1_s (b : Nat) (q0 : bn_S) (k : Nat) : bd_Br_age1 b k (it_Br_age1 b q0 k) = it_Br_age1 b q0 (k + 1) := rfl
def bd_Br_age2 (b : Nat) (k : Nat) (q : bn_S) : bn_S := (sI q (b + 20) k (if 0 < (q.1 (b + 20) k) - 1 then (q.1 (b + 20) k) - 1 else 0))
def it_Br_age2 (b : Nat) (q0 : bn_S) : Nat → bn_S
  | 0 => q0
  | k + 1 => bd_Br_age2 b k (it_Br_age2 b q0 k)
theorem it_Br_age2_s (b : Nat) (q0 : bn_S) (k : Nat) : bd_Br_age2 b k (it_Br_age2 b q0 k) = it_Br_age2 b q0 (k + 1) := rfl
def bd_Br_age3 (b : Nat) (k : Nat) (q : bn_S) : bn_S := (o_Po_ageWait q (4 * b + k))
def it_Br_age3 (b : Nat) (q0 : bn_S) : Nat → bn_S
  | 0 => q0
  | k + 1 => bd_Br_age3 b k (it_Br_age3 b q0 k)
theorem it_Br_age3_s (b : Nat) (q0 : bn_S) (k : Nat) : bd_Br_age3 b k (it_Br_age3 b q0 k) = it_Br_age3 b q0 (k + 1) := rfl
def o_Br_age (N : bn_S) (b : Nat) : bn_S := (o_Br_compute (it_Br_age3 b (it_Br_age2 b (it_Br_age1 b N 4) 16) 4) b)
set_option maxHeartbeats 4000000 in
set_option maxRecDepth 100000 in
theorem c_Br_age (l : Launch) (D : va_G) (ar : Nat → ClassId) (ad : Nat → Nat → Nat) (nf : Nat) (N : bn_S) (b : Nat) (hb : b < 5) : bn_V l y_Br_age w_Br_age { frames := 5, cells := 0, slots := 0, locals := 118 } (bn_y D ar ad nf) N [.ref (ad 2 b)] (o_Br_age N b) := by
  intro sz
  refine bn_start (cc := b_Br_age) (maxL := 5) (ret := (Option.none : Option Jvm.ClassFile.FieldType)) (by decide) rfl (Nat.le_of_ble_eq_true rfl) ?_
  intro p e s m args below meth c ls hsz F hml hr hk hl h
  subst hsz
  have E1 := F.1
  have E2 := F.2.1
  have hl : lv_has ls 5 [(0, .ref (ad 2 b))] := hl
  refine lv_aload_n E1 E2 d_Br_age_0 rfl (lv_at hl 0 rfl) ?_
  refine g_Br_ports F h (by omega) k_38 d_Br_age_1 ?_
  refine lv_astore_n E1 E2 d_Br_age_4 rfl hl (by decide) rfl (fun ls hl => ?_)
  have hl : lv_has ls 5 [(1, .ref (ad 3 b)), (0, .ref (ad 2 b))] := hl
  refine lv_aload_n E1 E2 d_Br_age_5 rfl (lv_at hl 0 rfl) ?_
  refine an_ports F h (by omega) d_Br_age_6 ?_
  refine lv_istore_n E1 E2 d_Br_age_7 rfl hl (by decide) rfl (fun ls hl => ?_)
  have hl : lv_has ls 5 [(2, .int (nI 4)), (1, .ref (ad 3 b)), (0, .ref (ad 2 b))] := hl
  refine lv_iconst (v := 0) E1 E2 d_Br_age_8 (by decide) ?_
  refine lv_istore_n E1 E2 d_Br_age_9 rfl hl (by decide) rfl (fun ls hl => ?_)
  have hl : lv_has ls 5 [(3, .int 0), (2, .int (nI 4)), (1, .ref (ad 3 b)), (0, .ref (ad 2 b))] := hl
  have hs10 : ∀ (Q0 : State → Prop) (k : Nat), k < 4 → ∀ (q : bn_S) (H : Heap) (locs : List Loc) (ls : Array Slot), lv_has ls 5 [(0, .ref (ad 2 b)), (1, .ref (ad 3 b)), (2, .int (nI 4)), (3, .int (nI k))] → bn_H (bn_y D ar ad nf) s.heap H locs q → (∀ (H : Heap) (locs : List Loc) (ls : Array Slot), lv_has ls 5 [(0, .ref (ad 2 b)), (1, .ref (ad 3 b)), (2, .int (nI 4)), (3, .int (nI (k + 1)))] → bn_H (bn_y D ar ad nf) s.heap H locs (bd_Br_age1 b k q) → W p l e { frames := 5, cells := 0, slots := 0, locals := 118 } s m args below meth c H locs 0 0 Q0 (F0 m 10 ls [])) → W p l e { frames := 5, cells := 0, slots := 0, locals := 118 } s m args below meth c H locs 0 0 Q0 (F0 m 10 ls []) := by
    intro Q0 k hkk q H locs ls hl h kk
    refine lv_iload_n E1 E2 d_Br_age_10 rfl (lv_at hl 3 rfl) ?_
    refine lv_iload_n E1 E2 d_Br_age_11 rfl (lv_at hl 2 rfl) ?_
    refine lv_icmp_ge E1 E2 d_Br_age_12 rfl (fun hz => absurd ((nI_leI (a := 4) (b := k) (by omega) (by omega)).mp hz) (by omega)) (fun _ => ?_)
    refine lv_aload_n E1 E2 d_Br_age_15 rfl (lv_at hl 1 rfl) ?_
    refine lv_iload_n E1 E2 d_Br_age_16 rfl (lv_at hl 3 rfl) ?_
    refine al_ports F h (by omega) (i := k) (by omega) d_Br_age_17 ?_
    refine lv_astore E1 E2 d_Br_age_18 hl (by decide) rfl (fun ls hl => ?_)
    have hl : lv_has ls 5 [(4, .ref (ad 6 (4 * b + k))), (0, .ref (ad 2 b)), (1, .ref (ad 3 b)), (2, .int (nI 4)), (3, .int (nI k))] := hl
    refine lv_aload E1 E2 d_Br_age_20 (lv_at hl 0 rfl) ?_
    refine bn_callv F h (bn_runV (n := 0) (As := []) (rest := []) F hml hl.1 h (mm_6 (by omega)) rfl rfl (c_Po_ageInfo l D ar ad nf q (4 * b + k) (by omega) _) (bn_goodV k_363 k_364 k_365 k_3 k_366) rfl rfl (by decide) ⟨by decide, by decide⟩ rfl rfl (Nat.le_of_ble_eq_true rfl) d_Br_age_22 ⟨Nat.zero_le _, Nat.zero_le _⟩) (fun H locs h => ?_)
    have h : bn_H (bn_y D ar ad nf) s.heap H locs (o_Po_ageInfo q (4 * b + k)) := h
    refine lv_iinc (v := (nI (k + 1))) E1 E2 d_Br_age_25 hl (k := 4) rfl (nI_1 _) (by decide) rfl (fun ls hl => ?_)
    have hl : lv_has ls 5 [(3, .int (nI (k + 1))), (4, .ref (ad 6 (4 * b + k))), (0, .ref (ad 2 b)), (1, .ref (ad 3 b)), (2, .int (nI 4))] := hl
    refine lv_goto E1 E2 d_Br_age_28 rfl ?_
    have hq : (bd_Br_age1 b k q) = (o_Po_ageInfo q (4 * b + k)) := rfl
    rw [hq] at kk
    exact kk H locs ls (lv_sub hl [2, 3, 4, 0] rfl) h
  refine hs10 _ 0 (by decide) (it_Br_age1 b N 0) _ _ ls (lv_sub hl [3, 2, 1, 0] rfl) h (fun H locs ls hl h => ?_)
  rw [it_Br_age1_s] at h
  refine hs10 _ 1 (by decide) (it_Br_age1 b N 1) _ _ ls hl h (fun H locs ls hl h => ?_)
  rw [it_Br_age1_s] at h
  refine hs10 _ 2 (by decide) (it_Br_age1 b N 2) _ _ ls hl h (fun H locs ls hl h => ?_)
  rw [it_Br_age1_s] at h
  refine hs10 _ 3 (by decide) (it_Br_age1 b N 3) _ _ ls hl h (fun H locs ls hl h => ?_)
  rw [it_Br_age1_s] at h
  have hl : lv_has ls 5 [(0, .ref (ad 2 b)), (1, .ref (ad 3 b)), (2, .int (nI 4)), (3, .int (nI 4))] := hl
  have h : bn_H (bn_y D ar ad nf) s.heap H locs (it_Br_age1 b N 4) := h
  refine lv_iload_n E1 E2 d_Br_age_10 rfl (lv_at hl 3 rfl) ?_
  refine lv_iload_n E1 E2 d_Br_age_11 rfl (lv_at hl 2 rfl) ?_
  refine lv_icmp_ge E1 E2 d_Br_age_12 rfl (fun _ => ?_) (fun hz => absurd ((nI_leI (a := 4) (b := 4) (by omega) (by omega)).mpr (by omega)) hz)
  refine lv_iconst (v := 0) E1 E2 d_Br_age_31 (by decide) ?_
  refine lv_istore_n E1 E2 d_Br_age_32 rfl hl (by decide) rfl (fun ls hl => ?_)
  have hl : lv_has ls 5 [(1, .int 0), (0, .ref (ad 2 b)), (2, .int (nI 4)), (3, .int (nI 4))] := hl
  have hs33 : ∀ (Q0 : State → Prop) (k : Nat), k < 16 → ∀ (q : bn_S) (H : Heap) (locs : List Loc) (ls : Array Slot), lv_has ls 5 [(0, .ref (ad 2 b)), (1, .int (nI k))] → bn_H (bn_y D ar ad nf) s.heap H locs q → (∀ (H : Heap) (locs : List Loc) (ls : Array Slot), lv_has ls 5 [(0, .ref (ad 2 b)), (1, .int (nI (k + 1)))] → bn_H (bn_y D ar ad nf) s.heap H locs (bd_Br_age2 b k q) → W p l e { frames := 5, cells := 0, slots := 0, locals := 118 } s m args below meth c H locs 0 0 Q0 (F0 m 33 ls [])) → W p l e { frames := 5, cells := 0, slots := 0, locals := 118 } s m args below meth c H locs 0 0 Q0 (F0 m 33 ls []) := by
    intro Q0 k hkk q H locs ls hl h kk
    refine lv_iload_n E1 E2 d_Br_age_33 rfl (lv_at hl 1 rfl) ?_
    refine lv_aload_n E1 E2 d_Br_age_34 rfl (lv_at hl 0 rfl) ?_
    refine g_Br_placeLives F h (by omega) k_45 d_Br_age_35 ?_
    refine an_lives F h (by omega) d_Br_age_38 ?_
    refine lv_icmp_ge E1 E2 d_Br_age_39 rfl (fun hz => absurd ((nI_leI (a := 16) (b := k) (by omega) (by omega)).mp hz) (by omega)) (fun _ => ?_)
    refine lv_aload_n E1 E2 d_Br_age_42 rfl (lv_at hl 0 rfl) ?_
    refine g_Br_placeLives F h (by omega) k_45 d_Br_age_43 ?_
    refine lv_iload_n E1 E2 d_Br_age_46 rfl (lv_at hl 1 rfl) ?_
    refine lv_iconst (v := 0) E1 E2 d_Br_age_47 (by decide) ?_
    refine lv_aload_n E1 E2 d_Br_age_48 rfl (lv_at hl 0 rfl) ?_
    refine g_Br_placeLives F h (by omega) k_45 d_Br_age_49 ?_
    refine lv_iload_n E1 E2 d_Br_age_52 rfl (lv_at hl 1 rfl) ?_
    refine al_lives F h (by omega) (i := k) (v := q.1 (b + 20) k) (by omega) rfl d_Br_age_53 ?_
    refine lv_iconst (v := 1) E1 E2 d_Br_age_54 (by decide) ?_
    refine lv_isub E1 E2 d_Br_age_55 ?_
    refine va_mmax (own := "BridgeNet$Bridge") E1 E2 (by rw [hml]; exact hl.1.symm) F.2.2.1 (F.2.2.2.1 _ k_367) (F.2.2.2.1 _ k_368) (F.2.2.2.1 _ k_16) (F.2.2.2.1 _ k_369) (by decide) (Nat.le_of_ble_eq_true rfl) (Nat.zero_le _) (Nat.zero_le _) d_Br_age_56 ?_
    refine as_lives F h (by omega) (i := k) (v := if 0 < (q.1 (b + 20) k) - 1 then (q.1 (b + 20) k) - 1 else 0) (by omega) d_Br_age_59 (fun H locs h => ?_)
    have h : bn_H (bn_y D ar ad nf) s.heap H locs (sI q (b + 20) k (if 0 < (q.1 (b + 20) k) - 1 then (q.1 (b + 20) k) - 1 else 0)) := h
    refine lv_iinc (v := (nI (k + 1))) E1 E2 d_Br_age_60 hl (k := 1) rfl (nI_1 _) (by decide) rfl (fun ls hl => ?_)
    have hl : lv_has ls 5 [(1, .int (nI (k + 1))), (0, .ref (ad 2 b))] := hl
    refine lv_goto E1 E2 d_Br_age_63 rfl ?_
    have hq : (bd_Br_age2 b k q) = (sI q (b + 20) k (if 0 < (q.1 (b + 20) k) - 1 then (q.1 (b + 20) k) - 1 else 0)) := rfl
    rw [hq] at kk
    exact kk H locs ls (lv_sub hl [1, 0] rfl) h
  refine hs33 _ 0 (by decide) (it_Br_age2 b (it_Br_age1 b N 4) 0) _ _ ls (lv_sub hl [1, 0] rfl) h (fun H locs ls hl h => ?_)
  rw [it_Br_age2_s] at h
  refine hs33 _ 1 (by decide) (it_Br_age2 b (it_Br_age1 b N 4) 1) _ _ ls hl h (fun H locs ls hl h => ?_)
  rw [it_Br_age2_s] at h
  refine hs33 _ 2 (by decide) (it_Br_age2 b (it_Br_age1 b N 4) 2) _ _ ls hl h (fun H locs ls hl h => ?_)
  rw [it_Br_age2_s] at h
  refine hs33 _ 3 (by decide) (it_Br_age2 b (it_Br_age1 b N 4) 3) _ _ ls hl h (fun H locs ls hl h => ?_)
  rw [it_Br_age2_s] at h
  refine hs33 _ 4 (by decide) (it_Br_age2 b (it_Br_age1 b N 4) 4) _ _ ls hl h (fun H locs ls hl h => ?_)
  rw [it_Br_age2_s] at h
  refine hs33 _ 5 (by decide) (it_Br_age2 b (it_Br_age1 b N 4) 5) _ _ ls hl h (fun H locs ls hl h => ?_)
  rw [it_Br_age2_s] at h
  refine hs33 _ 6 (by decide) (it_Br_age2 b (it_Br_age1 b N 4) 6) _ _ ls hl h (fun H locs ls hl h => ?_)
  rw [it_Br_age2_s] at h
  refine hs33 _ 7 (by decide) (it_Br_age2 b (it_Br_age1 b N 4) 7) _ _ ls hl h (fun H locs ls hl h => ?_)
  rw [it_Br_age2_s] at h
  refine hs33 _ 8 (by decide) (it_Br_age2 b (it_Br_age1 b N 4) 8) _ _ ls hl h (fun H locs ls hl h => ?_)
  rw [it_Br_age2_s] at h
  refine hs33 _ 9 (by decide) (it_Br_age2 b (it_Br_age1 b N 4) 9) _ _ ls hl h (fun H locs ls hl h => ?_)
  rw [it_Br_age2_s] at h
  refine hs33 _ 10 (by decide) (it_Br_age2 b (it_Br_age1 b N 4) 10) _ _ ls hl h (fun H locs ls hl h => ?_)
  rw [it_Br_age2_s] at h
  refine hs33 _ 11 (by decide) (it_Br_age2 b (it_Br_age1 b N 4) 11) _ _ ls hl h (fun H locs ls hl h => ?_)
  rw [it_Br_age2_s] at h
  refine hs33 _ 12 (by decide) (it_Br_age2 b (it_Br_age1 b N 4) 12) _ _ ls hl h (fun H locs ls hl h => ?_)
  rw [it_Br_age2_s] at h
  refine hs33 _ 13 (by decide) (it_Br_age2 b (it_Br_age1 b N 4) 13) _ _ ls hl h (fun H locs ls hl h => ?_)
  rw [it_Br_age2_s] at h
  refine hs33 _ 14 (by decide) (it_Br_age2 b (it_Br_age1 b N 4) 14) _ _ ls hl h (fun H locs ls hl h => ?_)
  rw [it_Br_age2_s] at h
  refine hs33 _ 15 (by decide) (it_Br_age2 b (it_Br_age1 b N 4) 15) _ _ ls hl h (fun H locs ls hl h => ?_)
  rw [it_Br_age2_s] at h
  have hl : lv_has ls 5 [(0, .ref (ad 2 b)), (1, .int (nI 16))] := hl
  have h : bn_H (bn_y D ar ad nf) s.heap H locs (it_Br_age2 b (it_Br_age1 b N 4) 16) := h
  refine lv_iload_n E1 E2 d_Br_age_33 rfl (lv_at hl 1 rfl) ?_
  refine lv_aload_n E1 E2 d_Br_age_34 rfl (lv_at hl 0 rfl) ?_
  refine g_Br_placeLives F h (by omega) k_45 d_Br_age_35 ?_
  refine an_lives F h (by omega) d_Br_age_38 ?_
  refine lv_icmp_ge E1 E2 d_Br_age_39 rfl (fun _ => ?_) (fun hz => absurd ((nI_leI (a := 16) (b := 16) (by omega) (by omega)).mpr (by omega)) hz)
  refine lv_aload_n E1 E2 d_Br_age_66 rfl (lv_at hl 0 rfl) ?_
  refine g_Br_ports F h (by omega) k_38 d_Br_age_67 ?_
  refine lv_astore_n E1 E2 d_Br_age_70 rfl hl (by decide) rfl (fun ls hl => ?_)
  have hl : lv_has ls 5 [(1, .ref (ad 3 b)), (0, .ref (ad 2 b))] := hl
  refine lv_aload_n E1 E2 d_Br_age_71 rfl (lv_at hl 0 rfl) ?_
  refine an_ports F h (by omega) d_Br_age_72 ?_
  refine lv_istore_n E1 E2 d_Br_age_73 rfl hl (by decide) rfl (fun ls hl => ?_)
  have hl : lv_has ls 5 [(2, .int (nI 4)), (1, .ref (ad 3 b)), (0, .ref (ad 2 b))] := hl
  refine lv_iconst (v := 0) E1 E2 d_Br_age_74 (by decide) ?_
  refine lv_istore_n E1 E2 d_Br_age_75 rfl hl (by decide) rfl (fun ls hl => ?_)
  have hl : lv_has ls 5 [(3, .int 0), (2, .int (nI 4)), (1, .ref (ad 3 b)), (0, .ref (ad 2 b))] := hl
  have hs76 : ∀ (Q0 : State → Prop) (k : Nat), k < 4 → ∀ (q : bn_S) (H : Heap) (locs : List Loc) (ls : Array Slot), lv_has ls 5 [(0, .ref (ad 2 b)), (1, .ref (ad 3 b)), (2, .int (nI 4)), (3, .int (nI k))] → bn_H (bn_y D ar ad nf) s.heap H locs q → (∀ (H : Heap) (locs : List Loc) (ls : Array Slot), lv_has ls 5 [(0, .ref (ad 2 b)), (1, .ref (ad 3 b)), (2, .int (nI 4)), (3, .int (nI (k + 1)))] → bn_H (bn_y D ar ad nf) s.heap H locs (bd_Br_age3 b k q) → W p l e { frames := 5, cells := 0, slots := 0, locals := 118 } s m args below meth c H locs 0 0 Q0 (F0 m 76 ls [])) → W p l e { frames := 5, cells := 0, slots := 0, locals := 118 } s m args below meth c H locs 0 0 Q0 (F0 m 76 ls []) := by
    intro Q0 k hkk q H locs ls hl h kk
    refine lv_iload_n E1 E2 d_Br_age_76 rfl (lv_at hl 3 rfl) ?_
    refine lv_iload_n E1 E2 d_Br_age_77 rfl (lv_at hl 2 rfl) ?_
    refine lv_icmp_ge E1 E2 d_Br_age_78 rfl (fun hz => absurd ((nI_leI (a := 4) (b := k) (by omega) (by omega)).mp hz) (by omega)) (fun _ => ?_)
    refine lv_aload_n E1 E2 d_Br_age_81 rfl (lv_at hl 1 rfl) ?_
    refine lv_iload_n E1 E2 d_Br_age_82 rfl (lv_at hl 3 rfl) ?_
    refine al_ports F h (by omega) (i := k) (by omega) d_Br_age_83 ?_
    refine lv_astore E1 E2 d_Br_age_84 hl (by decide) rfl (fun ls hl => ?_)
    have hl : lv_has ls 5 [(4, .ref (ad 6 (4 * b + k))), (0, .ref (ad 2 b)), (1, .ref (ad 3 b)), (2, .int (nI 4)), (3, .int (nI k))] := hl
    refine lv_aload E1 E2 d_Br_age_86 (lv_at hl 0 rfl) ?_
    refine bn_callv F h (bn_runV (n := 0) (As := []) (rest := []) F hml hl.1 h (mm_6 (by omega)) rfl rfl (c_Po_ageWait l D ar ad nf q (4 * b + k) (by omega) _) (bn_goodV k_370 k_371 k_372 k_3 k_373) rfl rfl (by decide) ⟨by decide, by decide⟩ rfl rfl (Nat.le_of_ble_eq_true rfl) d_Br_age_88 ⟨Nat.zero_le _, Nat.zero_le _⟩) (fun H locs h => ?_)
    have h : bn_H (bn_y D ar ad nf) s.heap H locs (o_Po_ageWait q (4 * b + k)) := h
    refine lv_iinc (v := (nI (k + 1))) E1 E2 d_Br_age_91 hl (k := 4) rfl (nI_1 _) (by decide) rfl (fun ls hl => ?_)
    have hl : lv_has ls 5 [(3, .int (nI (k + 1))), (4, .ref (ad 6 (4 * b + k))), (0, .ref (ad 2 b)), (1, .ref (ad 3 b)), (2, .int (nI 4))] := hl
    refine lv_goto E1 E2 d_Br_age_94 rfl ?_
    have hq : (bd_Br_age3 b k q) = (o_Po_ageWait q (4 * b + k)) := rfl
    rw [hq] at kk
    exact kk H locs ls (lv_sub hl [2, 3, 4, 0] rfl) h
  refine hs76 _ 0 (by decide) (it_Br_age3 b (it_Br_age2 b (it_Br_age1 b N 4) 16) 0) _ _ ls (lv_sub hl [3, 2, 1, 0] rfl) h (fun H locs ls hl h => ?_)
  rw [it_Br_age3_s] at h
  refine hs76 _ 1 (by decide) (it_Br_age3 b (it_Br_age2 b (it_Br_age1 b N 4) 16) 1) _ _ ls hl h (fun H locs ls hl h => ?_)
  rw [it_Br_age3_s] at h
  refine hs76 _ 2 (by decide) (it_Br_age3 b (it_Br_age2 b (it_Br_age1 b N 4) 16) 2) _ _ ls hl h (fun H locs ls hl h => ?_)
  rw [it_Br_age3_s] at h
  refine hs76 _ 3 (by decide) (it_Br_age3 b (it_Br_age2 b (it_Br_age1 b N 4) 16) 3) _ _ ls hl h (fun H locs ls hl h => ?_)
  rw [it_Br_age3_s] at h
  have hl : lv_has ls 5 [(0, .ref (ad 2 b)), (1, .ref (ad 3 b)), (2, .int (nI 4)), (3, .int (nI 4))] := hl
  have h : bn_H (bn_y D ar ad nf) s.heap H locs (it_Br_age3 b (it_Br_age2 b (it_Br_age1 b N 4) 16) 4) := h
  refine lv_iload_n E1 E2 d_Br_age_76 rfl (lv_at hl 3 rfl) ?_
  refine lv_iload_n E1 E2 d_Br_age_77 rfl (lv_at hl 2 rfl) ?_
  refine lv_icmp_ge E1 E2 d_Br_age_78 rfl (fun _ => ?_) (fun hz => absurd ((nI_leI (a := 4) (b := 4) (by omega) (by omega)).mpr (by omega)) hz)
  refine lv_aload_n E1 E2 d_Br_age_97 rfl (lv_at hl 0 rfl) ?_
  refine bn_callv F h (bn_runV (n := 0) (As := []) (rest := []) F hml hl.1 h (mm_2 (by omega)) rfl rfl (c_Br_compute l D ar ad nf (it_Br_age3 b (it_Br_age2 b (it_Br_age1 b N 4) 16) 4) b (by omega) _) (bn_goodV k_379 k_249 k_250 k_2 k_251) rfl rfl (by decide) ⟨by decide, by decide⟩ rfl rfl (Nat.le_of_ble_eq_true rfl) d_Br_age_98 ⟨Nat.zero_le _, Nat.zero_le _⟩) (fun H locs h => ?_)
  have h : bn_H (bn_y D ar ad nf) s.heap H locs (o_Br_compute (it_Br_age3 b (it_Br_age2 b (it_Br_age1 b N 4) 16) 4) b) := h
  have hq : o_Br_age N b = (o_Br_compute (it_Br_age3 b (it_Br_age2 b (it_Br_age1 b N 4) 16) 4) b) := rfl
  exact bn_retv F hr hk h hq.symm d_Br_age_101
end
section
/-! contracts of the class, written by wip/whole/gen_class.py -/
theorem bn_pl {nf : Nat} {N : bn_S} {b sr vl : Nat} (hN : bn_wf nf N) (h : ¬ r_Br_placeOf N b sr vl < 0) : r_Br_placeOf N b sr vl = nI (r_Br_placeOf N b sr vl).toNatClampNeg ∧ (r_Br_placeOf N b sr vl).toNatClampNeg < 4 := by
  have h1 := wf_place hN b (sr * 2 + vl - 1)
  unfold r_Br_placeOf at h ⊢
  split at h
  · exact absurd h (by decide)
  · rename_i h2
    rw [if_neg h2, nI_clamp (by omega)]
    exact ⟨rfl, h1⟩
def o_Br_passTo (N : bn_S) (b : Nat) (pl : Nat) (x : Nat) (f : Nat) : Int32 × bn_S := (if pl = (x % 4) then (0, N) else (if (o_Po_letOut N (4 * b + pl) f).1 = 0 then (0, (o_Po_letOut N (4 * b + pl) f).2) else (1, (o_Po_letOut N (4 * b + pl) f).2)))
set_option maxHeartbeats 4000000 in
set_option maxRecDepth 100000 in
theorem c_Br_passTo (l : Launch) (D : va_G) (ar : Nat → ClassId) (ad : Nat → Nat → Nat) (nf : Nat) (N : bn_S) (b : Nat) (hb : b < 5) (pl : Nat) (hpl : pl < 4) (x : Nat) (hx : x < 20) (f : Nat) (hf : f < nf) : bn_I l y_Br_passTo w_Br_passTo { frames := 3, cells := 0, slots := 0, locals := 66 } (bn_y D ar ad nf) N [.ref (ad 2 b), .int (nI pl), .ref (ad 6 x), .ref (ad 13 f)] (o_Br_passTo N b pl x f).1 (o_Br_passTo N b pl x f).2 := by
  intro sz
  refine bn_start (cc := b_Br_passTo) (maxL := 4) (ret := (Option.some Jvm.ClassFile.FieldType.int)) (by decide) rfl (Nat.le_of_ble_eq_true rfl) ?_
  intro p e s m args below meth c ls hsz F hml hr hk hl h
  subst hsz
  have E1 := F.1
  have E2 := F.2.1
  have hl : lv_has ls 4 [(0, .ref (ad 2 b)), (1, .int (nI pl)), (2, .ref (ad 6 x)), (3, .ref (ad 13 f))] := hl
  refine lv_iload_n E1 E2 d_Br_passTo_0 rfl (lv_at hl 1 rfl) ?_
  refine lv_aload_n E1 E2 d_Br_passTo_1 rfl (lv_at hl 2 rfl) ?_
  refine g_Po_number F h (by omega) k_134 d_Br_passTo_2 ?_
  refine lv_icmp_eq E1 E2 d_Br_passTo_5 rfl (fun h1 => ?_) (fun h1 => ?_)
  · have h1 : pl = (x % 4) := ((nI_eq (a := pl) (b := (x % 4)) (by omega) (by omega)).mp h1)
    refine lv_iconst (v := 0) E1 E2 d_Br_passTo_25 (by decide) ?_
    have hq : o_Br_passTo N b pl x f = (0, N) := if_pos h1
    exact bn_reti2 F hr hk h hq d_Br_passTo_26
  · have h1 : ¬ (pl = (x % 4)) := (fun hw => h1 ((nI_eq (a := pl) (b := (x % 4)) (by omega) (by omega)).mpr hw))
    refine lv_aload_n E1 E2 d_Br_passTo_8 rfl (lv_at hl 0 rfl) ?_
    refine g_Br_ports F h (by omega) k_38 d_Br_passTo_9 ?_
    refine lv_iload_n E1 E2 d_Br_passTo_12 rfl (lv_at hl 1 rfl) ?_
    refine al_ports F h (by omega) (i := pl) (by omega) d_Br_passTo_13 ?_
    refine lv_aload_n E1 E2 d_Br_passTo_14 rfl (lv_at hl 3 rfl) ?_
    refine bn_calli F h (bn_runV (n := 1) (As := [.ref (ad 13 f)]) (rest := []) F hml hl.1 h (mm_6 (by omega)) rfl rfl (c_Po_letOut l D ar ad nf N (4 * b + pl) (by omega) f (by omega) _) (bn_goodV k_629 k_630 k_631 k_3 k_632) rfl rfl (by decide) ⟨by decide, by decide⟩ rfl rfl (Nat.le_of_ble_eq_true rfl) d_Br_passTo_15 ⟨Nat.zero_le _, Nat.zero_le _⟩) (fun H locs h => ?_)
    have h : bn_H (bn_y D ar ad nf) s.heap H locs (o_Po_letOut N (4 * b + pl) f).2 := h
    refine lv_if_eq E1 E2 d_Br_passTo_18 rfl (fun h2 => ?_) (fun h2 => ?_)
    · have h2 : (o_Po_letOut N (4 * b + pl) f).1 = 0 := h2
      refine lv_iconst (v := 0) E1 E2 d_Br_passTo_25 (by decide) ?_
      have hq : o_Br_passTo N b pl x f = (0, (o_Po_letOut N (4 * b + pl) f).2) := Eq.trans (if_neg h1) (if_pos h2)
      exact bn_reti2 F hr hk h hq d_Br_passTo_26
    · have h2 : ¬ ((o_Po_letOut N (4 * b + pl) f).1 = 0) := h2
      refine lv_iconst (v := 1) E1 E2 d_Br_passTo_21 (by decide) ?_
      refine lv_goto E1 E2 d_Br_passTo_22 rfl ?_
      have hq : o_Br_passTo N b pl x f = (1, (o_Po_letOut N (4 * b + pl) f).2) := Eq.trans (if_neg h1) (if_neg h2)
      exact bn_reti2 F hr hk h hq d_Br_passTo_26
def bd_Br_flood (b : Nat) (x : Nat) (f : Nat) (k : Nat) (q : Int32 × bn_S) : Int32 × bn_S := (if 4 * b + k = x then (q.1, q.2) else (if (o_Po_letOut (q.2) (4 * b + k) f).1 = 0 then (q.1, (o_Po_letOut (q.2) (4 * b + k) f).2) else (q.1 + 1, (o_Po_letOut (q.2) (4 * b + k) f).2)))
def it_Br_flood (b : Nat) (x : Nat) (f : Nat) (q0 : Int32 × bn_S) : Nat → Int32 × bn_S
  | 0 => q0
  | k + 1 => bd_Br_flood b x f k (it_Br_flood b x f q0 k)
theorem it_Br_flood_s (b : Nat) (x : Nat) (f : Nat) (q0 : Int32 × bn_S) (k : Nat) : bd_Br_flood b x f k (it_Br_flood b x f q0 k) = it_Br_flood b x f q0 (k + 1) := rfl
def o_Br_flood (N : bn_S) (b : Nat) (x : Nat) (f : Nat) : Int32 × bn_S := ((it_Br_flood b x f (0, N) 4).1, (it_Br_flood b x f (0, N) 4).2)
set_option maxHeartbeats 4000000 in
set_option maxRecDepth 100000 in
theorem c_Br_flood (l : Launch) (D : va_G) (ar : Nat → ClassId) (ad : Nat → Nat → Nat) (nf : Nat) (N : bn_S) (b : Nat) (hb : b < 5) (x : Nat) (hx : x < 20) (f : Nat) (hf : f < nf) : bn_I l y_Br_flood w_Br_flood { frames := 3, cells := 0, slots := 0, locals := 66 } (bn_y D ar ad nf) N [.ref (ad 2 b), .ref (ad 6 x), .ref (ad 13 f)] (o_Br_flood N b x f).1 (o_Br_flood N b x f).2 := by
  intro sz
  refine bn_start (cc := b_Br_flood) (maxL := 8) (ret := (Option.some Jvm.ClassFile.FieldType.int)) (by decide) rfl (Nat.le_of_ble_eq_true rfl) ?_
  intro p e s m args below meth c ls hsz F hml hr hk hl h
  subst hsz
  have E1 := F.1
  have E2 := F.2.1
  have hl : lv_has ls 8 [(0, .ref (ad 2 b)), (1, .ref (ad 6 x)), (2, .ref (ad 13 f))] := hl
  refine lv_iconst (v := 0) E1 E2 d_Br_flood_0 (by decide) ?_
  refine lv_istore_n E1 E2 d_Br_flood_1 rfl hl (by decide) rfl (fun ls hl => ?_)
  have hl : lv_has ls 8 [(3, .int 0), (0, .ref (ad 2 b)), (1, .ref (ad 6 x)), (2, .ref (ad 13 f))] := hl
  refine lv_aload_n E1 E2 d_Br_flood_2 rfl (lv_at hl 1 rfl) ?_
  refine g_Br_ports F h (by omega) k_38 d_Br_flood_3 ?_
  refine lv_astore E1 E2 d_Br_flood_6 hl (by decide) rfl (fun ls hl => ?_)
  have hl : lv_has ls 8 [(4, .ref (ad 3 b)), (3, .int 0), (0, .ref (ad 2 b)), (1, .ref (ad 6 x)), (2, .ref (ad 13 f))] := hl
  refine lv_aload E1 E2 d_Br_flood_8 (lv_at hl 0 rfl) ?_
  refine an_ports F h (by omega) d_Br_flood_10 ?_
  refine lv_istore E1 E2 d_Br_flood_11 hl (by decide) rfl (fun ls hl => ?_)
  have hl : lv_has ls 8 [(5, .int (nI 4)), (4, .ref (ad 3 b)), (3, .int 0), (0, .ref (ad 2 b)), (1, .ref (ad 6 x)), (2, .ref (ad 13 f))] := hl
  refine lv_iconst (v := 0) E1 E2 d_Br_flood_13 (by decide) ?_
  refine lv_istore E1 E2 d_Br_flood_14 hl (by decide) rfl (fun ls hl => ?_)
  have hl : lv_has ls 8 [(6, .int 0), (5, .int (nI 4)), (4, .ref (ad 3 b)), (3, .int 0), (0, .ref (ad 2 b)), (1, .ref (ad 6 x)), (2, .ref (ad 13 f))] := hl
  have hs16 : ∀ (Q0 : State → Prop) (k : Nat), k < 4 → ∀ (q : Int32 × bn_S) (H : Heap) (locs : List Loc) (ls : Array Slot), lv_has ls 8 [(0, .ref (ad 2 b)), (1, .ref (ad 6 x)), (2, .ref (ad 13 f)), (3, .int (q.1)), (4, .ref (ad 3 b)), (5, .int (nI 4)), (6, .int (nI k))] → bn_H (bn_y D ar ad nf) s.heap H locs q.2 → (∀ (H : Heap) (locs : List Loc) (ls : Array Slot), lv_has ls 8 [(0, .ref (ad 2 b)), (1, .ref (ad 6 x)), (2, .ref (ad 13 f)), (3, .int ((bd_Br_flood b x f k q).1)), (4, .ref (ad 3 b)), (5, .int (nI 4)), (6, .int (nI (k + 1)))] → bn_H (bn_y D ar ad nf) s.heap H locs (bd_Br_flood b x f k q).2 → W p l e { frames := 3, cells := 0, slots := 0, locals := 66 } s m args below meth c H locs 0 0 Q0 (F0 m 16 ls [])) → W p l e { frames := 3, cells := 0, slots := 0, locals := 66 } s m args below meth c H locs 0 0 Q0 (F0 m 16 ls []) := by
    intro Q0 k hkk q H locs ls hl h kk
    refine lv_iload E1 E2 d_Br_flood_16 (lv_at hl 6 rfl) ?_
    refine lv_iload E1 E2 d_Br_flood_18 (lv_at hl 5 rfl) ?_
    refine lv_icmp_ge E1 E2 d_Br_flood_20 rfl (fun hz => absurd ((nI_leI (a := 4) (b := k) (by omega) (by omega)).mp hz) (by omega)) (fun _ => ?_)
    refine lv_aload E1 E2 d_Br_flood_23 (lv_at hl 4 rfl) ?_
    refine lv_iload E1 E2 d_Br_flood_25 (lv_at hl 6 rfl) ?_
    refine al_ports F h (by omega) (i := k) (by omega) d_Br_flood_27 ?_
    refine lv_astore E1 E2 d_Br_flood_28 hl (by decide) rfl (fun ls hl => ?_)
    have hl : lv_has ls 8 [(7, .ref (ad 6 (4 * b + k))), (0, .ref (ad 2 b)), (1, .ref (ad 6 x)), (2, .ref (ad 13 f)), (3, .int (q.1)), (4, .ref (ad 3 b)), (5, .int (nI 4)), (6, .int (nI k))] := hl
    refine lv_aload E1 E2 d_Br_flood_30 (lv_at hl 0 rfl) ?_
    refine lv_aload_n E1 E2 d_Br_flood_32 rfl (lv_at hl 2 rfl) ?_
    refine lv_acmp_eq (rx := (some (ad 6 (4 * b + k)))) (ry := (some (ad 6 x))) E1 E2 d_Br_flood_33 rfl (fun h1 => ?_) (fun h1 => ?_)
    · have h1 : 4 * b + k = x := ((bn_inj h (mm_6 (by omega)) (mm_6 (by omega))).mp h1)
      refine lv_iinc (v := (nI (k + 1))) E1 E2 d_Br_flood_48 hl (k := 7) rfl (nI_1 _) (by decide) rfl (fun ls hl => ?_)
      have hl : lv_has ls 8 [(6, .int (nI (k + 1))), (7, .ref (ad 6 (4 * b + k))), (0, .ref (ad 2 b)), (1, .ref (ad 6 x)), (2, .ref (ad 13 f)), (3, .int (q.1)), (4, .ref (ad 3 b)), (5, .int (nI 4))] := hl
      refine lv_goto E1 E2 d_Br_flood_51 rfl ?_
      have hq : (bd_Br_flood b x f k q) = (q.1, q.2) := if_pos h1
      rw [hq] at kk
      exact kk H locs ls (lv_sub hl [2, 3, 4, 5, 6, 7, 0] rfl) h
    · have h1 : ¬ (4 * b + k = x) := (fun hw => h1 ((bn_inj h (mm_6 (by omega)) (mm_6 (by omega))).mpr hw))
      refine lv_aload E1 E2 d_Br_flood_36 (lv_at hl 0 rfl) ?_
      refine lv_aload_n E1 E2 d_Br_flood_38 rfl (lv_at hl 3 rfl) ?_
      refine bn_calli F h (bn_runV (n := 1) (As := [.ref (ad 13 f)]) (rest := []) F hml hl.1 h (mm_6 (by omega)) rfl rfl (c_Po_letOut l D ar ad nf (q.2) (4 * b + k) (by omega) f (by omega) _) (bn_goodV k_629 k_630 k_631 k_3 k_632) rfl rfl (by decide) ⟨by decide, by decide⟩ rfl rfl (Nat.le_of_ble_eq_true rfl) d_Br_flood_39 ⟨Nat.zero_le _, Nat.zero_le _⟩) (fun H locs h => ?_)
      have h : bn_H (bn_y D ar ad nf) s.heap H locs (o_Po_letOut (q.2) (4 * b + k) f).2 := h
      refine lv_if_eq E1 E2 d_Br_flood_42 rfl (fun h2 => ?_) (fun h2 => ?_)
      · have h2 : (o_Po_letOut (q.2) (4 * b + k) f).1 = 0 := h2
        refine lv_iinc (v := (nI (k + 1))) E1 E2 d_Br_flood_48 hl (k := 7) rfl (nI_1 _) (by decide) rfl (fun ls hl => ?_)
        have hl : lv_has ls 8 [(6, .int (nI (k + 1))), (7, .ref (ad 6 (4 * b + k))), (0, .ref (ad 2 b)), (1, .ref (ad 6 x)), (2, .ref (ad 13 f)), (3, .int (q.1)), (4, .ref (ad 3 b)), (5, .int (nI 4))] := hl
        refine lv_goto E1 E2 d_Br_flood_51 rfl ?_
        have hq : (bd_Br_flood b x f k q) = (q.1, (o_Po_letOut (q.2) (4 * b + k) f).2) := Eq.trans (if_neg h1) (if_pos h2)
        rw [hq] at kk
        exact kk H locs ls (lv_sub hl [2, 3, 4, 5, 6, 7, 0] rfl) h
      · have h2 : ¬ ((o_Po_letOut (q.2) (4 * b + k) f).1 = 0) := h2
        refine lv_iinc (v := (q.1 + 1)) E1 E2 d_Br_flood_45 hl (k := 4) rfl rfl (by decide) rfl (fun ls hl => ?_)
        have hl : lv_has ls 8 [(3, .int (q.1 + 1)), (7, .ref (ad 6 (4 * b + k))), (0, .ref (ad 2 b)), (1, .ref (ad 6 x)), (2, .ref (ad 13 f)), (4, .ref (ad 3 b)), (5, .int (nI 4)), (6, .int (nI k))] := hl
        refine lv_iinc (v := (nI (k + 1))) E1 E2 d_Br_flood_48 hl (k := 7) rfl (nI_1 _) (by decide) rfl (fun ls hl => ?_)
        have hl : lv_has ls 8 [(6, .int (nI (k + 1))), (3, .int (q.1 + 1)), (7, .ref (ad 6 (4 * b + k))), (0, .ref (ad 2 b)), (1, .ref (ad 6 x)), (2, .ref (ad 13 f)), (4, .ref (ad 3 b)), (5, .int (nI 4))] := hl
        refine lv_goto E1 E2 d_Br_flood_51 rfl ?_
        have hq : (bd_Br_flood b x f k q) = (q.1 + 1, (o_Po_letOut (q.2) (4 * b + k) f).2) := Eq.trans (if_neg h1) (if_neg h2)
        rw [hq] at kk
        exact kk H locs ls (lv_sub hl [3, 4, 5, 1, 6, 7, 0] rfl) h
  refine hs16 _ 0 (by decide) (it_Br_flood b x f (0, N) 0) _ _ ls (lv_sub hl [4, 5, 6, 3, 2, 1, 0] rfl) h (fun H locs ls hl h => ?_)
  rw [it_Br_flood_s] at hl h
  refine hs16 _ 1 (by decide) (it_Br_flood b x f (0, N) 1) _ _ ls hl h (fun H locs ls hl h => ?_)
  rw [it_Br_flood_s] at hl h
  refine hs16 _ 2 (by decide) (it_Br_flood b x f (0, N) 2) _ _ ls hl h (fun H locs ls hl h => ?_)
  rw [it_Br_flood_s] at hl h
  refine hs16 _ 3 (by decide) (it_Br_flood b x f (0, N) 3) _ _ ls hl h (fun H locs ls hl h => ?_)
  rw [it_Br_flood_s] at hl h
  have hl : lv_has ls 8 [(0, .ref (ad 2 b)), (1, .ref (ad 6 x)), (2, .ref (ad 13 f)), (3, .int ((it_Br_flood b x f (0, N) 4).1)), (4, .ref (ad 3 b)), (5, .int (nI 4)), (6, .int (nI 4))] := hl
  have h : bn_H (bn_y D ar ad nf) s.heap H locs (it_Br_flood b x f (0, N) 4).2 := h
  refine lv_iload E1 E2 d_Br_flood_16 (lv_at hl 6 rfl) ?_
  refine lv_iload E1 E2 d_Br_flood_18 (lv_at hl 5 rfl) ?_
  refine lv_icmp_ge E1 E2 d_Br_flood_20 rfl (fun _ => ?_) (fun hz => absurd ((nI_leI (a := 4) (b := 4) (by omega) (by omega)).mpr (by omega)) hz)
  refine lv_iload_n E1 E2 d_Br_flood_54 rfl (lv_at hl 3 rfl) ?_
  have hq : o_Br_flood N b x f = ((it_Br_flood b x f (0, N) 4).1, (it_Br_flood b x f (0, N) 4).2) := rfl
  exact bn_reti2 F hr hk h hq d_Br_flood_55
def o_Br_hearFrame (N : bn_S) (b : Nat) (x : Nat) (g : Option Nat) : Int32 × bn_S := (bn_oc g (0, N) (fun g_ => (if N.1 10 x = 0 then (0, N) else (if r_Po_carries N x (nI (N.2.1 12 g_)) = 0 then (0, N) else (if (o_Br_learn N b (N.2.1 10 g_) (N.2.1 12 g_) (x % 4)).1 10 x = 2 then (if ((o_Br_learn N b (N.2.1 10 g_) (N.2.1 12 g_) (x % 4)).2.1 11 g_) = 9 then (0, (o_Br_learn N b (N.2.1 10 g_) (N.2.1 12 g_) (x % 4))) else (if 8 ≤ ((o_Br_learn N b (N.2.1 10 g_) (N.2.1 12 g_) (x % 4)).2.1 11 g_) then ((o_Br_flood (o_Br_learn N b (N.2.1 10 g_) (N.2.1 12 g_) (x % 4)) b x g_).1, (o_Br_flood (o_Br_learn N b (N.2.1 10 g_) (N.2.1 12 g_) (x % 4)) b x g_).2) else (if 0 ≤ r_Br_placeOf (o_Br_learn N b (N.2.1 10 g_) (N.2.1 12 g_) (x % 4)) b ((o_Br_learn N b (N.2.1 10 g_) (N.2.1 12 g_) (x % 4)).2.1 11 g_) ((o_Br_learn N b (N.2.1 10 g_) (N.2.1 12 g_) (x % 4)).2.1 12 g_) then ((o_Br_passTo (o_Br_learn N b (N.2.1 10 g_) (N.2.1 12 g_) (x % 4)) b ((r_Br_placeOf (o_Br_learn N b (N.2.1 10 g_) (N.2.1 12 g_) (x % 4)) b ((o_Br_learn N b (N.2.1 10 g_) (N.2.1 12 g_) (x % 4)).2.1 11 g_) ((o_Br_learn N b (N.2.1 10 g_) (N.2.1 12 g_) (x % 4)).2.1 12 g_)).toNatClampNeg) x g_).1, (o_Br_passTo (o_Br_learn N b (N.2.1 10 g_) (N.2.1 12 g_) (x % 4)) b ((r_Br_placeOf (o_Br_learn N b (N.2.1 10 g_) (N.2.1 12 g_) (x % 4)) b ((o_Br_learn N b (N.2.1 10 g_) (N.2.1 12 g_) (x % 4)).2.1 11 g_) ((o_Br_learn N b (N.2.1 10 g_) (N.2.1 12 g_) (x % 4)).2.1 12 g_)).toNatClampNeg) x g_).2) else ((o_Br_flood (o_Br_learn N b (N.2.1 10 g_) (N.2.1 12 g_) (x % 4)) b x g_).1, (o_Br_flood (o_Br_learn N b (N.2.1 10 g_) (N.2.1 12 g_) (x % 4)) b x g_).2)))) else (0, (o_Br_learn N b (N.2.1 10 g_) (N.2.1 12 g_) (x % 4))))))))
set_option maxHeartbeats 4000000 in
set_option maxRecDepth 100000 in
theorem c_Br_hearFrame (l : Launch) (D : va_G) (ar : Nat → ClassId) (ad : Nat → Nat → Nat) (nf : Nat) (N : bn_S) (b : Nat) (hb : b < 5) (x : Nat) (hx : x < 20) (g : Option Nat) (hg : ∀ y, g = some y → y < nf) : bn_I l y_Br_hearFrame w_Br_hearFrame { frames := 4, cells := 0, slots := 0, locals := 93 } (bn_y D ar ad nf) N [.ref (ad 2 b), .ref (ad 6 x), va_rf (g.map (ad 13))] (o_Br_hearFrame N b x g).1 (o_Br_hearFrame N b x g).2 := by
  intro sz
  cases g with
  | none =>
    refine bn_start (cc := b_Br_hearFrame) (maxL := 4) (ret := (Option.some Jvm.ClassFile.FieldType.int)) (by decide) rfl (Nat.le_of_ble_eq_true rfl) ?_
    intro p e s m args below meth c ls hsz F hml hr hk hl h
    subst hsz
    have E1 := F.1
    have E2 := F.2.1
    have hl : lv_has ls 4 [(0, .ref (ad 2 b)), (1, .ref (ad 6 x)), (2, .null)] := hl
    refine lv_aload_nN E1 E2 d_Br_hearFrame_0 rfl (lv_at hl 2 rfl) ?_
    refine lv_ifnullN E1 E2 d_Br_hearFrame_1 rfl ?_
    refine lv_iconst (v := 0) E1 E2 d_Br_hearFrame_22 (by decide) ?_
    have hq : o_Br_hearFrame N b x none = (0, N) := bn_oc_n rfl
    exact bn_reti2 F hr hk h hq d_Br_hearFrame_23
  | some g_ =>
    have hg_ := hg g_ rfl
    refine bn_start (cc := b_Br_hearFrame) (maxL := 4) (ret := (Option.some Jvm.ClassFile.FieldType.int)) (by decide) rfl (Nat.le_of_ble_eq_true rfl) ?_
    intro p e s m args below meth c ls hsz F hml hr hk hl h
    subst hsz
    have E1 := F.1
    have E2 := F.2.1
    have hl : lv_has ls 4 [(0, .ref (ad 2 b)), (1, .ref (ad 6 x)), (2, .ref (ad 13 g_))] := hl
    refine lv_aload_n E1 E2 d_Br_hearFrame_0 rfl (lv_at hl 2 rfl) ?_
    refine lv_ifnull E1 E2 d_Br_hearFrame_1 ?_
    refine lv_aload_n E1 E2 d_Br_hearFrame_4 rfl (lv_at hl 1 rfl) ?_
    refine g_Po_state F h (by omega) k_158 (v := N.1 10 x) rfl d_Br_hearFrame_5 ?_
    refine lv_if_eq E1 E2 d_Br_hearFrame_8 rfl (fun h1 => ?_) (fun h1 => ?_)
    · have h1 : N.1 10 x = 0 := h1
      refine lv_iconst (v := 0) E1 E2 d_Br_hearFrame_22 (by decide) ?_
      have hq : o_Br_hearFrame N b x (some g_) = (0, N) := Eq.trans (bn_oc_s rfl) (if_pos h1)
      exact bn_reti2 F hr hk h hq d_Br_hearFrame_23
    · have h1 : ¬ (N.1 10 x = 0) := h1
      refine lv_aload_n E1 E2 d_Br_hearFrame_11 rfl (lv_at hl 1 rfl) ?_
      refine lv_aload_n E1 E2 d_Br_hearFrame_12 rfl (lv_at hl 2 rfl) ?_
      refine g_Fr_vlan F h (by omega) k_601 (v := N.2.1 12 g_) rfl d_Br_hearFrame_13 ?_
      refine bn_calli F h (bn_runV (n := 1) (As := [.int (nI (N.2.1 12 g_))]) (rest := []) F hml hl.1 h (mm_6 (by omega)) rfl rfl (c_Po_carries l D ar ad nf N x (by omega) (nI (N.2.1 12 g_)) _) (bn_goodV k_616 k_617 k_618 k_3 k_619) rfl rfl (by decide) ⟨by decide, by decide⟩ rfl rfl (Nat.le_of_ble_eq_true rfl) d_Br_hearFrame_16 ⟨Nat.zero_le _, Nat.zero_le _⟩) (fun H locs h => ?_)
      refine lv_if_ne E1 E2 d_Br_hearFrame_19 rfl (fun h2 => ?_) (fun h2 => ?_)
      · have h2 : ¬ (r_Po_carries N x (nI (N.2.1 12 g_)) = 0) := h2
        refine lv_aload_n E1 E2 d_Br_hearFrame_24 rfl (lv_at hl 0 rfl) ?_
        refine lv_aload_n E1 E2 d_Br_hearFrame_25 rfl (lv_at hl 2 rfl) ?_
        refine g_Fr_source F h (by omega) k_594 (v := N.2.1 10 g_) rfl d_Br_hearFrame_26 ?_
        refine lv_aload_n E1 E2 d_Br_hearFrame_29 rfl (lv_at hl 2 rfl) ?_
        refine g_Fr_vlan F h (by omega) k_601 (v := N.2.1 12 g_) rfl d_Br_hearFrame_30 ?_
        refine lv_aload_n E1 E2 d_Br_hearFrame_33 rfl (lv_at hl 1 rfl) ?_
        refine g_Po_number F h (by omega) k_134 d_Br_hearFrame_34 ?_
        have hwsrc : N.2.1 10 g_ < 8 := wf_src h.2.2.2 g_
        have hwfvlan : N.2.1 12 g_ < 3 := wf_fvlan h.2.2.2 g_
        have hwfvlan0 : 1 ≤ N.2.1 12 g_ := wf_fvlan_lo h.2.2.2 g_
        refine bn_callv F h (bn_runV (n := 3) (As := [.int (nI (N.2.1 10 g_)), .int (nI (N.2.1 12 g_)), .int (nI (x % 4))]) (rest := []) F hml hl.1 h (mm_2 (by omega)) rfl rfl (c_Br_learn l D ar ad nf N b (by omega) (N.2.1 10 g_) (by omega) (N.2.1 12 g_) (by omega) (by omega) (x % 4) (by omega) _) (bn_goodV k_620 k_622 ks_Br_learn k_2 k_623) rfl rfl (by decide) ⟨by decide, by decide⟩ rfl rfl (Nat.le_of_ble_eq_true rfl) d_Br_hearFrame_37 ⟨Nat.zero_le _, Nat.zero_le _⟩) (fun H locs h => ?_)
        have h : bn_H (bn_y D ar ad nf) s.heap H locs (o_Br_learn N b (N.2.1 10 g_) (N.2.1 12 g_) (x % 4)) := h
        refine lv_aload_n E1 E2 d_Br_hearFrame_40 rfl (lv_at hl 1 rfl) ?_
        refine g_Po_state F h (by omega) k_158 (v := (o_Br_learn N b (N.2.1 10 g_) (N.2.1 12 g_) (x % 4)).1 10 x) rfl d_Br_hearFrame_41 ?_
        refine lv_iconst (v := 2) E1 E2 d_Br_hearFrame_44 (by decide) ?_
        refine lv_icmp_ne E1 E2 d_Br_hearFrame_45 rfl (fun h3 => ?_) (fun h3 => ?_)
        · have h3 : ¬ ((o_Br_learn N b (N.2.1 10 g_) (N.2.1 12 g_) (x % 4)).1 10 x = 2) := h3
          refine lv_iconst (v := 0) E1 E2 d_Br_hearFrame_57 (by decide) ?_
          have hq : o_Br_hearFrame N b x (some g_) = (0, (o_Br_learn N b (N.2.1 10 g_) (N.2.1 12 g_) (x % 4))) := Eq.trans (bn_oc_s rfl) (Eq.trans (if_neg h1) (Eq.trans (if_neg h2) (if_neg h3)))
          exact bn_reti2 F hr hk h hq d_Br_hearFrame_58
        · have h3 : (o_Br_learn N b (N.2.1 10 g_) (N.2.1 12 g_) (x % 4)).1 10 x = 2 := h3
          refine lv_aload_n E1 E2 d_Br_hearFrame_48 rfl (lv_at hl 2 rfl) ?_
          refine g_Fr_destination F h (by omega) k_597 (v := (o_Br_learn N b (N.2.1 10 g_) (N.2.1 12 g_) (x % 4)).2.1 11 g_) rfl d_Br_hearFrame_49 ?_
          refine lv_bipush (v := 9) E1 E2 d_Br_hearFrame_52 (by decide) ?_
          have hwsrc : N.2.1 10 g_ < 8 := wf_src h.2.2.2 g_
          have hwfvlan : N.2.1 12 g_ < 3 := wf_fvlan h.2.2.2 g_
          have hwfvlan0 : 1 ≤ N.2.1 12 g_ := wf_fvlan_lo h.2.2.2 g_
          have hwdst : (o_Br_learn N b (N.2.1 10 g_) (N.2.1 12 g_) (x % 4)).2.1 11 g_ < 10 := wf_dst h.2.2.2 g_
          refine lv_icmp_ne E1 E2 d_Br_hearFrame_54 rfl (fun h4 => ?_) (fun h4 => ?_)
          · have h4 : ¬ (((o_Br_learn N b (N.2.1 10 g_) (N.2.1 12 g_) (x % 4)).2.1 11 g_) = 9) := (fun hw => h4 ((nI_eq (a := (o_Br_learn N b (N.2.1 10 g_) (N.2.1 12 g_) (x % 4)).2.1 11 g_) (b := 9) (by omega) (by omega)).mpr hw))
            refine lv_aload_n E1 E2 d_Br_hearFrame_59 rfl (lv_at hl 2 rfl) ?_
            refine g_Fr_destination F h (by omega) k_597 (v := (o_Br_learn N b (N.2.1 10 g_) (N.2.1 12 g_) (x % 4)).2.1 11 g_) rfl d_Br_hearFrame_60 ?_
            refine lv_bipush (v := 8) E1 E2 d_Br_hearFrame_63 (by decide) ?_
            have hwsrc : N.2.1 10 g_ < 8 := wf_src h.2.2.2 g_
            have hwfvlan : N.2.1 12 g_ < 3 := wf_fvlan h.2.2.2 g_
            have hwfvlan0 : 1 ≤ N.2.1 12 g_ := wf_fvlan_lo h.2.2.2 g_
            have hwdst : (o_Br_learn N b (N.2.1 10 g_) (N.2.1 12 g_) (x % 4)).2.1 11 g_ < 10 := wf_dst h.2.2.2 g_
            refine lv_icmp_ge E1 E2 d_Br_hearFrame_65 rfl (fun h5 => ?_) (fun h5 => ?_)
            · have h5 : 8 ≤ ((o_Br_learn N b (N.2.1 10 g_) (N.2.1 12 g_) (x % 4)).2.1 11 g_) := ((nI_leI (a := 8) (b := (o_Br_learn N b (N.2.1 10 g_) (N.2.1 12 g_) (x % 4)).2.1 11 g_) (by omega) (by omega)).mp h5)
              refine lv_iconst (v := (-1)) E1 E2 d_Br_hearFrame_83 (by decide) ?_
              refine lv_istore_n E1 E2 d_Br_hearFrame_84 rfl hl (by decide) rfl (fun ls hl => ?_)
              have hl : lv_has ls 4 [(3, .int (-1)), (0, .ref (ad 2 b)), (1, .ref (ad 6 x)), (2, .ref (ad 13 g_))] := hl
              refine lv_iload_n E1 E2 d_Br_hearFrame_85 rfl (lv_at hl 0 rfl) ?_
              refine lv_if_ge E1 E2 d_Br_hearFrame_86 rfl (fun hz => absurd hz (by decide)) (fun _ => ?_)
              refine lv_aload_n E1 E2 d_Br_hearFrame_89 rfl (lv_at hl 1 rfl) ?_
              refine lv_aload_n E1 E2 d_Br_hearFrame_90 rfl (lv_at hl 2 rfl) ?_
              refine lv_aload_n E1 E2 d_Br_hearFrame_91 rfl (lv_at hl 3 rfl) ?_
              refine bn_calli F h (bn_runV (n := 2) (As := [.ref (ad 6 x), .ref (ad 13 g_)]) (rest := []) F hml hl.1 h (mm_2 (by omega)) rfl rfl (c_Br_flood l D ar ad nf (o_Br_learn N b (N.2.1 10 g_) (N.2.1 12 g_) (x % 4)) b (by omega) x (by omega) g_ (by omega) _) (bn_goodV k_625 k_627 ks_Br_flood k_2 k_628) rfl rfl (by decide) ⟨by decide, by decide⟩ rfl rfl (Nat.le_of_ble_eq_true rfl) d_Br_hearFrame_92 ⟨Nat.zero_le _, Nat.zero_le _⟩) (fun H locs h => ?_)
              have h : bn_H (bn_y D ar ad nf) s.heap H locs (o_Br_flood (o_Br_learn N b (N.2.1 10 g_) (N.2.1 12 g_) (x % 4)) b x g_).2 := h
              refine lv_goto E1 E2 d_Br_hearFrame_95 rfl ?_
              have hq : o_Br_hearFrame N b x (some g_) = ((o_Br_flood (o_Br_learn N b (N.2.1 10 g_) (N.2.1 12 g_) (x % 4)) b x g_).1, (o_Br_flood (o_Br_learn N b (N.2.1 10 g_) (N.2.1 12 g_) (x % 4)) b x g_).2) := Eq.trans (bn_oc_s rfl) (Eq.trans (if_neg h1) (Eq.trans (if_neg h2) (Eq.trans (if_pos h3) (Eq.trans (if_neg h4) (if_pos h5)))))
              exact bn_reti2 F hr hk h hq d_Br_hearFrame_105
            · have h5 : ¬ (8 ≤ ((o_Br_learn N b (N.2.1 10 g_) (N.2.1 12 g_) (x % 4)).2.1 11 g_)) := (fun hw => h5 ((nI_leI (a := 8) (b := (o_Br_learn N b (N.2.1 10 g_) (N.2.1 12 g_) (x % 4)).2.1 11 g_) (by omega) (by omega)).mpr hw))
              refine lv_aload_n E1 E2 d_Br_hearFrame_68 rfl (lv_at hl 0 rfl) ?_
              refine lv_aload_n E1 E2 d_Br_hearFrame_69 rfl (lv_at hl 2 rfl) ?_
              refine g_Fr_destination F h (by omega) k_597 (v := (o_Br_learn N b (N.2.1 10 g_) (N.2.1 12 g_) (x % 4)).2.1 11 g_) rfl d_Br_hearFrame_70 ?_
              refine lv_aload_n E1 E2 d_Br_hearFrame_73 rfl (lv_at hl 2 rfl) ?_
              refine g_Fr_vlan F h (by omega) k_601 (v := (o_Br_learn N b (N.2.1 10 g_) (N.2.1 12 g_) (x % 4)).2.1 12 g_) rfl d_Br_hearFrame_74 ?_
              have hwsrc : N.2.1 10 g_ < 8 := wf_src h.2.2.2 g_
              have hwfvlan : N.2.1 12 g_ < 3 := wf_fvlan h.2.2.2 g_
              have hwfvlan0 : 1 ≤ N.2.1 12 g_ := wf_fvlan_lo h.2.2.2 g_
              have hwdst : (o_Br_learn N b (N.2.1 10 g_) (N.2.1 12 g_) (x % 4)).2.1 11 g_ < 10 := wf_dst h.2.2.2 g_
              have hwsrc : N.2.1 10 g_ < 8 := wf_src h.2.2.2 g_
              have hwfvlan : N.2.1 12 g_ < 3 := wf_fvlan h.2.2.2 g_
              have hwfvlan0 : 1 ≤ N.2.1 12 g_ := wf_fvlan_lo h.2.2.2 g_
              have hwfvlan : (o_Br_learn N b (N.2.1 10 g_) (N.2.1 12 g_) (x % 4)).2.1 12 g_ < 3 := wf_fvlan h.2.2.2 g_
              have hwfvlan0 : 1 ≤ (o_Br_learn N b (N.2.1 10 g_) (N.2.1 12 g_) (x % 4)).2.1 12 g_ := wf_fvlan_lo h.2.2.2 g_
              refine bn_calli F h (bn_runV (n := 2) (As := [.int (nI ((o_Br_learn N b (N.2.1 10 g_) (N.2.1 12 g_) (x % 4)).2.1 11 g_)), .int (nI ((o_Br_learn N b (N.2.1 10 g_) (N.2.1 12 g_) (x % 4)).2.1 12 g_))]) (rest := []) F hml hl.1 h (mm_2 (by omega)) rfl rfl (c_Br_placeOf l D ar ad nf (o_Br_learn N b (N.2.1 10 g_) (N.2.1 12 g_) (x % 4)) b (by omega) ((o_Br_learn N b (N.2.1 10 g_) (N.2.1 12 g_) (x % 4)).2.1 11 g_) (by omega) ((o_Br_learn N b (N.2.1 10 g_) (N.2.1 12 g_) (x % 4)).2.1 12 g_) (by omega) (by omega) _) (bn_goodV k_624 k_424 k_425 k_2 k_426) rfl rfl (by decide) ⟨by decide, by decide⟩ rfl rfl (Nat.le_of_ble_eq_true rfl) d_Br_hearFrame_77 ⟨Nat.zero_le _, Nat.zero_le _⟩) (fun H locs h => ?_)
              refine lv_goto E1 E2 d_Br_hearFrame_80 rfl ?_
              refine lv_istore_n E1 E2 d_Br_hearFrame_84 rfl hl (by decide) rfl (fun ls hl => ?_)
              have hl : lv_has ls 4 [(3, .int (r_Br_placeOf (o_Br_learn N b (N.2.1 10 g_) (N.2.1 12 g_) (x % 4)) b ((o_Br_learn N b (N.2.1 10 g_) (N.2.1 12 g_) (x % 4)).2.1 11 g_) ((o_Br_learn N b (N.2.1 10 g_) (N.2.1 12 g_) (x % 4)).2.1 12 g_))), (0, .ref (ad 2 b)), (1, .ref (ad 6 x)), (2, .ref (ad 13 g_))] := hl
              refine lv_iload_n E1 E2 d_Br_hearFrame_85 rfl (lv_at hl 0 rfl) ?_
              refine lv_if_ge E1 E2 d_Br_hearFrame_86 rfl (fun h6 => ?_) (fun h6 => ?_)
              · have h6 : 0 ≤ r_Br_placeOf (o_Br_learn N b (N.2.1 10 g_) (N.2.1 12 g_) (x % 4)) b ((o_Br_learn N b (N.2.1 10 g_) (N.2.1 12 g_) (x % 4)).2.1 11 g_) ((o_Br_learn N b (N.2.1 10 g_) (N.2.1 12 g_) (x % 4)).2.1 12 g_) := h6
                refine lv_aload_n E1 E2 d_Br_hearFrame_98 rfl (lv_at hl 1 rfl) ?_
                refine lv_iload_n E1 E2 d_Br_hearFrame_99 rfl (lv_at hl 0 rfl) ?_
                have hpl := bn_pl h.2.2.2 (bn_ge0 h6)
                have hpl2 := hpl.2
                refine bn_ti hpl.1 ?_
                refine lv_aload_n E1 E2 d_Br_hearFrame_100 rfl (lv_at hl 2 rfl) ?_
                refine lv_aload_n E1 E2 d_Br_hearFrame_101 rfl (lv_at hl 3 rfl) ?_
                have hwsrc : N.2.1 10 g_ < 8 := wf_src h.2.2.2 g_
                have hwfvlan : N.2.1 12 g_ < 3 := wf_fvlan h.2.2.2 g_
                have hwfvlan0 : 1 ≤ N.2.1 12 g_ := wf_fvlan_lo h.2.2.2 g_
                have hwdst : (o_Br_learn N b (N.2.1 10 g_) (N.2.1 12 g_) (x % 4)).2.1 11 g_ < 10 := wf_dst h.2.2.2 g_
                have hwfvlan : (o_Br_learn N b (N.2.1 10 g_) (N.2.1 12 g_) (x % 4)).2.1 12 g_ < 3 := wf_fvlan h.2.2.2 g_
                have hwfvlan0 : 1 ≤ (o_Br_learn N b (N.2.1 10 g_) (N.2.1 12 g_) (x % 4)).2.1 12 g_ := wf_fvlan_lo h.2.2.2 g_
                refine bn_calli F h (bn_runV (n := 3) (As := [.int (nI ((r_Br_placeOf (o_Br_learn N b (N.2.1 10 g_) (N.2.1 12 g_) (x % 4)) b ((o_Br_learn N b (N.2.1 10 g_) (N.2.1 12 g_) (x % 4)).2.1 11 g_) ((o_Br_learn N b (N.2.1 10 g_) (N.2.1 12 g_) (x % 4)).2.1 12 g_)).toNatClampNeg)), .ref (ad 6 x), .ref (ad 13 g_)]) (rest := []) F hml hl.1 h (mm_2 (by omega)) rfl rfl (c_Br_passTo l D ar ad nf (o_Br_learn N b (N.2.1 10 g_) (N.2.1 12 g_) (x % 4)) b (by omega) ((r_Br_placeOf (o_Br_learn N b (N.2.1 10 g_) (N.2.1 12 g_) (x % 4)) b ((o_Br_learn N b (N.2.1 10 g_) (N.2.1 12 g_) (x % 4)).2.1 11 g_) ((o_Br_learn N b (N.2.1 10 g_) (N.2.1 12 g_) (x % 4)).2.1 12 g_)).toNatClampNeg) (by omega) x (by omega) g_ (by omega) _) (bn_goodV k_647 k_649 ks_Br_passTo k_2 k_650) rfl rfl (by decide) ⟨by decide, by decide⟩ rfl rfl (Nat.le_of_ble_eq_true rfl) d_Br_hearFrame_102 ⟨Nat.zero_le _, Nat.zero_le _⟩) (fun H locs h => ?_)
                have h : bn_H (bn_y D ar ad nf) s.heap H locs (o_Br_passTo (o_Br_learn N b (N.2.1 10 g_) (N.2.1 12 g_) (x % 4)) b ((r_Br_placeOf (o_Br_learn N b (N.2.1 10 g_) (N.2.1 12 g_) (x % 4)) b ((o_Br_learn N b (N.2.1 10 g_) (N.2.1 12 g_) (x % 4)).2.1 11 g_) ((o_Br_learn N b (N.2.1 10 g_) (N.2.1 12 g_) (x % 4)).2.1 12 g_)).toNatClampNeg) x g_).2 := h
                have hq : o_Br_hearFrame N b x (some g_) = ((o_Br_passTo (o_Br_learn N b (N.2.1 10 g_) (N.2.1 12 g_) (x % 4)) b ((r_Br_placeOf (o_Br_learn N b (N.2.1 10 g_) (N.2.1 12 g_) (x % 4)) b ((o_Br_learn N b (N.2.1 10 g_) (N.2.1 12 g_) (x % 4)).2.1 11 g_) ((o_Br_learn N b (N.2.1 10 g_) (N.2.1 12 g_) (x % 4)).2.1 12 g_)).toNatClampNeg) x g_).1, (o_Br_passTo (o_Br_learn N b (N.2.1 10 g_) (N.2.1 12 g_) (x % 4)) b ((r_Br_placeOf (o_Br_learn N b (N.2.1 10 g_) (N.2.1 12 g_) (x % 4)) b ((o_Br_learn N b (N.2.1 10 g_) (N.2.1 12 g_) (x % 4)).2.1 11 g_) ((o_Br_learn N b (N.2.1 10 g_) (N.2.1 12 g_) (x % 4)).2.1 12 g_)).toNatClampNeg) x g_).2) := Eq.trans (bn_oc_s rfl) (Eq.trans (if_neg h1) (Eq.trans (if_neg h2) (Eq.trans (if_pos h3) (Eq.trans (if_neg h4) (Eq.trans (if_neg h5) (if_pos h6))))))
                exact bn_reti2 F hr hk h hq d_Br_hearFrame_105
              · have h6 : ¬ (0 ≤ r_Br_placeOf (o_Br_learn N b (N.2.1 10 g_) (N.2.1 12 g_) (x % 4)) b ((o_Br_learn N b (N.2.1 10 g_) (N.2.1 12 g_) (x % 4)).2.1 11 g_) ((o_Br_learn N b (N.2.1 10 g_) (N.2.1 12 g_) (x % 4)).2.1 12 g_)) := h6
                refine lv_aload_n E1 E2 d_Br_hearFrame_89 rfl (lv_at hl 1 rfl) ?_
                refine lv_aload_n E1 E2 d_Br_hearFrame_90 rfl (lv_at hl 2 rfl) ?_
                refine lv_aload_n E1 E2 d_Br_hearFrame_91 rfl (lv_at hl 3 rfl) ?_
                refine bn_calli F h (bn_runV (n := 2) (As := [.ref (ad 6 x), .ref (ad 13 g_)]) (rest := []) F hml hl.1 h (mm_2 (by omega)) rfl rfl (c_Br_flood l D ar ad nf (o_Br_learn N b (N.2.1 10 g_) (N.2.1 12 g_) (x % 4)) b (by omega) x (by omega) g_ (by omega) _) (bn_goodV k_625 k_627 ks_Br_flood k_2 k_628) rfl rfl (by decide) ⟨by decide, by decide⟩ rfl rfl (Nat.le_of_ble_eq_true rfl) d_Br_hearFrame_92 ⟨Nat.zero_le _, Nat.zero_le _⟩) (fun H locs h => ?_)
                have h : bn_H (bn_y D ar ad nf) s.heap H locs (o_Br_flood (o_Br_learn N b (N.2.1 10 g_) (N.2.1 12 g_) (x % 4)) b x g_).2 := h
                refine lv_goto E1 E2 d_Br_hearFrame_95 rfl ?_
                have hq : o_Br_hearFrame N b x (some g_) = ((o_Br_flood (o_Br_learn N b (N.2.1 10 g_) (N.2.1 12 g_) (x % 4)) b x g_).1, (o_Br_flood (o_Br_learn N b (N.2.1 10 g_) (N.2.1 12 g_) (x % 4)) b x g_).2) := Eq.trans (bn_oc_s rfl) (Eq.trans (if_neg h1) (Eq.trans (if_neg h2) (Eq.trans (if_pos h3) (Eq.trans (if_neg h4) (Eq.trans (if_neg h5) (if_neg h6))))))
                exact bn_reti2 F hr hk h hq d_Br_hearFrame_105
          · have h4 : ((o_Br_learn N b (N.2.1 10 g_) (N.2.1 12 g_) (x % 4)).2.1 11 g_) = 9 := ((nI_eq (a := (o_Br_learn N b (N.2.1 10 g_) (N.2.1 12 g_) (x % 4)).2.1 11 g_) (b := 9) (by omega) (by omega)).mp h4)
            refine lv_iconst (v := 0) E1 E2 d_Br_hearFrame_57 (by decide) ?_
            have hq : o_Br_hearFrame N b x (some g_) = (0, (o_Br_learn N b (N.2.1 10 g_) (N.2.1 12 g_) (x % 4))) := Eq.trans (bn_oc_s rfl) (Eq.trans (if_neg h1) (Eq.trans (if_neg h2) (Eq.trans (if_pos h3) (if_pos h4))))
            exact bn_reti2 F hr hk h hq d_Br_hearFrame_58
      · have h2 : r_Po_carries N x (nI (N.2.1 12 g_)) = 0 := h2
        refine lv_iconst (v := 0) E1 E2 d_Br_hearFrame_22 (by decide) ?_
        have hq : o_Br_hearFrame N b x (some g_) = (0, N) := Eq.trans (bn_oc_s rfl) (Eq.trans (if_neg h1) (if_pos h2))
        exact bn_reti2 F hr hk h hq d_Br_hearFrame_23
def o_Po_join (N : bn_S) (x : Nat) (q : Option Nat) (t : Option Nat) : bn_S := (bn_oc q (bn_oc t (o_Po_become (o_Br_forgetBehind (o_Li_empty (sU (sO (sO N 2 x none) 3 x none) 2 x 0) x) (x / 4) (x % 4)) x 0) (fun t_ => (o_Po_become (o_Br_forgetBehind (o_Li_empty (sU (sO (sO N 2 x none) 3 x (some t_)) 2 x 0) x) (x / 4) (x % 4)) x 0))) (fun q_ => (bn_oc t (o_Po_become (o_Br_forgetBehind (o_Li_empty (sU (sO (sO N 2 x (some q_)) 3 x none) 2 x 0) x) (x / 4) (x % 4)) x 0) (fun t_ => (o_Po_become (o_Br_forgetBehind (o_Li_empty (sU (sO (sO N 2 x (some q_)) 3 x (some t_)) 2 x 0) x) (x / 4) (x % 4)) x 0)))))
set_option maxHeartbeats 4000000 in
set_option maxRecDepth 100000 in
theorem c_Po_join (l : Launch) (D : va_G) (ar : Nat → ClassId) (ad : Nat → Nat → Nat) (nf : Nat) (N : bn_S) (x : Nat) (hx : x < 20) (q : Option Nat) (hq : ∀ y, q = some y → y < 20) (t : Option Nat) (ht : ∀ y, t = some y → y < 8) : bn_V l y_Po_join w_Po_join { frames := 2, cells := 0, slots := 0, locals := 41 } (bn_y D ar ad nf) N [.ref (ad 6 x), va_rf (q.map (ad 6)), va_rf (t.map (ad 11))] (o_Po_join N x q t) := by
  intro sz
  cases q with
  | none =>
    cases t with
    | none =>
      refine bn_start (cc := b_Po_join) (maxL := 3) (ret := (Option.none : Option Jvm.ClassFile.FieldType)) (by decide) rfl (Nat.le_of_ble_eq_true rfl) ?_
      intro p e s m args below meth c ls hsz F hml hr hk hl h
      subst hsz
      have E1 := F.1
      have E2 := F.2.1
      have hl : lv_has ls 3 [(0, .ref (ad 6 x)), (1, .null), (2, .null)] := hl
      refine lv_aload_n E1 E2 d_Po_join_0 rfl (lv_at hl 0 rfl) ?_
      refine lv_aload_nN E1 E2 d_Po_join_1 rfl (lv_at hl 1 rfl) ?_
      refine p_Po_peer F h (by omega) k_143 (none) (fun _ hz => by cases hz) d_Po_join_2 (fun H locs h => ?_)
      have h : bn_H (bn_y D ar ad nf) s.heap H locs (sO N 2 x none) := h
      refine lv_aload_n E1 E2 d_Po_join_5 rfl (lv_at hl 0 rfl) ?_
      refine lv_aload_nN E1 E2 d_Po_join_6 rfl (lv_at hl 2 rfl) ?_
      refine p_Po_station F h (by omega) k_146 (none) (fun _ hz => by cases hz) d_Po_join_7 (fun H locs h => ?_)
      have h : bn_H (bn_y D ar ad nf) s.heap H locs (sO (sO N 2 x none) 3 x none) := h
      refine lv_aload_n E1 E2 d_Po_join_10 rfl (lv_at hl 0 rfl) ?_
      refine lv_iconst (v := 0) E1 E2 d_Po_join_11 (by decide) ?_
      refine p_Po_hasInfo F h (by omega) k_148 (v := 0) (by omega) d_Po_join_12 (fun H locs h => ?_)
      have h : bn_H (bn_y D ar ad nf) s.heap H locs (sU (sO (sO N 2 x none) 3 x none) 2 x 0) := h
      refine lv_aload_n E1 E2 d_Po_join_15 rfl (lv_at hl 0 rfl) ?_
      refine g_Po_line F h (by omega) k_135 d_Po_join_16 ?_
      refine bn_callv F h (bn_runV (n := 0) (As := []) (rest := []) F hml hl.1 h (mm_7 (by omega)) rfl rfl (c_Li_empty l D ar ad nf (sU (sO (sO N 2 x none) 3 x none) 2 x 0) x (by omega) _) (bn_goodV k_334 k_335 k_336 k_4 k_337) rfl rfl (by decide) ⟨by decide, by decide⟩ rfl rfl (Nat.le_of_ble_eq_true rfl) d_Po_join_19 ⟨Nat.zero_le _, Nat.zero_le _⟩) (fun H locs h => ?_)
      have h : bn_H (bn_y D ar ad nf) s.heap H locs (o_Li_empty (sU (sO (sO N 2 x none) 3 x none) 2 x 0) x) := h
      refine lv_aload_n E1 E2 d_Po_join_22 rfl (lv_at hl 0 rfl) ?_
      refine g_Po_owner F h (by omega) k_130 d_Po_join_23 ?_
      refine lv_aload_n E1 E2 d_Po_join_26 rfl (lv_at hl 0 rfl) ?_
      refine g_Po_number F h (by omega) k_133 d_Po_join_27 ?_
      refine bn_callv F h (bn_runV (n := 1) (As := [.int (nI (x % 4))]) (rest := []) F hml hl.1 h (mm_2 (by omega)) rfl rfl (c_Br_forgetBehind l D ar ad nf (o_Li_empty (sU (sO (sO N 2 x none) 3 x none) 2 x 0) x) (x / 4) (by omega) (x % 4) (by omega) _) (bn_goodV k_338 k_339 k_340 k_2 k_341) rfl rfl (by decide) ⟨by decide, by decide⟩ rfl rfl (Nat.le_of_ble_eq_true rfl) d_Po_join_30 ⟨Nat.zero_le _, Nat.zero_le _⟩) (fun H locs h => ?_)
      have h : bn_H (bn_y D ar ad nf) s.heap H locs (o_Br_forgetBehind (o_Li_empty (sU (sO (sO N 2 x none) 3 x none) 2 x 0) x) (x / 4) (x % 4)) := h
      refine lv_aload_n E1 E2 d_Po_join_33 rfl (lv_at hl 0 rfl) ?_
      refine lv_iconst (v := 0) E1 E2 d_Po_join_34 (by decide) ?_
      refine bn_callv F h (bn_runV (n := 1) (As := [.int 0]) (rest := []) F hml hl.1 h (mm_6 (by omega)) rfl rfl (c_Po_become l D ar ad nf (o_Br_forgetBehind (o_Li_empty (sU (sO (sO N 2 x none) 3 x none) 2 x 0) x) (x / 4) (x % 4)) x (by omega) 0 _) (bn_goodV k_342 k_289 k_290 k_3 k_291) rfl rfl (by decide) ⟨by decide, by decide⟩ rfl rfl (Nat.le_of_ble_eq_true rfl) d_Po_join_35 ⟨Nat.zero_le _, Nat.zero_le _⟩) (fun H locs h => ?_)
      have h : bn_H (bn_y D ar ad nf) s.heap H locs (o_Po_become (o_Br_forgetBehind (o_Li_empty (sU (sO (sO N 2 x none) 3 x none) 2 x 0) x) (x / 4) (x % 4)) x 0) := h
      have hq : o_Po_join N x none none = (o_Po_become (o_Br_forgetBehind (o_Li_empty (sU (sO (sO N 2 x none) 3 x none) 2 x 0) x) (x / 4) (x % 4)) x 0) := Eq.trans (bn_oc_n rfl) (bn_oc_n rfl)
      exact bn_retv F hr hk h hq.symm d_Po_join_38
    | some t_ =>
      have ht_ := ht t_ rfl
      refine bn_start (cc := b_Po_join) (maxL := 3) (ret := (Option.none : Option Jvm.ClassFile.FieldType)) (by decide) rfl (Nat.le_of_ble_eq_true rfl) ?_
      intro p e s m args below meth c ls hsz F hml hr hk hl h
      subst hsz
      have E1 := F.1
      have E2 := F.2.1
      have hl : lv_has ls 3 [(0, .ref (ad 6 x)), (1, .null), (2, .ref (ad 11 t_))] := hl
      refine lv_aload_n E1 E2 d_Po_join_0 rfl (lv_at hl 0 rfl) ?_
      refine lv_aload_nN E1 E2 d_Po_join_1 rfl (lv_at hl 1 rfl) ?_
      refine p_Po_peer F h (by omega) k_143 (none) (fun _ hz => by cases hz) d_Po_join_2 (fun H locs h => ?_)
      have h : bn_H (bn_y D ar ad nf) s.heap H locs (sO N 2 x none) := h
      refine lv_aload_n E1 E2 d_Po_join_5 rfl (lv_at hl 0 rfl) ?_
      refine lv_aload_n E1 E2 d_Po_join_6 rfl (lv_at hl 2 rfl) ?_
      refine p_Po_station F h (by omega) k_146 (some t_) (fun _ hz => by cases hz; omega) d_Po_join_7 (fun H locs h => ?_)
      have h : bn_H (bn_y D ar ad nf) s.heap H locs (sO (sO N 2 x none) 3 x (some t_)) := h
      refine lv_aload_n E1 E2 d_Po_join_10 rfl (lv_at hl 0 rfl) ?_
      refine lv_iconst (v := 0) E1 E2 d_Po_join_11 (by decide) ?_
      refine p_Po_hasInfo F h (by omega) k_148 (v := 0) (by omega) d_Po_join_12 (fun H locs h => ?_)
      have h : bn_H (bn_y D ar ad nf) s.heap H locs (sU (sO (sO N 2 x none) 3 x (some t_)) 2 x 0) := h
      refine lv_aload_n E1 E2 d_Po_join_15 rfl (lv_at hl 0 rfl) ?_
      refine g_Po_line F h (by omega) k_135 d_Po_join_16 ?_
      refine bn_callv F h (bn_runV (n := 0) (As := []) (rest := []) F hml hl.1 h (mm_7 (by omega)) rfl rfl (c_Li_empty l D ar ad nf (sU (sO (sO N 2 x none) 3 x (some t_)) 2 x 0) x (by omega) _) (bn_goodV k_334 k_335 k_336 k_4 k_337) rfl rfl (by decide) ⟨by decide, by decide⟩ rfl rfl (Nat.le_of_ble_eq_true rfl) d_Po_join_19 ⟨Nat.zero_le _, Nat.zero_le _⟩) (fun H locs h => ?_)
      have h : bn_H (bn_y D ar ad nf) s.heap H locs (o_Li_empty (sU (sO (sO N 2 x none) 3 x (some t_)) 2 x 0) x) := h
      refine lv_aload_n E1 E2 d_Po_join_22 rfl (lv_at hl 0 rfl) ?_
      refine g_Po_owner F h (by omega) k_130 d_Po_join_23 ?_
      refine lv_aload_n E1 E2 d_Po_join_26 rfl (lv_at hl 0 rfl) ?_
      refine g_Po_number F h (by omega) k_133 d_Po_join_27 ?_
      refine bn_callv F h (bn_runV (n := 1) (As := [.int (nI (x % 4))]) (rest := []) F hml hl.1 h (mm_2 (by omega)) rfl rfl (c_Br_forgetBehind l D ar ad nf (o_Li_empty (sU (sO (sO N 2 x none) 3 x (some t_)) 2 x 0) x) (x / 4) (by omega) (x % 4) (by omega) _) (bn_goodV k_338 k_339 k_340 k_2 k_341) rfl rfl (by decide) ⟨by decide, by decide⟩ rfl rfl (Nat.le_of_ble_eq_true rfl) d_Po_join_30 ⟨Nat.zero_le _, Nat.zero_le _⟩) (fun H locs h => ?_)
      have h : bn_H (bn_y D ar ad nf) s.heap H locs (o_Br_forgetBehind (o_Li_empty (sU (sO (sO N 2 x none) 3 x (some t_)) 2 x 0) x) (x / 4) (x % 4)) := h
      refine lv_aload_n E1 E2 d_Po_join_33 rfl (lv_at hl 0 rfl) ?_
      refine lv_iconst (v := 0) E1 E2 d_Po_join_34 (by decide) ?_
      refine bn_callv F h (bn_runV (n := 1) (As := [.int 0]) (rest := []) F hml hl.1 h (mm_6 (by omega)) rfl rfl (c_Po_become l D ar ad nf (o_Br_forgetBehind (o_Li_empty (sU (sO (sO N 2 x none) 3 x (some t_)) 2 x 0) x) (x / 4) (x % 4)) x (by omega) 0 _) (bn_goodV k_342 k_289 k_290 k_3 k_291) rfl rfl (by decide) ⟨by decide, by decide⟩ rfl rfl (Nat.le_of_ble_eq_true rfl) d_Po_join_35 ⟨Nat.zero_le _, Nat.zero_le _⟩) (fun H locs h => ?_)
      have h : bn_H (bn_y D ar ad nf) s.heap H locs (o_Po_become (o_Br_forgetBehind (o_Li_empty (sU (sO (sO N 2 x none) 3 x (some t_)) 2 x 0) x) (x / 4) (x % 4)) x 0) := h
      have hq : o_Po_join N x none (some t_) = (o_Po_become (o_Br_forgetBehind (o_Li_empty (sU (sO (sO N 2 x none) 3 x (some t_)) 2 x 0) x) (x / 4) (x % 4)) x 0) := Eq.trans (bn_oc_n rfl) (bn_oc_s rfl)
      exact bn_retv F hr hk h hq.symm d_Po_join_38
  | some q_ =>
    have hq_ := hq q_ rfl
    cases t with
    | none =>
      refine bn_start (cc := b_Po_join) (maxL := 3) (ret := (Option.none : Option Jvm.ClassFile.FieldType)) (by decide) rfl (Nat.le_of_ble_eq_true rfl) ?_
      intro p e s m args below meth c ls hsz F hml hr hk hl h
      subst hsz
      have E1 := F.1
      have E2 := F.2.1
      have hl : lv_has ls 3 [(0, .ref (ad 6 x)), (1, .ref (ad 6 q_)), (2, .null)] := hl
      refine lv_aload_n E1 E2 d_Po_join_0 rfl (lv_at hl 0 rfl) ?_
      refine lv_aload_n E1 E2 d_Po_join_1 rfl (lv_at hl 1 rfl) ?_
      refine p_Po_peer F h (by omega) k_143 (some q_) (fun _ hz => by cases hz; omega) d_Po_join_2 (fun H locs h => ?_)
      have h : bn_H (bn_y D ar ad nf) s.heap H locs (sO N 2 x (some q_)) := h
      refine lv_aload_n E1 E2 d_Po_join_5 rfl (lv_at hl 0 rfl) ?_
      refine lv_aload_nN E1 E2 d_Po_join_6 rfl (lv_at hl 2 rfl) ?_
      refine p_Po_station F h (by omega) k_146 (none) (fun _ hz => by cases hz) d_Po_join_7 (fun H locs h => ?_)
      have h : bn_H (bn_y D ar ad nf) s.heap H locs (sO (sO N 2 x (some q_)) 3 x none) := h
      refine lv_aload_n E1 E2 d_Po_join_10 rfl (lv_at hl 0 rfl) ?_
      refine lv_iconst (v := 0) E1 E2 d_Po_join_11 (by decide) ?_
      refine p_Po_hasInfo F h (by omega) k_148 (v := 0) (by omega) d_Po_join_12 (fun H locs h => ?_)
      have h : bn_H (bn_y D ar ad nf) s.heap H locs (sU (sO (sO N 2 x (some q_)) 3 x none) 2 x 0) := h
      refine lv_aload_n E1 E2 d_Po_join_15 rfl (lv_at hl 0 rfl) ?_
      refine g_Po_line F h (by omega) k_135 d_Po_join_16 ?_
      refine bn_callv F h (bn_runV (n := 0) (As := []) (rest := []) F hml hl.1 h (mm_7 (by omega)) rfl rfl (c_Li_empty l D ar ad nf (sU (sO (sO N 2 x (some q_)) 3 x none) 2 x 0) x (by omega) _) (bn_goodV k_334 k_335 k_336 k_4 k_337) rfl rfl (by decide) ⟨by decide, by decide⟩ rfl rfl (Nat.le_of_ble_eq_true rfl) d_Po_join_19 ⟨Nat.zero_le _, Nat.zero_le _⟩) (fun H locs h => ?_)
      have h : bn_H (bn_y D ar ad nf) s.heap H locs (o_Li_empty (sU (sO (sO N 2 x (some q_)) 3 x none) 2 x 0) x) := h
      refine lv_aload_n E1 E2 d_Po_join_22 rfl (lv_at hl 0 rfl) ?_
      refine g_Po_owner F h (by omega) k_130 d_Po_join_23 ?_
      refine lv_aload_n E1 E2 d_Po_join_26 rfl (lv_at hl 0 rfl) ?_
      refine g_Po_number F h (by omega) k_133 d_Po_join_27 ?_
      refine bn_callv F h (bn_runV (n := 1) (As := [.int (nI (x % 4))]) (rest := []) F hml hl.1 h (mm_2 (by omega)) rfl rfl (c_Br_forgetBehind l D ar ad nf (o_Li_empty (sU (sO (sO N 2 x (some q_)) 3 x none) 2 x 0) x) (x / 4) (by omega) (x % 4) (by omega) _) (bn_goodV k_338 k_339 k_340 k_2 k_341) rfl rfl (by decide) ⟨by decide, by decide⟩ rfl rfl (Nat.le_of_ble_eq_true rfl) d_Po_join_30 ⟨Nat.zero_le _, Nat.zero_le _⟩) (fun H locs h => ?_)
      have h : bn_H (bn_y D ar ad nf) s.heap H locs (o_Br_forgetBehind (o_Li_empty (sU (sO (sO N 2 x (some q_)) 3 x none) 2 x 0) x) (x / 4) (x % 4)) := h
      refine lv_aload_n E1 E2 d_Po_join_33 rfl (lv_at hl 0 rfl) ?_
      refine lv_iconst (v := 0) E1 E2 d_Po_join_34 (by decide) ?_
      refine bn_callv F h (bn_runV (n := 1) (As := [.int 0]) (rest := []) F hml hl.1 h (mm_6 (by omega)) rfl rfl (c_Po_become l D ar ad nf (o_Br_forgetBehind (o_Li_empty (sU (sO (sO N 2 x (some q_)) 3 x none) 2 x 0) x) (x / 4) (x % 4)) x (by omega) 0 _) (bn_goodV k_342 k_289 k_290 k_3 k_291) rfl rfl (by decide) ⟨by decide, by decide⟩ rfl rfl (Nat.le_of_ble_eq_true rfl) d_Po_join_35 ⟨Nat.zero_le _, Nat.zero_le _⟩) (fun H locs h => ?_)
      have h : bn_H (bn_y D ar ad nf) s.heap H locs (o_Po_become (o_Br_forgetBehind (o_Li_empty (sU (sO (sO N 2 x (some q_)) 3 x none) 2 x 0) x) (x / 4) (x % 4)) x 0) := h
      have hq : o_Po_join N x (some q_) none = (o_Po_become (o_Br_forgetBehind (o_Li_empty (sU (sO (sO N 2 x (some q_)) 3 x none) 2 x 0) x) (x / 4) (x % 4)) x 0) := Eq.trans (bn_oc_s rfl) (bn_oc_n rfl)
      exact bn_retv F hr hk h hq.symm d_Po_join_38
    | some t_ =>
      have ht_ := ht t_ rfl
      refine bn_start (cc := b_Po_join) (maxL := 3) (ret := (Option.none : Option Jvm.ClassFile.FieldType)) (by decide) rfl (Nat.le_of_ble_eq_true rfl) ?_
      intro p e s m args below meth c ls hsz F hml hr hk hl h
      subst hsz
      have E1 := F.1
      have E2 := F.2.1
      have hl : lv_has ls 3 [(0, .ref (ad 6 x)), (1, .ref (ad 6 q_)), (2, .ref (ad 11 t_))] := hl
      refine lv_aload_n E1 E2 d_Po_join_0 rfl (lv_at hl 0 rfl) ?_
      refine lv_aload_n E1 E2 d_Po_join_1 rfl (lv_at hl 1 rfl) ?_
      refine p_Po_peer F h (by omega) k_143 (some q_) (fun _ hz => by cases hz; omega) d_Po_join_2 (fun H locs h => ?_)
      have h : bn_H (bn_y D ar ad nf) s.heap H locs (sO N 2 x (some q_)) := h
      refine lv_aload_n E1 E2 d_Po_join_5 rfl (lv_at hl 0 rfl) ?_
      refine lv_aload_n E1 E2 d_Po_join_6 rfl (lv_at hl 2 rfl) ?_
      refine p_Po_station F h (by omega) k_146 (some t_) (fun _ hz => by cases hz; omega) d_Po_join_7 (fun H locs h => ?_)
      have h : bn_H (bn_y D ar ad nf) s.heap H locs (sO (sO N 2 x (some q_)) 3 x (some t_)) := h
      refine lv_aload_n E1 E2 d_Po_join_10 rfl (lv_at hl 0 rfl) ?_
      refine lv_iconst (v := 0) E1 E2 d_Po_join_11 (by decide) ?_
      refine p_Po_hasInfo F h (by omega) k_148 (v := 0) (by omega) d_Po_join_12 (fun H locs h => ?_)
      have h : bn_H (bn_y D ar ad nf) s.heap H locs (sU (sO (sO N 2 x (some q_)) 3 x (some t_)) 2 x 0) := h
      refine lv_aload_n E1 E2 d_Po_join_15 rfl (lv_at hl 0 rfl) ?_
      refine g_Po_line F h (by omega) k_135 d_Po_join_16 ?_
      refine bn_callv F h (bn_runV (n := 0) (As := []) (rest := []) F hml hl.1 h (mm_7 (by omega)) rfl rfl (c_Li_empty l D ar ad nf (sU (sO (sO N 2 x (some q_)) 3 x (some t_)) 2 x 0) x (by omega) _) (bn_goodV k_334 k_335 k_336 k_4 k_337) rfl rfl (by decide) ⟨by decide, by decide⟩ rfl rfl (Nat.le_of_ble_eq_true rfl) d_Po_join_19 ⟨Nat.zero_le _, Nat.zero_le _⟩) (fun H locs h => ?_)
      have h : bn_H (bn_y D ar ad nf) s.heap H locs (o_Li_empty (sU (sO (sO N 2 x (some q_)) 3 x (some t_)) 2 x 0) x) := h
      refine lv_aload_n E1 E2 d_Po_join_22 rfl (lv_at hl 0 rfl) ?_
      refine g_Po_owner F h (by omega) k_130 d_Po_join_23 ?_
      refine lv_aload_n E1 E2 d_Po_join_26 rfl (lv_at hl 0 rfl) ?_
      refine g_Po_number F h (by omega) k_133 d_Po_join_27 ?_
      refine bn_callv F h (bn_runV (n := 1) (As := [.int (nI (x % 4))]) (rest := []) F hml hl.1 h (mm_2 (by omega)) rfl rfl (c_Br_forgetBehind l D ar ad nf (o_Li_empty (sU (sO (sO N 2 x (some q_)) 3 x (some t_)) 2 x 0) x) (x / 4) (by omega) (x % 4) (by omega) _) (bn_goodV k_338 k_339 k_340 k_2 k_341) rfl rfl (by decide) ⟨by decide, by decide⟩ rfl rfl (Nat.le_of_ble_eq_true rfl) d_Po_join_30 ⟨Nat.zero_le _, Nat.zero_le _⟩) (fun H locs h => ?_)
      have h : bn_H (bn_y D ar ad nf) s.heap H locs (o_Br_forgetBehind (o_Li_empty (sU (sO (sO N 2 x (some q_)) 3 x (some t_)) 2 x 0) x) (x / 4) (x % 4)) := h
      refine lv_aload_n E1 E2 d_Po_join_33 rfl (lv_at hl 0 rfl) ?_
      refine lv_iconst (v := 0) E1 E2 d_Po_join_34 (by decide) ?_
      refine bn_callv F h (bn_runV (n := 1) (As := [.int 0]) (rest := []) F hml hl.1 h (mm_6 (by omega)) rfl rfl (c_Po_become l D ar ad nf (o_Br_forgetBehind (o_Li_empty (sU (sO (sO N 2 x (some q_)) 3 x (some t_)) 2 x 0) x) (x / 4) (x % 4)) x (by omega) 0 _) (bn_goodV k_342 k_289 k_290 k_3 k_291) rfl rfl (by decide) ⟨by decide, by decide⟩ rfl rfl (Nat.le_of_ble_eq_true rfl) d_Po_join_35 ⟨Nat.zero_le _, Nat.zero_le _⟩) (fun H locs h => ?_)
      have h : bn_H (bn_y D ar ad nf) s.heap H locs (o_Po_become (o_Br_forgetBehind (o_Li_empty (sU (sO (sO N 2 x (some q_)) 3 x (some t_)) 2 x 0) x) (x / 4) (x % 4)) x 0) := h
      have hq : o_Po_join N x (some q_) (some t_) = (o_Po_become (o_Br_forgetBehind (o_Li_empty (sU (sO (sO N 2 x (some q_)) 3 x (some t_)) 2 x 0) x) (x / 4) (x % 4)) x 0) := Eq.trans (bn_oc_s rfl) (bn_oc_s rfl)
      exact bn_retv F hr hk h hq.symm d_Po_join_38
theorem kp_it_forget (b pp : Nat) (q : bn_S) : ∀ k, (it_Br_forgetBehind b pp q k).2 = q.2
  | 0 => rfl
  | k + 1 => by
    rw [← it_Br_forgetBehind_s]
    unfold bd_Br_forgetBehind
    split
    · exact kp_it_forget b pp q k
    · exact kp_it_forget b pp q k
theorem kp_forget (N : bn_S) (b pp : Nat) : (o_Br_forgetBehind N b pp).2 = N.2 := kp_it_forget b pp N 16
theorem kp_become (N : bn_S) (x : Nat) (r : Int32) : (o_Po_become N x r).2.2 = N.2.2 := by
  unfold o_Po_become
  split
  · cases h : N.2.2.2 3 x with
    | none => rfl
    | some y => show (if r = 1 then _ else _ : bn_S).2.2 = _; split <;> rfl
  · split <;> rfl
theorem kp4_Po_join (N : bn_S) (x : Nat) (q t : Option Nat) (i : Nat) : (o_Po_join N x q t).2.2.2 4 i = N.2.2.2 4 i := by
  unfold o_Po_join
  cases q <;> cases t <;> (simp only [bn_oc]; rw [kp_become, kp_forget]; simp [o_Li_empty, sU, sO, bn_up])
def o_St_leave (N : bn_S) (t : Nat) : bn_S := (bn_oc (N.2.2.2 4 t) N (fun y2 => (sO (o_Br_compute (o_Po_join N y2 none none) (y2 / 4)) 4 t none)))
set_option maxHeartbeats 4000000 in
set_option maxRecDepth 100000 in
theorem c_St_leave (l : Launch) (D : va_G) (ar : Nat → ClassId) (ad : Nat → Nat → Nat) (nf : Nat) (N : bn_S) (t : Nat) (ht : t < 8) : bn_V l y_St_leave w_St_leave { frames := 5, cells := 0, slots := 0, locals := 118 } (bn_y D ar ad nf) N [.ref (ad 11 t)] (o_St_leave N t) := by
  intro sz
  refine bn_start (cc := b_St_leave) (maxL := 1) (ret := (Option.none : Option Jvm.ClassFile.FieldType)) (by decide) rfl (Nat.le_of_ble_eq_true rfl) ?_
  intro p e s m args below meth c ls hsz F hml hr hk hl h
  subst hsz
  have E1 := F.1
  have E2 := F.2.1
  have hl : lv_has ls 1 [(0, .ref (ad 11 t))] := hl
  refine lv_aload_n E1 E2 d_St_leave_0 rfl (lv_at hl 0 rfl) ?_
  refine g_St_place F h (by omega) k_201 d_St_leave_1 (fun ho1 => ?_) (fun y2 ho1 hy2 => ?_)
  · skip
    refine lv_ifnullN E1 E2 d_St_leave_4 rfl ?_
    have hq : o_St_leave N t = N := bn_oc_n ho1
    exact bn_retv F hr hk h hq.symm d_St_leave_31
  · skip
    refine lv_ifnull E1 E2 d_St_leave_4 ?_
    refine lv_aload_n E1 E2 d_St_leave_7 rfl (lv_at hl 0 rfl) ?_
    refine g_St_place_s F h (by omega) k_201 ho1 d_St_leave_8 ?_
    refine lv_null E1 E2 d_St_leave_11 ?_
    refine lv_null E1 E2 d_St_leave_12 ?_
    refine bn_callv F h (bn_runV (n := 2) (As := [.null, .null]) (rest := []) F hml hl.1 h (mm_6 (by omega)) rfl rfl (c_Po_join l D ar ad nf N y2 (by omega) none (fun _ hz => by cases hz) none (fun _ hz => by cases hz) _) (bn_goodV k_571 k_331 k_332 k_3 k_333) rfl rfl (by decide) ⟨by decide, by decide⟩ rfl rfl (Nat.le_of_ble_eq_true rfl) d_St_leave_13 ⟨Nat.zero_le _, Nat.zero_le _⟩) (fun H locs h => ?_)
    have h : bn_H (bn_y D ar ad nf) s.heap H locs (o_Po_join N y2 none none) := h
    refine lv_aload_n E1 E2 d_St_leave_16 rfl (lv_at hl 0 rfl) ?_
    refine g_St_place_s F h (by omega) k_201 ((kp4_Po_join _ _ _ _ _).trans ho1) d_St_leave_17 ?_
    refine g_Po_owner F h (by omega) k_131 d_St_leave_20 ?_
    refine bn_callv F h (bn_runV (n := 0) (As := []) (rest := []) F hml hl.1 h (mm_2 (by omega)) rfl rfl (c_Br_compute l D ar ad nf (o_Po_join N y2 none none) (y2 / 4) (by omega) _) (bn_goodV k_572 k_249 k_250 k_2 k_251) rfl rfl (by decide) ⟨by decide, by decide⟩ rfl rfl (Nat.le_of_ble_eq_true rfl) d_St_leave_23 ⟨Nat.zero_le _, Nat.zero_le _⟩) (fun H locs h => ?_)
    have h : bn_H (bn_y D ar ad nf) s.heap H locs (o_Br_compute (o_Po_join N y2 none none) (y2 / 4)) := h
    refine lv_aload_n E1 E2 d_St_leave_26 rfl (lv_at hl 0 rfl) ?_
    refine lv_null E1 E2 d_St_leave_27 ?_
    refine p_St_place F h (by omega) k_201 (none) (fun _ hz => by cases hz) d_St_leave_28 (fun H locs h => ?_)
    have h : bn_H (bn_y D ar ad nf) s.heap H locs (sO (o_Br_compute (o_Po_join N y2 none none) (y2 / 4)) 4 t none) := h
    have hq : o_St_leave N t = (sO (o_Br_compute (o_Po_join N y2 none none) (y2 / 4)) 4 t none) := bn_oc_s ho1
    exact bn_retv F hr hk h hq.symm d_St_leave_31
def o_St_settle (N : bn_S) (t : Nat) (x : Nat) (v : Nat) : bn_S := (o_Br_compute (o_Po_join (sU (sO N 4 t (some x)) 8 t v) x none (some t)) (x / 4))
set_option maxHeartbeats 4000000 in
set_option maxRecDepth 100000 in
theorem c_St_settle (l : Launch) (D : va_G) (ar : Nat → ClassId) (ad : Nat → Nat → Nat) (nf : Nat) (N : bn_S) (t : Nat) (ht : t < 8) (x : Nat) (hx : x < 20) (v : Nat) (hv : v < 3) (hv0 : 1 ≤ v) : bn_V l y_St_settle w_St_settle { frames := 5, cells := 0, slots := 0, locals := 118 } (bn_y D ar ad nf) N [.ref (ad 11 t), .ref (ad 6 x), .int (nI v)] (o_St_settle N t x v) := by
  intro sz
  refine bn_start (cc := b_St_settle) (maxL := 3) (ret := (Option.none : Option Jvm.ClassFile.FieldType)) (by decide) rfl (Nat.le_of_ble_eq_true rfl) ?_
  intro p e s m args below meth c ls hsz F hml hr hk hl h
  subst hsz
  have E1 := F.1
  have E2 := F.2.1
  have hl : lv_has ls 3 [(0, .ref (ad 11 t)), (1, .ref (ad 6 x)), (2, .int (nI v))] := hl
  refine lv_aload_n E1 E2 d_St_settle_0 rfl (lv_at hl 0 rfl) ?_
  refine lv_aload_n E1 E2 d_St_settle_1 rfl (lv_at hl 1 rfl) ?_
  refine p_St_place F h (by omega) k_201 (some x) (fun _ hz => by cases hz; omega) d_St_settle_2 (fun H locs h => ?_)
  have h : bn_H (bn_y D ar ad nf) s.heap H locs (sO N 4 t (some x)) := h
  refine lv_aload_n E1 E2 d_St_settle_5 rfl (lv_at hl 0 rfl) ?_
  refine lv_iload_n E1 E2 d_St_settle_6 rfl (lv_at hl 2 rfl) ?_
  refine p_St_vlan F h (by omega) k_203 (v := v) (by omega) (by omega) d_St_settle_7 (fun H locs h => ?_)
  have h : bn_H (bn_y D ar ad nf) s.heap H locs (sU (sO N 4 t (some x)) 8 t v) := h
  refine lv_aload_n E1 E2 d_St_settle_10 rfl (lv_at hl 1 rfl) ?_
  refine lv_null E1 E2 d_St_settle_11 ?_
  refine lv_aload_n E1 E2 d_St_settle_12 rfl (lv_at hl 0 rfl) ?_
  refine bn_callv F h (bn_runV (n := 2) (As := [.null, .ref (ad 11 t)]) (rest := []) F hml hl.1 h (mm_6 (by omega)) rfl rfl (c_Po_join l D ar ad nf (sU (sO N 4 t (some x)) 8 t v) x (by omega) none (fun _ hz => by cases hz) (some t) (fun _ hz => by cases hz; omega) _) (bn_goodV k_571 k_331 k_332 k_3 k_333) rfl rfl (by decide) ⟨by decide, by decide⟩ rfl rfl (Nat.le_of_ble_eq_true rfl) d_St_settle_13 ⟨Nat.zero_le _, Nat.zero_le _⟩) (fun H locs h => ?_)
  have h : bn_H (bn_y D ar ad nf) s.heap H locs (o_Po_join (sU (sO N 4 t (some x)) 8 t v) x none (some t)) := h
  refine lv_aload_n E1 E2 d_St_settle_16 rfl (lv_at hl 1 rfl) ?_
  refine g_Po_owner F h (by omega) k_131 d_St_settle_17 ?_
  refine bn_callv F h (bn_runV (n := 0) (As := []) (rest := []) F hml hl.1 h (mm_2 (by omega)) rfl rfl (c_Br_compute l D ar ad nf (o_Po_join (sU (sO N 4 t (some x)) 8 t v) x none (some t)) (x / 4) (by omega) _) (bn_goodV k_572 k_249 k_250 k_2 k_251) rfl rfl (by decide) ⟨by decide, by decide⟩ rfl rfl (Nat.le_of_ble_eq_true rfl) d_St_settle_20 ⟨Nat.zero_le _, Nat.zero_le _⟩) (fun H locs h => ?_)
  have h : bn_H (bn_y D ar ad nf) s.heap H locs (o_Br_compute (o_Po_join (sU (sO N 4 t (some x)) 8 t v) x none (some t)) (x / 4)) := h
  have hq : o_St_settle N t x v = (o_Br_compute (o_Po_join (sU (sO N 4 t (some x)) 8 t v) x none (some t)) (x / 4)) := rfl
  exact bn_retv F hr hk h hq.symm d_St_settle_23
end
section
/-! contracts of the class, written by wip/whole/gen_class.py -/
def r_Ne_isBridge (N : bn_S) (ba : Int32) : Int32 := (if ba < 0 then 0 else (if 5 ≤ ba then 0 else 1))
set_option maxHeartbeats 4000000 in
set_option maxRecDepth 100000 in
theorem c_Ne_isBridge (l : Launch) (D : va_G) (ar : Nat → ClassId) (ad : Nat → Nat → Nat) (nf : Nat) (N : bn_S) (ba : Int32) : bn_I l y_Ne_isBridge w_Ne_isBridge { frames := 0, cells := 0, slots := 0, locals := 0 } (bn_y D ar ad nf) N [.int ba] (r_Ne_isBridge N ba) N := by
  intro sz
  refine bn_start (cc := b_Ne_isBridge) (maxL := 1) (ret := (Option.some Jvm.ClassFile.FieldType.boolean)) (by decide) rfl (Nat.le_of_ble_eq_true rfl) ?_
  intro p e s m args below meth c ls hsz F hml hr hk hl h
  subst hsz
  have E1 := F.1
  have E2 := F.2.1
  have hl : lv_has ls 1 [(0, .int ba)] := hl
  refine lv_iload_n E1 E2 d_Ne_isBridge_0 rfl (lv_at hl 0 rfl) ?_
  refine lv_if_lt E1 E2 d_Ne_isBridge_1 rfl (fun h1 => ?_) (fun h1 => ?_)
  · have h1 : ba < 0 := h1
    refine lv_iconst (v := 0) E1 E2 d_Ne_isBridge_13 (by decide) ?_
    have hq : r_Ne_isBridge N ba = 0 := if_pos h1
    exact bn_retz F hr rfl hk h hq.symm rfl d_Ne_isBridge_14
  · have h1 : ¬ (ba < 0) := h1
    refine lv_iload_n E1 E2 d_Ne_isBridge_4 rfl (lv_at hl 0 rfl) ?_
    refine lv_iconst (v := 5) E1 E2 d_Ne_isBridge_5 (by decide) ?_
    refine lv_icmp_ge E1 E2 d_Ne_isBridge_6 rfl (fun h2 => ?_) (fun h2 => ?_)
    · have h2 : 5 ≤ ba := h2
      refine lv_iconst (v := 0) E1 E2 d_Ne_isBridge_13 (by decide) ?_
      have hq : r_Ne_isBridge N ba = 0 := Eq.trans (if_neg h1) (if_pos h2)
      exact bn_retz F hr rfl hk h hq.symm rfl d_Ne_isBridge_14
    · have h2 : ¬ (5 ≤ ba) := h2
      refine lv_iconst (v := 1) E1 E2 d_Ne_isBridge_9 (by decide) ?_
      refine lv_goto E1 E2 d_Ne_isBridge_10 rfl ?_
      have hq : r_Ne_isBridge N ba = 1 := Eq.trans (if_neg h1) (if_neg h2)
      exact bn_retz F hr rfl hk h hq.symm rfl d_Ne_isBridge_14
theorem bn_isB {N : bn_S} {b : Int32} (h : ¬ r_Ne_isBridge N b = 0) : b = nI b.toNatClampNeg ∧ b.toNatClampNeg < 5 := by
  unfold r_Ne_isBridge at h
  split at h
  · exact absurd rfl h
  · rename_i h0
    split at h
    · exact absurd rfl h
    · rename_i h1
      exact bn_natle (n := 5) h0 h1 (by decide)
def r_Ne_isVlan (N : bn_S) (va : Int32) : Int32 := (if va < 1 then 0 else (if 2 < va then 0 else 1))
set_option maxHeartbeats 4000000 in
set_option maxRecDepth 100000 in
theorem c_Ne_isVlan (l : Launch) (D : va_G) (ar : Nat → ClassId) (ad : Nat → Nat → Nat) (nf : Nat) (N : bn_S) (va : Int32) : bn_I l y_Ne_isVlan w_Ne_isVlan { frames := 0, cells := 0, slots := 0, locals := 0 } (bn_y D ar ad nf) N [.int va] (r_Ne_isVlan N va) N := by
  intro sz
  refine bn_start (cc := b_Ne_isVlan) (maxL := 1) (ret := (Option.some Jvm.ClassFile.FieldType.boolean)) (by decide) rfl (Nat.le_of_ble_eq_true rfl) ?_
  intro p e s m args below meth c ls hsz F hml hr hk hl h
  subst hsz
  have E1 := F.1
  have E2 := F.2.1
  have hl : lv_has ls 1 [(0, .int va)] := hl
  refine lv_iload_n E1 E2 d_Ne_isVlan_0 rfl (lv_at hl 0 rfl) ?_
  refine lv_iconst (v := 1) E1 E2 d_Ne_isVlan_1 (by decide) ?_
  refine lv_icmp_lt E1 E2 d_Ne_isVlan_2 rfl (fun h1 => ?_) (fun h1 => ?_)
  · have h1 : va < 1 := h1
    refine lv_iconst (v := 0) E1 E2 d_Ne_isVlan_14 (by decide) ?_
    have hq : r_Ne_isVlan N va = 0 := if_pos h1
    exact bn_retz F hr rfl hk h hq.symm rfl d_Ne_isVlan_15
  · have h1 : ¬ (va < 1) := h1
    refine lv_iload_n E1 E2 d_Ne_isVlan_5 rfl (lv_at hl 0 rfl) ?_
    refine lv_iconst (v := 2) E1 E2 d_Ne_isVlan_6 (by decide) ?_
    refine lv_icmp_gt E1 E2 d_Ne_isVlan_7 rfl (fun h2 => ?_) (fun h2 => ?_)
    · have h2 : 2 < va := h2
      refine lv_iconst (v := 0) E1 E2 d_Ne_isVlan_14 (by decide) ?_
      have hq : r_Ne_isVlan N va = 0 := Eq.trans (if_neg h1) (if_pos h2)
      exact bn_retz F hr rfl hk h hq.symm rfl d_Ne_isVlan_15
    · have h2 : ¬ (2 < va) := h2
      refine lv_iconst (v := 1) E1 E2 d_Ne_isVlan_10 (by decide) ?_
      refine lv_goto E1 E2 d_Ne_isVlan_11 rfl ?_
      have hq : r_Ne_isVlan N va = 1 := Eq.trans (if_neg h1) (if_neg h2)
      exact bn_retz F hr rfl hk h hq.symm rfl d_Ne_isVlan_15
theorem bn_isV {N : bn_S} {v : Int32} (h : ¬ r_Ne_isVlan N v = 0) : v = nI v.toNatClampNeg ∧ v.toNatClampNeg < 3 ∧ 1 ≤ v.toNatClampNeg := by
  unfold r_Ne_isVlan at h
  split at h
  · exact absurd rfl h
  · rename_i h0
    split at h
    · exact absurd rfl h
    · rename_i h1
      exact bn_natlt1 (n := 2) h0 h1 (by decide)
def r_Ne_findPort (N : bn_S) (ba : Int32) (pa : Int32) : Option Nat := (if r_Ne_isBridge N ba = 0 then none else (if pa < 0 then none else (if 4 ≤ pa then none else some (4 * (ba.toNatClampNeg) + (pa.toNatClampNeg)))))
set_option maxHeartbeats 4000000 in
set_option maxRecDepth 100000 in
theorem c_Ne_findPort (l : Launch) (D : va_G) (ar : Nat → ClassId) (ad : Nat → Nat → Nat) (nf : Nat) (N : bn_S)  (ba : Int32) (pa : Int32) : bn_R l y_Ne_findPort w_Ne_findPort { frames := 1, cells := 0, slots := 0, locals := 20 } (bn_y D ar ad nf) N [.ref (ad 0 0), .int ba, .int pa] ((r_Ne_findPort N ba pa).map (ad 6)) N := by
  intro sz
  refine bn_start (cc := b_Ne_findPort) (maxL := 3) (ret := (Option.some (Jvm.ClassFile.FieldType.object "BridgeNet$Port"))) (by decide) rfl (Nat.le_of_ble_eq_true rfl) ?_
  intro p e s m args below meth c ls hsz F hml hr hk hl h
  subst hsz
  have E1 := F.1
  have E2 := F.2.1
  have hl : lv_has ls 3 [(0, .ref (ad 0 0)), (1, .int ba), (2, .int pa)] := hl
  refine lv_iload_n E1 E2 d_Ne_findPort_0 rfl (lv_at hl 1 rfl) ?_
  refine bn_calli F h (bn_runS (n := 1) (As := [.int ba]) (rest := []) F hml hl.1 h (c_Ne_isBridge l D ar ad nf N ba _) (bn_goodS k_233 k_234 k_1 k_235) rfl rfl (by decide) ⟨by decide, by decide⟩ rfl rfl (Nat.le_of_ble_eq_true rfl) d_Ne_findPort_1 ⟨Nat.zero_le _, Nat.zero_le _⟩) (fun H locs h => ?_)
  refine lv_if_eq E1 E2 d_Ne_findPort_4 rfl (fun h1 => ?_) (fun h1 => ?_)
  · have h1 : r_Ne_isBridge N ba = 0 := h1
    refine lv_null E1 E2 d_Ne_findPort_30 ?_
    have hq : r_Ne_findPort N ba pa = none := if_pos h1
    exact bn_retq F (v := none) hr hk h (by rw [hq]; rfl) rfl d_Ne_findPort_31
  · have h1 : ¬ (r_Ne_isBridge N ba = 0) := h1
    refine lv_iload_n E1 E2 d_Ne_findPort_7 rfl (lv_at hl 2 rfl) ?_
    refine lv_if_lt E1 E2 d_Ne_findPort_8 rfl (fun h2 => ?_) (fun h2 => ?_)
    · have h2 : pa < 0 := h2
      refine lv_null E1 E2 d_Ne_findPort_30 ?_
      have hq : r_Ne_findPort N ba pa = none := Eq.trans (if_neg h1) (if_pos h2)
      exact bn_retq F (v := none) hr hk h (by rw [hq]; rfl) rfl d_Ne_findPort_31
    · have h2 : ¬ (pa < 0) := h2
      refine lv_iload_n E1 E2 d_Ne_findPort_11 rfl (lv_at hl 2 rfl) ?_
      refine lv_iconst (v := 4) E1 E2 d_Ne_findPort_12 (by decide) ?_
      refine lv_icmp_ge E1 E2 d_Ne_findPort_13 rfl (fun h3 => ?_) (fun h3 => ?_)
      · have h3 : 4 ≤ pa := h3
        refine lv_null E1 E2 d_Ne_findPort_30 ?_
        have hq : r_Ne_findPort N ba pa = none := Eq.trans (if_neg h1) (Eq.trans (if_neg h2) (if_pos h3))
        exact bn_retq F (v := none) hr hk h (by rw [hq]; rfl) rfl d_Ne_findPort_31
      · have h3 : ¬ (4 ≤ pa) := h3
        refine lv_aload_n E1 E2 d_Ne_findPort_16 rfl (lv_at hl 0 rfl) ?_
        refine g_Ne_bridges F h k_219 d_Ne_findPort_17 ?_
        refine lv_iload_n E1 E2 d_Ne_findPort_20 rfl (lv_at hl 1 rfl) ?_
        have hn_ba := bn_isB h1
        have hn_ba2 := hn_ba.2
        refine bn_ti hn_ba.1 ?_
        refine al_bridges F h (i := ba.toNatClampNeg) (by omega) d_Ne_findPort_21 ?_
        refine g_Br_ports F h (by omega) k_39 d_Ne_findPort_22 ?_
        refine lv_iload_n E1 E2 d_Ne_findPort_25 rfl (lv_at hl 2 rfl) ?_
        have hn_pa := bn_natle (n := 4) h2 h3 (by decide)
        have hn_pa2 := hn_pa.2
        refine bn_ti hn_pa.1 ?_
        refine al_ports F h (by omega) (i := pa.toNatClampNeg) (by omega) d_Ne_findPort_26 ?_
        refine lv_goto E1 E2 d_Ne_findPort_27 rfl ?_
        have hq : r_Ne_findPort N ba pa = some (4 * (ba.toNatClampNeg) + (pa.toNatClampNeg)) := Eq.trans (if_neg h1) (Eq.trans (if_neg h2) (if_neg h3))
        exact bn_retq F (v := (some (ad 6 (4 * (ba.toNatClampNeg) + (pa.toNatClampNeg))))) hr hk h (by rw [hq]; rfl) rfl d_Ne_findPort_31
theorem lt_Ne_findPort {N : bn_S} {b a : Int32} {y : Nat} (h : r_Ne_findPort N b a = some y) : y < 20 := by
  unfold r_Ne_findPort at h
  split at h
  · cases h
  · rename_i h0
    split at h
    · cases h
    · rename_i h1
      split at h
      · cases h
      · rename_i h2
        have h3 := (bn_isB h0).2
        have h4 := (bn_natle (n := 4) h1 h2 (by decide)).2
        cases h
        omega
def r_Ne_findStation (N : bn_S) (sa : Int32) : Option Nat := (if sa < 0 then none else (if 8 ≤ sa then none else some (sa.toNatClampNeg)))
set_option maxHeartbeats 4000000 in
set_option maxRecDepth 100000 in
theorem c_Ne_findStation (l : Launch) (D : va_G) (ar : Nat → ClassId) (ad : Nat → Nat → Nat) (nf : Nat) (N : bn_S)  (sa : Int32) : bn_R l y_Ne_findStation w_Ne_findStation { frames := 0, cells := 0, slots := 0, locals := 0 } (bn_y D ar ad nf) N [.ref (ad 0 0), .int sa] ((r_Ne_findStation N sa).map (ad 11)) N := by
  intro sz
  refine bn_start (cc := b_Ne_findStation) (maxL := 2) (ret := (Option.some (Jvm.ClassFile.FieldType.object "BridgeNet$Station"))) (by decide) rfl (Nat.le_of_ble_eq_true rfl) ?_
  intro p e s m args below meth c ls hsz F hml hr hk hl h
  subst hsz
  have E1 := F.1
  have E2 := F.2.1
  have hl : lv_has ls 2 [(0, .ref (ad 0 0)), (1, .int sa)] := hl
  refine lv_iload_n E1 E2 d_Ne_findStation_0 rfl (lv_at hl 1 rfl) ?_
  refine lv_if_lt E1 E2 d_Ne_findStation_1 rfl (fun h1 => ?_) (fun h1 => ?_)
  · have h1 : sa < 0 := h1
    refine lv_null E1 E2 d_Ne_findStation_19 ?_
    have hq : r_Ne_findStation N sa = none := if_pos h1
    exact bn_retq F (v := none) hr hk h (by rw [hq]; rfl) rfl d_Ne_findStation_20
  · have h1 : ¬ (sa < 0) := h1
    refine lv_iload_n E1 E2 d_Ne_findStation_4 rfl (lv_at hl 1 rfl) ?_
    refine lv_bipush (v := 8) E1 E2 d_Ne_findStation_5 (by decide) ?_
    refine lv_icmp_ge E1 E2 d_Ne_findStation_7 rfl (fun h2 => ?_) (fun h2 => ?_)
    · have h2 : 8 ≤ sa := h2
      refine lv_null E1 E2 d_Ne_findStation_19 ?_
      have hq : r_Ne_findStation N sa = none := Eq.trans (if_neg h1) (if_pos h2)
      exact bn_retq F (v := none) hr hk h (by rw [hq]; rfl) rfl d_Ne_findStation_20
    · have h2 : ¬ (8 ≤ sa) := h2
      refine lv_aload_n E1 E2 d_Ne_findStation_10 rfl (lv_at hl 0 rfl) ?_
      refine g_Ne_stations F h k_220 d_Ne_findStation_11 ?_
      refine lv_iload_n E1 E2 d_Ne_findStation_14 rfl (lv_at hl 1 rfl) ?_
      have hn_sa := bn_natle (n := 8) h1 h2 (by decide)
      have hn_sa2 := hn_sa.2
      refine bn_ti hn_sa.1 ?_
      refine al_stations F h (i := sa.toNatClampNeg) (by omega) d_Ne_findStation_15 ?_
      refine lv_goto E1 E2 d_Ne_findStation_16 rfl ?_
      have hq : r_Ne_findStation N sa = some (sa.toNatClampNeg) := Eq.trans (if_neg h1) (if_neg h2)
      exact bn_retq F (v := (some (ad 11 (sa.toNatClampNeg)))) hr hk h (by rw [hq]; rfl) rfl d_Ne_findStation_20
theorem bn_isS {N : bn_S} {a : Int32} {y : Nat} (h : r_Ne_findStation N a = some y) : a = nI a.toNatClampNeg ∧ a.toNatClampNeg < 8 ∧ y = a.toNatClampNeg := by
  unfold r_Ne_findStation at h
  split at h
  · cases h
  · rename_i h0
    split at h
    · cases h
    · rename_i h1
      obtain ⟨h2, h3⟩ := bn_natle (n := 8) h0 h1 (by decide)
      cases h
      exact ⟨h2, h3, rfl⟩
theorem lt_Ne_findStation {N : bn_S} {a : Int32} {y : Nat} (h : r_Ne_findStation N a = some y) : y < 8 := by
  obtain ⟨-, h1, rfl⟩ := bn_isS h
  exact h1
def o_Ne_priority (N : bn_S) (ba : Int32) (pr : Int32) : Int32 × bn_S := (if r_Ne_isBridge N ba = 0 then (0, N) else (if pr < 0 then (0, N) else (if 15 < pr then (0, N) else (if r_Br_isUnused N (ba.toNatClampNeg) = 0 then (0, N) else (1, (o_Br_compute (o_Br_rank N (ba.toNatClampNeg) (nI (pr.toNatClampNeg))) (ba.toNatClampNeg)))))))
set_option maxHeartbeats 4000000 in
set_option maxRecDepth 100000 in
theorem c_Ne_priority (l : Launch) (D : va_G) (ar : Nat → ClassId) (ad : Nat → Nat → Nat) (nf : Nat) (N : bn_S)  (ba : Int32) (pr : Int32) : bn_I l y_Ne_priority w_Ne_priority { frames := 5, cells := 0, slots := 0, locals := 118 } (bn_y D ar ad nf) N [.ref (ad 0 0), .int ba, .int pr] (o_Ne_priority N ba pr).1 (o_Ne_priority N ba pr).2 := by
  intro sz
  refine bn_start (cc := b_Ne_priority) (maxL := 3) (ret := (Option.some Jvm.ClassFile.FieldType.boolean)) (by decide) rfl (Nat.le_of_ble_eq_true rfl) ?_
  intro p e s m args below meth c ls hsz F hml hr hk hl h
  subst hsz
  have E1 := F.1
  have E2 := F.2.1
  have hl : lv_has ls 3 [(0, .ref (ad 0 0)), (1, .int ba), (2, .int pr)] := hl
  refine lv_iload_n E1 E2 d_Ne_priority_0 rfl (lv_at hl 1 rfl) ?_
  refine bn_calli F h (bn_runS (n := 1) (As := [.int ba]) (rest := []) F hml hl.1 h (c_Ne_isBridge l D ar ad nf N ba _) (bn_goodS k_233 k_234 k_1 k_235) rfl rfl (by decide) ⟨by decide, by decide⟩ rfl rfl (Nat.le_of_ble_eq_true rfl) d_Ne_priority_1 ⟨Nat.zero_le _, Nat.zero_le _⟩) (fun H locs h => ?_)
  refine lv_if_eq E1 E2 d_Ne_priority_4 rfl (fun h1 => ?_) (fun h1 => ?_)
  · have h1 : r_Ne_isBridge N ba = 0 := h1
    refine lv_iconst (v := 0) E1 E2 d_Ne_priority_29 (by decide) ?_
    have hq : o_Ne_priority N ba pr = (0, N) := if_pos h1
    exact bn_retz2 F hr rfl hk h hq d_Ne_priority_30
  · have h1 : ¬ (r_Ne_isBridge N ba = 0) := h1
    refine lv_iload_n E1 E2 d_Ne_priority_7 rfl (lv_at hl 2 rfl) ?_
    refine lv_if_lt E1 E2 d_Ne_priority_8 rfl (fun h2 => ?_) (fun h2 => ?_)
    · have h2 : pr < 0 := h2
      refine lv_iconst (v := 0) E1 E2 d_Ne_priority_29 (by decide) ?_
      have hq : o_Ne_priority N ba pr = (0, N) := Eq.trans (if_neg h1) (if_pos h2)
      exact bn_retz2 F hr rfl hk h hq d_Ne_priority_30
    · have h2 : ¬ (pr < 0) := h2
      refine lv_iload_n E1 E2 d_Ne_priority_11 rfl (lv_at hl 2 rfl) ?_
      refine lv_bipush (v := 15) E1 E2 d_Ne_priority_12 (by decide) ?_
      refine lv_icmp_gt E1 E2 d_Ne_priority_14 rfl (fun h3 => ?_) (fun h3 => ?_)
      · have h3 : 15 < pr := h3
        refine lv_iconst (v := 0) E1 E2 d_Ne_priority_29 (by decide) ?_
        have hq : o_Ne_priority N ba pr = (0, N) := Eq.trans (if_neg h1) (Eq.trans (if_neg h2) (if_pos h3))
        exact bn_retz2 F hr rfl hk h hq d_Ne_priority_30
      · have h3 : ¬ (15 < pr) := h3
        refine lv_aload_n E1 E2 d_Ne_priority_17 rfl (lv_at hl 0 rfl) ?_
        refine g_Ne_bridges F h k_219 d_Ne_priority_18 ?_
        refine lv_iload_n E1 E2 d_Ne_priority_21 rfl (lv_at hl 1 rfl) ?_
        have hn_ba := bn_isB h1
        have hn_ba2 := hn_ba.2
        refine bn_ti hn_ba.1 ?_
        refine al_bridges F h (i := ba.toNatClampNeg) (by omega) d_Ne_priority_22 ?_
        refine bn_calli F h (bn_runV (n := 0) (As := []) (rest := []) F hml hl.1 h (mm_2 (by omega)) rfl rfl (c_Br_isUnused l D ar ad nf N (ba.toNatClampNeg) (by omega) _) (bn_goodV k_236 k_237 k_238 k_2 k_239) rfl rfl (by decide) ⟨by decide, by decide⟩ rfl rfl (Nat.le_of_ble_eq_true rfl) d_Ne_priority_23 ⟨Nat.zero_le _, Nat.zero_le _⟩) (fun H locs h => ?_)
        refine lv_if_ne E1 E2 d_Ne_priority_26 rfl (fun h4 => ?_) (fun h4 => ?_)
        · have h4 : ¬ (r_Br_isUnused N (ba.toNatClampNeg) = 0) := h4
          refine lv_aload_n E1 E2 d_Ne_priority_31 rfl (lv_at hl 0 rfl) ?_
          refine g_Ne_bridges F h k_219 d_Ne_priority_32 ?_
          refine lv_iload_n E1 E2 d_Ne_priority_35 rfl (lv_at hl 1 rfl) ?_
          refine bn_ti hn_ba.1 ?_
          refine al_bridges F h (i := ba.toNatClampNeg) (by omega) d_Ne_priority_36 ?_
          refine lv_iload_n E1 E2 d_Ne_priority_37 rfl (lv_at hl 2 rfl) ?_
          have hn_pr := bn_natlt (n := 15) h2 h3 (by decide)
          have hn_pr2 := hn_pr.2
          refine bn_ti hn_pr.1 ?_
          refine bn_callv F h (bn_runV (n := 1) (As := [.int (nI (pr.toNatClampNeg))]) (rest := []) F hml hl.1 h (mm_2 (by omega)) rfl rfl (c_Br_rank l D ar ad nf N (ba.toNatClampNeg) (by omega) (nI (pr.toNatClampNeg)) _) (bn_goodV k_244 k_245 k_246 k_2 k_247) rfl rfl (by decide) ⟨by decide, by decide⟩ rfl rfl (Nat.le_of_ble_eq_true rfl) d_Ne_priority_38 ⟨Nat.zero_le _, Nat.zero_le _⟩) (fun H locs h => ?_)
          have h : bn_H (bn_y D ar ad nf) s.heap H locs (o_Br_rank N (ba.toNatClampNeg) (nI (pr.toNatClampNeg))) := h
          refine lv_aload_n E1 E2 d_Ne_priority_41 rfl (lv_at hl 0 rfl) ?_
          refine g_Ne_bridges F h k_219 d_Ne_priority_42 ?_
          refine lv_iload_n E1 E2 d_Ne_priority_45 rfl (lv_at hl 1 rfl) ?_
          refine bn_ti hn_ba.1 ?_
          refine al_bridges F h (i := ba.toNatClampNeg) (by omega) d_Ne_priority_46 ?_
          refine bn_callv F h (bn_runV (n := 0) (As := []) (rest := []) F hml hl.1 h (mm_2 (by omega)) rfl rfl (c_Br_compute l D ar ad nf (o_Br_rank N (ba.toNatClampNeg) (nI (pr.toNatClampNeg))) (ba.toNatClampNeg) (by omega) _) (bn_goodV k_248 k_249 k_250 k_2 k_251) rfl rfl (by decide) ⟨by decide, by decide⟩ rfl rfl (Nat.le_of_ble_eq_true rfl) d_Ne_priority_47 ⟨Nat.zero_le _, Nat.zero_le _⟩) (fun H locs h => ?_)
          have h : bn_H (bn_y D ar ad nf) s.heap H locs (o_Br_compute (o_Br_rank N (ba.toNatClampNeg) (nI (pr.toNatClampNeg))) (ba.toNatClampNeg)) := h
          refine lv_iconst (v := 1) E1 E2 d_Ne_priority_50 (by decide) ?_
          have hq : o_Ne_priority N ba pr = (1, (o_Br_compute (o_Br_rank N (ba.toNatClampNeg) (nI (pr.toNatClampNeg))) (ba.toNatClampNeg))) := Eq.trans (if_neg h1) (Eq.trans (if_neg h2) (Eq.trans (if_neg h3) (if_neg h4)))
          exact bn_retz2 F hr rfl hk h hq d_Ne_priority_51
        · have h4 : r_Br_isUnused N (ba.toNatClampNeg) = 0 := h4
          refine lv_iconst (v := 0) E1 E2 d_Ne_priority_29 (by decide) ?_
          have hq : o_Ne_priority N ba pr = (0, N) := Eq.trans (if_neg h1) (Eq.trans (if_neg h2) (Eq.trans (if_neg h3) (if_pos h4)))
          exact bn_retz2 F hr rfl hk h hq d_Ne_priority_30
def o_Ne_set (N : bn_S) (ba : Int32) (pa : Int32) (co : Int32) (vl : Int32) : Int32 × bn_S := (bn_oc (r_Ne_findPort N ba pa) (0, N) (fun y2 => (if co < 1 then (0, N) else (if 50 < co then (0, N) else (if vl < 1 then (0, N) else (if vl ≤ 3 then (1, (o_Br_compute (sI (sI N 5 y2 (nI (co.toNatClampNeg))) 6 y2 vl) (y2 / 4))) else (0, N)))))))
set_option maxHeartbeats 4000000 in
set_option maxRecDepth 100000 in
theorem c_Ne_set (l : Launch) (D : va_G) (ar : Nat → ClassId) (ad : Nat → Nat → Nat) (nf : Nat) (N : bn_S)  (ba : Int32) (pa : Int32) (co : Int32) (vl : Int32) : bn_I l y_Ne_set w_Ne_set { frames := 5, cells := 0, slots := 0, locals := 118 } (bn_y D ar ad nf) N [.ref (ad 0 0), .int ba, .int pa, .int co, .int vl] (o_Ne_set N ba pa co vl).1 (o_Ne_set N ba pa co vl).2 := by
  intro sz
  refine bn_start (cc := b_Ne_set) (maxL := 6) (ret := (Option.some Jvm.ClassFile.FieldType.boolean)) (by decide) rfl (Nat.le_of_ble_eq_true rfl) ?_
  intro p e s m args below meth c ls hsz F hml hr hk hl h
  subst hsz
  have E1 := F.1
  have E2 := F.2.1
  have hl : lv_has ls 6 [(0, .ref (ad 0 0)), (1, .int ba), (2, .int pa), (3, .int co), (4, .int vl)] := hl
  refine lv_aload_n E1 E2 d_Ne_set_0 rfl (lv_at hl 0 rfl) ?_
  refine lv_iload_n E1 E2 d_Ne_set_1 rfl (lv_at hl 1 rfl) ?_
  refine lv_iload_n E1 E2 d_Ne_set_2 rfl (lv_at hl 2 rfl) ?_
  have hwf := h.2.2.2
  refine bn_callq F h (bn_runV (n := 2) (As := [.int ba, .int pa]) (rest := []) F hml hl.1 h mm_0 rfl rfl (c_Ne_findPort l D ar ad nf N ba pa _) (bn_goodV k_321 k_323 ks_Ne_findPort k_1 k_324) rfl rfl (by decide) ⟨by decide, by decide⟩ rfl rfl (Nat.le_of_ble_eq_true rfl) d_Ne_set_3 ⟨Nat.zero_le _, Nat.zero_le _⟩) (fun H locs h => ?_)
  refine bn_oq (f := ad 6) (o := r_Ne_findPort N ba pa) (fun ho1 => ?_) (fun y2 ho1 => ?_)
  · skip
    refine lv_astoreN E1 E2 d_Ne_set_6 hl (by decide) rfl (fun ls hl => ?_)
    have hl : lv_has ls 6 [(5, .null), (0, .ref (ad 0 0)), (1, .int ba), (2, .int pa), (3, .int co), (4, .int vl)] := hl
    refine lv_aloadN E1 E2 d_Ne_set_8 (lv_at hl 0 rfl) ?_
    refine lv_ifnullN E1 E2 d_Ne_set_10 rfl ?_
    refine lv_iconst (v := 0) E1 E2 d_Ne_set_36 (by decide) ?_
    have hq : o_Ne_set N ba pa co vl = (0, N) := bn_oc_n ho1
    exact bn_retz2 F hr rfl hk h hq d_Ne_set_37
  · have hy2 := lt_Ne_findPort ho1
    refine lv_astore E1 E2 d_Ne_set_6 hl (by decide) rfl (fun ls hl => ?_)
    have hl : lv_has ls 6 [(5, .ref (ad 6 y2)), (0, .ref (ad 0 0)), (1, .int ba), (2, .int pa), (3, .int co), (4, .int vl)] := hl
    refine lv_aload E1 E2 d_Ne_set_8 (lv_at hl 0 rfl) ?_
    refine lv_ifnull E1 E2 d_Ne_set_10 ?_
    refine lv_iload_n E1 E2 d_Ne_set_13 rfl (lv_at hl 4 rfl) ?_
    refine lv_iconst (v := 1) E1 E2 d_Ne_set_14 (by decide) ?_
    refine lv_icmp_lt E1 E2 d_Ne_set_15 rfl (fun h3 => ?_) (fun h3 => ?_)
    · have h3 : co < 1 := h3
      refine lv_iconst (v := 0) E1 E2 d_Ne_set_36 (by decide) ?_
      have hq : o_Ne_set N ba pa co vl = (0, N) := Eq.trans (bn_oc_s ho1) (if_pos h3)
      exact bn_retz2 F hr rfl hk h hq d_Ne_set_37
    · have h3 : ¬ (co < 1) := h3
      refine lv_iload_n E1 E2 d_Ne_set_18 rfl (lv_at hl 4 rfl) ?_
      refine lv_bipush (v := 50) E1 E2 d_Ne_set_19 (by decide) ?_
      refine lv_icmp_gt E1 E2 d_Ne_set_21 rfl (fun h4 => ?_) (fun h4 => ?_)
      · have h4 : 50 < co := h4
        refine lv_iconst (v := 0) E1 E2 d_Ne_set_36 (by decide) ?_
        have hq : o_Ne_set N ba pa co vl = (0, N) := Eq.trans (bn_oc_s ho1) (Eq.trans (if_neg h3) (if_pos h4))
        exact bn_retz2 F hr rfl hk h hq d_Ne_set_37
      · have h4 : ¬ (50 < co) := h4
        refine lv_iload E1 E2 d_Ne_set_24 (lv_at hl 5 rfl) ?_
        refine lv_iconst (v := 1) E1 E2 d_Ne_set_26 (by decide) ?_
        refine lv_icmp_lt E1 E2 d_Ne_set_27 rfl (fun h5 => ?_) (fun h5 => ?_)
        · have h5 : vl < 1 := h5
          refine lv_iconst (v := 0) E1 E2 d_Ne_set_36 (by decide) ?_
          have hq : o_Ne_set N ba pa co vl = (0, N) := Eq.trans (bn_oc_s ho1) (Eq.trans (if_neg h3) (Eq.trans (if_neg h4) (if_pos h5)))
          exact bn_retz2 F hr rfl hk h hq d_Ne_set_37
        · have h5 : ¬ (vl < 1) := h5
          refine lv_iload E1 E2 d_Ne_set_30 (lv_at hl 5 rfl) ?_
          refine lv_iconst (v := 3) E1 E2 d_Ne_set_32 (by decide) ?_
          refine lv_icmp_le E1 E2 d_Ne_set_33 rfl (fun h6 => ?_) (fun h6 => ?_)
          · have h6 : vl ≤ 3 := h6
            refine lv_aload E1 E2 d_Ne_set_38 (lv_at hl 0 rfl) ?_
            refine lv_iload_n E1 E2 d_Ne_set_40 rfl (lv_at hl 4 rfl) ?_
            have hn_co := bn_natlt1 (n := 50) h3 h4 (by decide)
            have hn_co2 := hn_co.2
            refine bn_ti hn_co.1 ?_
            refine p_Po_cost F h (by omega) k_139 d_Ne_set_41 (fun H locs h => ?_)
            have h : bn_H (bn_y D ar ad nf) s.heap H locs (sI N 5 y2 (nI (co.toNatClampNeg))) := h
            refine lv_aload E1 E2 d_Ne_set_44 (lv_at hl 0 rfl) ?_
            refine lv_iload E1 E2 d_Ne_set_46 (lv_at hl 5 rfl) ?_
            refine p_Po_vlans F h (by omega) k_142 d_Ne_set_48 (fun H locs h => ?_)
            have h : bn_H (bn_y D ar ad nf) s.heap H locs (sI (sI N 5 y2 (nI (co.toNatClampNeg))) 6 y2 vl) := h
            refine lv_aload E1 E2 d_Ne_set_51 (lv_at hl 0 rfl) ?_
            refine g_Po_owner F h (by omega) k_132 d_Ne_set_53 ?_
            refine bn_callv F h (bn_runV (n := 0) (As := []) (rest := []) F hml hl.1 h (mm_2 (by omega)) rfl rfl (c_Br_compute l D ar ad nf (sI (sI N 5 y2 (nI (co.toNatClampNeg))) 6 y2 vl) (y2 / 4) (by omega) _) (bn_goodV k_248 k_249 k_250 k_2 k_251) rfl rfl (by decide) ⟨by decide, by decide⟩ rfl rfl (Nat.le_of_ble_eq_true rfl) d_Ne_set_56 ⟨Nat.zero_le _, Nat.zero_le _⟩) (fun H locs h => ?_)
            have h : bn_H (bn_y D ar ad nf) s.heap H locs (o_Br_compute (sI (sI N 5 y2 (nI (co.toNatClampNeg))) 6 y2 vl) (y2 / 4)) := h
            refine lv_iconst (v := 1) E1 E2 d_Ne_set_59 (by decide) ?_
            have hq : o_Ne_set N ba pa co vl = (1, (o_Br_compute (sI (sI N 5 y2 (nI (co.toNatClampNeg))) 6 y2 vl) (y2 / 4))) := Eq.trans (bn_oc_s ho1) (Eq.trans (if_neg h3) (Eq.trans (if_neg h4) (Eq.trans (if_neg h5) (if_pos h6))))
            exact bn_retz2 F hr rfl hk h hq d_Ne_set_60
          · have h6 : ¬ (vl ≤ 3) := h6
            refine lv_iconst (v := 0) E1 E2 d_Ne_set_36 (by decide) ?_
            have hq : o_Ne_set N ba pa co vl = (0, N) := Eq.trans (bn_oc_s ho1) (Eq.trans (if_neg h3) (Eq.trans (if_neg h4) (Eq.trans (if_neg h5) (if_neg h6))))
            exact bn_retz2 F hr rfl hk h hq d_Ne_set_37
def o_Ne_link (N : bn_S) (ba : Int32) (pa : Int32) (ca : Int32) (qa : Int32) : Int32 × bn_S := (bn_oc (r_Ne_findPort N ba pa) (bn_oc (r_Ne_findPort N ca qa) (0, N) (fun y4 => (0, N))) (fun y2 => (bn_oc (r_Ne_findPort N ca qa) (0, N) (fun y6 => (if ba = ca then (0, N) else (if r_Po_isFree N y2 = 0 then (0, N) else (if r_Po_isFree N y6 = 0 then (0, N) else (1, (o_Br_compute (o_Br_compute (o_Po_join (o_Po_join N y2 (some y6) none) y6 (some y2) none) (y2 / 4)) (y6 / 4))))))))))
set_option maxHeartbeats 4000000 in
set_option maxRecDepth 100000 in
theorem c_Ne_link (l : Launch) (D : va_G) (ar : Nat → ClassId) (ad : Nat → Nat → Nat) (nf : Nat) (N : bn_S)  (ba : Int32) (pa : Int32) (ca : Int32) (qa : Int32) : bn_I l y_Ne_link w_Ne_link { frames := 5, cells := 0, slots := 0, locals := 118 } (bn_y D ar ad nf) N [.ref (ad 0 0), .int ba, .int pa, .int ca, .int qa] (o_Ne_link N ba pa ca qa).1 (o_Ne_link N ba pa ca qa).2 := by
  intro sz
  refine bn_start (cc := b_Ne_link) (maxL := 7) (ret := (Option.some Jvm.ClassFile.FieldType.boolean)) (by decide) rfl (Nat.le_of_ble_eq_true rfl) ?_
  intro p e s m args below meth c ls hsz F hml hr hk hl h
  subst hsz
  have E1 := F.1
  have E2 := F.2.1
  have hl : lv_has ls 7 [(0, .ref (ad 0 0)), (1, .int ba), (2, .int pa), (3, .int ca), (4, .int qa)] := hl
  refine lv_aload_n E1 E2 d_Ne_link_0 rfl (lv_at hl 0 rfl) ?_
  refine lv_iload_n E1 E2 d_Ne_link_1 rfl (lv_at hl 1 rfl) ?_
  refine lv_iload_n E1 E2 d_Ne_link_2 rfl (lv_at hl 2 rfl) ?_
  have hwf := h.2.2.2
  refine bn_callq F h (bn_runV (n := 2) (As := [.int ba, .int pa]) (rest := []) F hml hl.1 h mm_0 rfl rfl (c_Ne_findPort l D ar ad nf N ba pa _) (bn_goodV k_321 k_323 ks_Ne_findPort k_1 k_324) rfl rfl (by decide) ⟨by decide, by decide⟩ rfl rfl (Nat.le_of_ble_eq_true rfl) d_Ne_link_3 ⟨Nat.zero_le _, Nat.zero_le _⟩) (fun H locs h => ?_)
  refine bn_oq (f := ad 6) (o := r_Ne_findPort N ba pa) (fun ho1 => ?_) (fun y2 ho1 => ?_)
  · skip
    refine lv_astoreN E1 E2 d_Ne_link_6 hl (by decide) rfl (fun ls hl => ?_)
    have hl : lv_has ls 7 [(5, .null), (0, .ref (ad 0 0)), (1, .int ba), (2, .int pa), (3, .int ca), (4, .int qa)] := hl
    refine lv_aload_n E1 E2 d_Ne_link_8 rfl (lv_at hl 1 rfl) ?_
    refine lv_iload_n E1 E2 d_Ne_link_9 rfl (lv_at hl 4 rfl) ?_
    refine lv_iload E1 E2 d_Ne_link_10 (lv_at hl 5 rfl) ?_
    have hwf := h.2.2.2
    refine bn_callq F h (bn_runV (n := 2) (As := [.int ca, .int qa]) (rest := []) F hml hl.1 h mm_0 rfl rfl (c_Ne_findPort l D ar ad nf N ca qa _) (bn_goodV k_321 k_323 ks_Ne_findPort k_1 k_324) rfl rfl (by decide) ⟨by decide, by decide⟩ rfl rfl (Nat.le_of_ble_eq_true rfl) d_Ne_link_12 ⟨Nat.zero_le _, Nat.zero_le _⟩) (fun H locs h => ?_)
    refine bn_oq (f := ad 6) (o := r_Ne_findPort N ca qa) (fun ho3 => ?_) (fun y4 ho3 => ?_)
    · skip
      refine lv_astoreN E1 E2 d_Ne_link_15 hl (by decide) rfl (fun ls hl => ?_)
      have hl : lv_has ls 7 [(6, .null), (5, .null), (0, .ref (ad 0 0)), (1, .int ba), (2, .int pa), (3, .int ca), (4, .int qa)] := hl
      refine lv_aloadN E1 E2 d_Ne_link_17 (lv_at hl 1 rfl) ?_
      refine lv_ifnullN E1 E2 d_Ne_link_19 rfl ?_
      refine lv_iconst (v := 0) E1 E2 d_Ne_link_48 (by decide) ?_
      have hq : o_Ne_link N ba pa ca qa = (0, N) := Eq.trans (bn_oc_n ho1) (bn_oc_n ho3)
      exact bn_retz2 F hr rfl hk h hq d_Ne_link_49
    · have hy4 := lt_Ne_findPort ho3
      refine lv_astore E1 E2 d_Ne_link_15 hl (by decide) rfl (fun ls hl => ?_)
      have hl : lv_has ls 7 [(6, .ref (ad 6 y4)), (5, .null), (0, .ref (ad 0 0)), (1, .int ba), (2, .int pa), (3, .int ca), (4, .int qa)] := hl
      refine lv_aloadN E1 E2 d_Ne_link_17 (lv_at hl 1 rfl) ?_
      refine lv_ifnullN E1 E2 d_Ne_link_19 rfl ?_
      refine lv_iconst (v := 0) E1 E2 d_Ne_link_48 (by decide) ?_
      have hq : o_Ne_link N ba pa ca qa = (0, N) := Eq.trans (bn_oc_n ho1) (bn_oc_s ho3)
      exact bn_retz2 F hr rfl hk h hq d_Ne_link_49
  · have hy2 := lt_Ne_findPort ho1
    refine lv_astore E1 E2 d_Ne_link_6 hl (by decide) rfl (fun ls hl => ?_)
    have hl : lv_has ls 7 [(5, .ref (ad 6 y2)), (0, .ref (ad 0 0)), (1, .int ba), (2, .int pa), (3, .int ca), (4, .int qa)] := hl
    refine lv_aload_n E1 E2 d_Ne_link_8 rfl (lv_at hl 1 rfl) ?_
    refine lv_iload_n E1 E2 d_Ne_link_9 rfl (lv_at hl 4 rfl) ?_
    refine lv_iload E1 E2 d_Ne_link_10 (lv_at hl 5 rfl) ?_
    have hwf := h.2.2.2
    refine bn_callq F h (bn_runV (n := 2) (As := [.int ca, .int qa]) (rest := []) F hml hl.1 h mm_0 rfl rfl (c_Ne_findPort l D ar ad nf N ca qa _) (bn_goodV k_321 k_323 ks_Ne_findPort k_1 k_324) rfl rfl (by decide) ⟨by decide, by decide⟩ rfl rfl (Nat.le_of_ble_eq_true rfl) d_Ne_link_12 ⟨Nat.zero_le _, Nat.zero_le _⟩) (fun H locs h => ?_)
    refine bn_oq (f := ad 6) (o := r_Ne_findPort N ca qa) (fun ho5 => ?_) (fun y6 ho5 => ?_)
    · skip
      refine lv_astoreN E1 E2 d_Ne_link_15 hl (by decide) rfl (fun ls hl => ?_)
      have hl : lv_has ls 7 [(6, .null), (5, .ref (ad 6 y2)), (0, .ref (ad 0 0)), (1, .int ba), (2, .int pa), (3, .int ca), (4, .int qa)] := hl
      refine lv_aload E1 E2 d_Ne_link_17 (lv_at hl 1 rfl) ?_
      refine lv_ifnull E1 E2 d_Ne_link_19 ?_
      refine lv_aloadN E1 E2 d_Ne_link_22 (lv_at hl 0 rfl) ?_
      refine lv_ifnullN E1 E2 d_Ne_link_24 rfl ?_
      refine lv_iconst (v := 0) E1 E2 d_Ne_link_48 (by decide) ?_
      have hq : o_Ne_link N ba pa ca qa = (0, N) := Eq.trans (bn_oc_s ho1) (bn_oc_n ho5)
      exact bn_retz2 F hr rfl hk h hq d_Ne_link_49
    · have hy6 := lt_Ne_findPort ho5
      refine lv_astore E1 E2 d_Ne_link_15 hl (by decide) rfl (fun ls hl => ?_)
      have hl : lv_has ls 7 [(6, .ref (ad 6 y6)), (5, .ref (ad 6 y2)), (0, .ref (ad 0 0)), (1, .int ba), (2, .int pa), (3, .int ca), (4, .int qa)] := hl
      refine lv_aload E1 E2 d_Ne_link_17 (lv_at hl 1 rfl) ?_
      refine lv_ifnull E1 E2 d_Ne_link_19 ?_
      refine lv_aload E1 E2 d_Ne_link_22 (lv_at hl 0 rfl) ?_
      refine lv_ifnull E1 E2 d_Ne_link_24 ?_
      refine lv_iload_n E1 E2 d_Ne_link_27 rfl (lv_at hl 3 rfl) ?_
      refine lv_iload_n E1 E2 d_Ne_link_28 rfl (lv_at hl 5 rfl) ?_
      refine lv_icmp_eq E1 E2 d_Ne_link_29 rfl (fun h7 => ?_) (fun h7 => ?_)
      · have h7 : ba = ca := h7
        refine lv_iconst (v := 0) E1 E2 d_Ne_link_48 (by decide) ?_
        have hq : o_Ne_link N ba pa ca qa = (0, N) := Eq.trans (bn_oc_s ho1) (Eq.trans (bn_oc_s ho5) (if_pos h7))
        exact bn_retz2 F hr rfl hk h hq d_Ne_link_49
      · have h7 : ¬ (ba = ca) := h7
        refine lv_aload E1 E2 d_Ne_link_32 (lv_at hl 1 rfl) ?_
        refine bn_calli F h (bn_runV (n := 0) (As := []) (rest := []) F hml hl.1 h (mm_6 (by omega)) rfl rfl (c_Po_isFree l D ar ad nf N y2 (by omega) _) (bn_goodV k_329 k_241 k_242 k_3 k_243) rfl rfl (by decide) ⟨by decide, by decide⟩ rfl rfl (Nat.le_of_ble_eq_true rfl) d_Ne_link_34 ⟨Nat.zero_le _, Nat.zero_le _⟩) (fun H locs h => ?_)
        refine lv_if_eq E1 E2 d_Ne_link_37 rfl (fun h8 => ?_) (fun h8 => ?_)
        · have h8 : r_Po_isFree N y2 = 0 := h8
          refine lv_iconst (v := 0) E1 E2 d_Ne_link_48 (by decide) ?_
          have hq : o_Ne_link N ba pa ca qa = (0, N) := Eq.trans (bn_oc_s ho1) (Eq.trans (bn_oc_s ho5) (Eq.trans (if_neg h7) (if_pos h8)))
          exact bn_retz2 F hr rfl hk h hq d_Ne_link_49
        · have h8 : ¬ (r_Po_isFree N y2 = 0) := h8
          refine lv_aload E1 E2 d_Ne_link_40 (lv_at hl 0 rfl) ?_
          refine bn_calli F h (bn_runV (n := 0) (As := []) (rest := []) F hml hl.1 h (mm_6 (by omega)) rfl rfl (c_Po_isFree l D ar ad nf N y6 (by omega) _) (bn_goodV k_329 k_241 k_242 k_3 k_243) rfl rfl (by decide) ⟨by decide, by decide⟩ rfl rfl (Nat.le_of_ble_eq_true rfl) d_Ne_link_42 ⟨Nat.zero_le _, Nat.zero_le _⟩) (fun H locs h => ?_)
          refine lv_if_ne E1 E2 d_Ne_link_45 rfl (fun h9 => ?_) (fun h9 => ?_)
          · have h9 : ¬ (r_Po_isFree N y6 = 0) := h9
            refine lv_aload E1 E2 d_Ne_link_50 (lv_at hl 1 rfl) ?_
            refine lv_aload E1 E2 d_Ne_link_52 (lv_at hl 0 rfl) ?_
            refine lv_null E1 E2 d_Ne_link_54 ?_
            refine bn_callv F h (bn_runV (n := 2) (As := [.ref (ad 6 y6), .null]) (rest := []) F hml hl.1 h (mm_6 (by omega)) rfl rfl (c_Po_join l D ar ad nf N y2 (by omega) (some y6) (fun _ hz => by cases hz; omega) none (fun _ hz => by cases hz) _) (bn_goodV k_330 k_331 k_332 k_3 k_333) rfl rfl (by decide) ⟨by decide, by decide⟩ rfl rfl (Nat.le_of_ble_eq_true rfl) d_Ne_link_55 ⟨Nat.zero_le _, Nat.zero_le _⟩) (fun H locs h => ?_)
            have h : bn_H (bn_y D ar ad nf) s.heap H locs (o_Po_join N y2 (some y6) none) := h
            refine lv_aload E1 E2 d_Ne_link_58 (lv_at hl 0 rfl) ?_
            refine lv_aload E1 E2 d_Ne_link_60 (lv_at hl 1 rfl) ?_
            refine lv_null E1 E2 d_Ne_link_62 ?_
            refine bn_callv F h (bn_runV (n := 2) (As := [.ref (ad 6 y2), .null]) (rest := []) F hml hl.1 h (mm_6 (by omega)) rfl rfl (c_Po_join l D ar ad nf (o_Po_join N y2 (some y6) none) y6 (by omega) (some y2) (fun _ hz => by cases hz; omega) none (fun _ hz => by cases hz) _) (bn_goodV k_330 k_331 k_332 k_3 k_333) rfl rfl (by decide) ⟨by decide, by decide⟩ rfl rfl (Nat.le_of_ble_eq_true rfl) d_Ne_link_63 ⟨Nat.zero_le _, Nat.zero_le _⟩) (fun H locs h => ?_)
            have h : bn_H (bn_y D ar ad nf) s.heap H locs (o_Po_join (o_Po_join N y2 (some y6) none) y6 (some y2) none) := h
            refine lv_aload E1 E2 d_Ne_link_66 (lv_at hl 1 rfl) ?_
            refine g_Po_owner F h (by omega) k_132 d_Ne_link_68 ?_
            refine bn_callv F h (bn_runV (n := 0) (As := []) (rest := []) F hml hl.1 h (mm_2 (by omega)) rfl rfl (c_Br_compute l D ar ad nf (o_Po_join (o_Po_join N y2 (some y6) none) y6 (some y2) none) (y2 / 4) (by omega) _) (bn_goodV k_248 k_249 k_250 k_2 k_251) rfl rfl (by decide) ⟨by decide, by decide⟩ rfl rfl (Nat.le_of_ble_eq_true rfl) d_Ne_link_71 ⟨Nat.zero_le _, Nat.zero_le _⟩) (fun H locs h => ?_)
            have h : bn_H (bn_y D ar ad nf) s.heap H locs (o_Br_compute (o_Po_join (o_Po_join N y2 (some y6) none) y6 (some y2) none) (y2 / 4)) := h
            refine lv_aload E1 E2 d_Ne_link_74 (lv_at hl 0 rfl) ?_
            refine g_Po_owner F h (by omega) k_132 d_Ne_link_76 ?_
            refine bn_callv F h (bn_runV (n := 0) (As := []) (rest := []) F hml hl.1 h (mm_2 (by omega)) rfl rfl (c_Br_compute l D ar ad nf (o_Br_compute (o_Po_join (o_Po_join N y2 (some y6) none) y6 (some y2) none) (y2 / 4)) (y6 / 4) (by omega) _) (bn_goodV k_248 k_249 k_250 k_2 k_251) rfl rfl (by decide) ⟨by decide, by decide⟩ rfl rfl (Nat.le_of_ble_eq_true rfl) d_Ne_link_79 ⟨Nat.zero_le _, Nat.zero_le _⟩) (fun H locs h => ?_)
            have h : bn_H (bn_y D ar ad nf) s.heap H locs (o_Br_compute (o_Br_compute (o_Po_join (o_Po_join N y2 (some y6) none) y6 (some y2) none) (y2 / 4)) (y6 / 4)) := h
            refine lv_iconst (v := 1) E1 E2 d_Ne_link_82 (by decide) ?_
            have hq : o_Ne_link N ba pa ca qa = (1, (o_Br_compute (o_Br_compute (o_Po_join (o_Po_join N y2 (some y6) none) y6 (some y2) none) (y2 / 4)) (y6 / 4))) := Eq.trans (bn_oc_s ho1) (Eq.trans (bn_oc_s ho5) (Eq.trans (if_neg h7) (Eq.trans (if_neg h8) (if_neg h9))))
            exact bn_retz2 F hr rfl hk h hq d_Ne_link_83
          · have h9 : r_Po_isFree N y6 = 0 := h9
            refine lv_iconst (v := 0) E1 E2 d_Ne_link_48 (by decide) ?_
            have hq : o_Ne_link N ba pa ca qa = (0, N) := Eq.trans (bn_oc_s ho1) (Eq.trans (bn_oc_s ho5) (Eq.trans (if_neg h7) (Eq.trans (if_neg h8) (if_pos h9))))
            exact bn_retz2 F hr rfl hk h hq d_Ne_link_49
def o_Ne_cut (N : bn_S) (ba : Int32) (pa : Int32) : Int32 × bn_S := (bn_oc (r_Ne_findPort N ba pa) (0, N) (fun y2 => (bn_oc (N.2.2.2 2 y2) (0, N) (fun y4 => (1, (o_Br_compute (o_Br_compute (o_Po_join (o_Po_join N y2 none none) y4 none none) (y2 / 4)) (y4 / 4)))))))
set_option maxHeartbeats 4000000 in
set_option maxRecDepth 100000 in
theorem c_Ne_cut (l : Launch) (D : va_G) (ar : Nat → ClassId) (ad : Nat → Nat → Nat) (nf : Nat) (N : bn_S)  (ba : Int32) (pa : Int32) : bn_I l y_Ne_cut w_Ne_cut { frames := 5, cells := 0, slots := 0, locals := 118 } (bn_y D ar ad nf) N [.ref (ad 0 0), .int ba, .int pa] (o_Ne_cut N ba pa).1 (o_Ne_cut N ba pa).2 := by
  intro sz
  refine bn_start (cc := b_Ne_cut) (maxL := 5) (ret := (Option.some Jvm.ClassFile.FieldType.boolean)) (by decide) rfl (Nat.le_of_ble_eq_true rfl) ?_
  intro p e s m args below meth c ls hsz F hml hr hk hl h
  subst hsz
  have E1 := F.1
  have E2 := F.2.1
  have hl : lv_has ls 5 [(0, .ref (ad 0 0)), (1, .int ba), (2, .int pa)] := hl
  refine lv_aload_n E1 E2 d_Ne_cut_0 rfl (lv_at hl 0 rfl) ?_
  refine lv_iload_n E1 E2 d_Ne_cut_1 rfl (lv_at hl 1 rfl) ?_
  refine lv_iload_n E1 E2 d_Ne_cut_2 rfl (lv_at hl 2 rfl) ?_
  have hwf := h.2.2.2
  refine bn_callq F h (bn_runV (n := 2) (As := [.int ba, .int pa]) (rest := []) F hml hl.1 h mm_0 rfl rfl (c_Ne_findPort l D ar ad nf N ba pa _) (bn_goodV k_321 k_323 ks_Ne_findPort k_1 k_324) rfl rfl (by decide) ⟨by decide, by decide⟩ rfl rfl (Nat.le_of_ble_eq_true rfl) d_Ne_cut_3 ⟨Nat.zero_le _, Nat.zero_le _⟩) (fun H locs h => ?_)
  refine bn_oq (f := ad 6) (o := r_Ne_findPort N ba pa) (fun ho1 => ?_) (fun y2 ho1 => ?_)
  · skip
    refine lv_astore_nN E1 E2 d_Ne_cut_6 rfl hl (by decide) rfl (fun ls hl => ?_)
    have hl : lv_has ls 5 [(3, .null), (0, .ref (ad 0 0)), (1, .int ba), (2, .int pa)] := hl
    refine lv_aload_nN E1 E2 d_Ne_cut_7 rfl (lv_at hl 0 rfl) ?_
    refine lv_ifnullN E1 E2 d_Ne_cut_8 rfl ?_
    refine lv_iconst (v := 0) E1 E2 d_Ne_cut_18 (by decide) ?_
    have hq : o_Ne_cut N ba pa = (0, N) := bn_oc_n ho1
    exact bn_retz2 F hr rfl hk h hq d_Ne_cut_19
  · have hy2 := lt_Ne_findPort ho1
    refine lv_astore_n E1 E2 d_Ne_cut_6 rfl hl (by decide) rfl (fun ls hl => ?_)
    have hl : lv_has ls 5 [(3, .ref (ad 6 y2)), (0, .ref (ad 0 0)), (1, .int ba), (2, .int pa)] := hl
    refine lv_aload_n E1 E2 d_Ne_cut_7 rfl (lv_at hl 0 rfl) ?_
    refine lv_ifnull E1 E2 d_Ne_cut_8 ?_
    refine lv_aload_n E1 E2 d_Ne_cut_11 rfl (lv_at hl 0 rfl) ?_
    refine g_Po_peer F h (by omega) k_144 d_Ne_cut_12 (fun ho3 => ?_) (fun y4 ho3 hy4 => ?_)
    · skip
      refine lv_ifnonnullN E1 E2 d_Ne_cut_15 ?_
      refine lv_iconst (v := 0) E1 E2 d_Ne_cut_18 (by decide) ?_
      have hq : o_Ne_cut N ba pa = (0, N) := Eq.trans (bn_oc_s ho1) (bn_oc_n ho3)
      exact bn_retz2 F hr rfl hk h hq d_Ne_cut_19
    · skip
      refine lv_ifnonnull E1 E2 d_Ne_cut_15 rfl ?_
      refine lv_aload_n E1 E2 d_Ne_cut_20 rfl (lv_at hl 0 rfl) ?_
      refine g_Po_peer_s F h (by omega) k_144 ho3 d_Ne_cut_21 ?_
      refine lv_astore E1 E2 d_Ne_cut_24 hl (by decide) rfl (fun ls hl => ?_)
      have hl : lv_has ls 5 [(4, .ref (ad 6 y4)), (3, .ref (ad 6 y2)), (0, .ref (ad 0 0)), (1, .int ba), (2, .int pa)] := hl
      refine lv_aload_n E1 E2 d_Ne_cut_26 rfl (lv_at hl 1 rfl) ?_
      refine lv_null E1 E2 d_Ne_cut_27 ?_
      refine lv_null E1 E2 d_Ne_cut_28 ?_
      refine bn_callv F h (bn_runV (n := 2) (As := [.null, .null]) (rest := []) F hml hl.1 h (mm_6 (by omega)) rfl rfl (c_Po_join l D ar ad nf N y2 (by omega) none (fun _ hz => by cases hz) none (fun _ hz => by cases hz) _) (bn_goodV k_330 k_331 k_332 k_3 k_333) rfl rfl (by decide) ⟨by decide, by decide⟩ rfl rfl (Nat.le_of_ble_eq_true rfl) d_Ne_cut_29 ⟨Nat.zero_le _, Nat.zero_le _⟩) (fun H locs h => ?_)
      have h : bn_H (bn_y D ar ad nf) s.heap H locs (o_Po_join N y2 none none) := h
      refine lv_aload E1 E2 d_Ne_cut_32 (lv_at hl 0 rfl) ?_
      refine lv_null E1 E2 d_Ne_cut_34 ?_
      refine lv_null E1 E2 d_Ne_cut_35 ?_
      refine bn_callv F h (bn_runV (n := 2) (As := [.null, .null]) (rest := []) F hml hl.1 h (mm_6 (by omega)) rfl rfl (c_Po_join l D ar ad nf (o_Po_join N y2 none none) y4 (by omega) none (fun _ hz => by cases hz) none (fun _ hz => by cases hz) _) (bn_goodV k_330 k_331 k_332 k_3 k_333) rfl rfl (by decide) ⟨by decide, by decide⟩ rfl rfl (Nat.le_of_ble_eq_true rfl) d_Ne_cut_36 ⟨Nat.zero_le _, Nat.zero_le _⟩) (fun H locs h => ?_)
      have h : bn_H (bn_y D ar ad nf) s.heap H locs (o_Po_join (o_Po_join N y2 none none) y4 none none) := h
      refine lv_aload_n E1 E2 d_Ne_cut_39 rfl (lv_at hl 1 rfl) ?_
      refine g_Po_owner F h (by omega) k_132 d_Ne_cut_40 ?_
      refine bn_callv F h (bn_runV (n := 0) (As := []) (rest := []) F hml hl.1 h (mm_2 (by omega)) rfl rfl (c_Br_compute l D ar ad nf (o_Po_join (o_Po_join N y2 none none) y4 none none) (y2 / 4) (by omega) _) (bn_goodV k_248 k_249 k_250 k_2 k_251) rfl rfl (by decide) ⟨by decide, by decide⟩ rfl rfl (Nat.le_of_ble_eq_true rfl) d_Ne_cut_43 ⟨Nat.zero_le _, Nat.zero_le _⟩) (fun H locs h => ?_)
      have h : bn_H (bn_y D ar ad nf) s.heap H locs (o_Br_compute (o_Po_join (o_Po_join N y2 none none) y4 none none) (y2 / 4)) := h
      refine lv_aload E1 E2 d_Ne_cut_46 (lv_at hl 0 rfl) ?_
      refine g_Po_owner F h (by omega) k_132 d_Ne_cut_48 ?_
      refine bn_callv F h (bn_runV (n := 0) (As := []) (rest := []) F hml hl.1 h (mm_2 (by omega)) rfl rfl (c_Br_compute l D ar ad nf (o_Br_compute (o_Po_join (o_Po_join N y2 none none) y4 none none) (y2 / 4)) (y4 / 4) (by omega) _) (bn_goodV k_248 k_249 k_250 k_2 k_251) rfl rfl (by decide) ⟨by decide, by decide⟩ rfl rfl (Nat.le_of_ble_eq_true rfl) d_Ne_cut_51 ⟨Nat.zero_le _, Nat.zero_le _⟩) (fun H locs h => ?_)
      have h : bn_H (bn_y D ar ad nf) s.heap H locs (o_Br_compute (o_Br_compute (o_Po_join (o_Po_join N y2 none none) y4 none none) (y2 / 4)) (y4 / 4)) := h
      refine lv_iconst (v := 1) E1 E2 d_Ne_cut_54 (by decide) ?_
      have hq : o_Ne_cut N ba pa = (1, (o_Br_compute (o_Br_compute (o_Po_join (o_Po_join N y2 none none) y4 none none) (y2 / 4)) (y4 / 4))) := Eq.trans (bn_oc_s ho1) (bn_oc_s ho3)
      exact bn_retz2 F hr rfl hk h hq d_Ne_cut_55
def o_Ne_lose (N : bn_S) (ba : Int32) (pa : Int32) : Int32 × bn_S := (bn_oc (r_Ne_findPort N ba pa) (0, N) (fun y2 => (bn_oc ((o_Li_takeFirst N y2).1) (0, (o_Li_takeFirst N y2).2) (fun y4 => (1, (o_Li_takeFirst N y2).2)))))
set_option maxHeartbeats 4000000 in
set_option maxRecDepth 100000 in
theorem c_Ne_lose (l : Launch) (D : va_G) (ar : Nat → ClassId) (ad : Nat → Nat → Nat) (nf : Nat) (N : bn_S)  (ba : Int32) (pa : Int32) : bn_I l y_Ne_lose w_Ne_lose { frames := 2, cells := 0, slots := 0, locals := 42 } (bn_y D ar ad nf) N [.ref (ad 0 0), .int ba, .int pa] (o_Ne_lose N ba pa).1 (o_Ne_lose N ba pa).2 := by
  intro sz
  refine bn_start (cc := b_Ne_lose) (maxL := 4) (ret := (Option.some Jvm.ClassFile.FieldType.boolean)) (by decide) rfl (Nat.le_of_ble_eq_true rfl) ?_
  intro p e s m args below meth c ls hsz F hml hr hk hl h
  subst hsz
  have E1 := F.1
  have E2 := F.2.1
  have hl : lv_has ls 4 [(0, .ref (ad 0 0)), (1, .int ba), (2, .int pa)] := hl
  refine lv_aload_n E1 E2 d_Ne_lose_0 rfl (lv_at hl 0 rfl) ?_
  refine lv_iload_n E1 E2 d_Ne_lose_1 rfl (lv_at hl 1 rfl) ?_
  refine lv_iload_n E1 E2 d_Ne_lose_2 rfl (lv_at hl 2 rfl) ?_
  have hwf := h.2.2.2
  refine bn_callq F h (bn_runV (n := 2) (As := [.int ba, .int pa]) (rest := []) F hml hl.1 h mm_0 rfl rfl (c_Ne_findPort l D ar ad nf N ba pa _) (bn_goodV k_321 k_323 ks_Ne_findPort k_1 k_324) rfl rfl (by decide) ⟨by decide, by decide⟩ rfl rfl (Nat.le_of_ble_eq_true rfl) d_Ne_lose_3 ⟨Nat.zero_le _, Nat.zero_le _⟩) (fun H locs h => ?_)
  refine bn_oq (f := ad 6) (o := r_Ne_findPort N ba pa) (fun ho1 => ?_) (fun y2 ho1 => ?_)
  · skip
    refine lv_astore_nN E1 E2 d_Ne_lose_6 rfl hl (by decide) rfl (fun ls hl => ?_)
    have hl : lv_has ls 4 [(3, .null), (0, .ref (ad 0 0)), (1, .int ba), (2, .int pa)] := hl
    refine lv_aload_nN E1 E2 d_Ne_lose_7 rfl (lv_at hl 0 rfl) ?_
    refine lv_ifnullN E1 E2 d_Ne_lose_8 rfl ?_
    refine lv_iconst (v := 0) E1 E2 d_Ne_lose_25 (by decide) ?_
    have hq : o_Ne_lose N ba pa = (0, N) := bn_oc_n ho1
    exact bn_retz2 F hr rfl hk h hq d_Ne_lose_26
  · have hy2 := lt_Ne_findPort ho1
    refine lv_astore_n E1 E2 d_Ne_lose_6 rfl hl (by decide) rfl (fun ls hl => ?_)
    have hl : lv_has ls 4 [(3, .ref (ad 6 y2)), (0, .ref (ad 0 0)), (1, .int ba), (2, .int pa)] := hl
    refine lv_aload_n E1 E2 d_Ne_lose_7 rfl (lv_at hl 0 rfl) ?_
    refine lv_ifnull E1 E2 d_Ne_lose_8 ?_
    refine lv_aload_n E1 E2 d_Ne_lose_11 rfl (lv_at hl 0 rfl) ?_
    refine g_Po_line F h (by omega) k_136 d_Ne_lose_12 ?_
    have hwf := h.2.2.2
    refine bn_callq F h (bn_runV (n := 0) (As := []) (rest := []) F hml hl.1 h (mm_7 (by omega)) rfl rfl (c_Li_takeFirst l D ar ad nf N y2 (by omega) _) (bn_goodV k_351 k_352 k_353 k_4 k_354) rfl rfl (by decide) ⟨by decide, by decide⟩ rfl rfl (Nat.le_of_ble_eq_true rfl) d_Ne_lose_15 ⟨Nat.zero_le _, Nat.zero_le _⟩) (fun H locs h => ?_)
    have h : bn_H (bn_y D ar ad nf) s.heap H locs (o_Li_takeFirst N y2).2 := h
    refine bn_oq (f := ad 9) (o := (o_Li_takeFirst N y2).1) (fun ho3 => ?_) (fun y4 ho3 => ?_)
    · skip
      refine lv_ifnullN E1 E2 d_Ne_lose_18 rfl ?_
      refine lv_iconst (v := 0) E1 E2 d_Ne_lose_25 (by decide) ?_
      have hq : o_Ne_lose N ba pa = (0, (o_Li_takeFirst N y2).2) := Eq.trans (bn_oc_s ho1) (bn_oc_n ho3)
      exact bn_retz2 F hr rfl hk h hq d_Ne_lose_26
    · have hy4 := lt_Li_takeFirst hwf (by omega) ho3
      refine lv_ifnull E1 E2 d_Ne_lose_18 ?_
      refine lv_iconst (v := 1) E1 E2 d_Ne_lose_21 (by decide) ?_
      refine lv_goto E1 E2 d_Ne_lose_22 rfl ?_
      have hq : o_Ne_lose N ba pa = (1, (o_Li_takeFirst N y2).2) := Eq.trans (bn_oc_s ho1) (bn_oc_s ho3)
      exact bn_retz2 F hr rfl hk h hq d_Ne_lose_26
def bd_Ne_tick  (k : Nat) (q : bn_S) : bn_S := (if ((o_Br_age q k).2.1 1 0) = 0 then (o_Br_age q k) else (o_Br_tellOnAll (o_Br_age q k) k))
def it_Ne_tick  (q0 : bn_S) : Nat → bn_S
  | 0 => q0
  | k + 1 => bd_Ne_tick  k (it_Ne_tick  q0 k)
theorem it_Ne_tick_s  (q0 : bn_S) (k : Nat) : bd_Ne_tick  k (it_Ne_tick  q0 k) = it_Ne_tick  q0 (k + 1) := rfl
def o_Ne_tick (N : bn_S)  : bn_S := (if ((it_Ne_tick  N 5).2.1 1 0) = 0 then (sU (it_Ne_tick  N 5) 1 0 1) else (sU (it_Ne_tick  N 5) 1 0 0))
set_option maxHeartbeats 4000000 in
set_option maxRecDepth 100000 in
theorem c_Ne_tick (l : Launch) (D : va_G) (ar : Nat → ClassId) (ad : Nat → Nat → Nat) (nf : Nat) (N : bn_S)  : bn_V l y_Ne_tick w_Ne_tick { frames := 6, cells := 0, slots := 0, locals := 142 } (bn_y D ar ad nf) N [.ref (ad 0 0)] (o_Ne_tick N) := by
  intro sz
  refine bn_start (cc := b_Ne_tick) (maxL := 2) (ret := (Option.none : Option Jvm.ClassFile.FieldType)) (by decide) rfl (Nat.le_of_ble_eq_true rfl) ?_
  intro p e s m args below meth c ls hsz F hml hr hk hl h
  subst hsz
  have E1 := F.1
  have E2 := F.2.1
  have hl : lv_has ls 2 [(0, .ref (ad 0 0))] := hl
  refine lv_iconst (v := 0) E1 E2 d_Ne_tick_0 (by decide) ?_
  refine lv_istore_n E1 E2 d_Ne_tick_1 rfl hl (by decide) rfl (fun ls hl => ?_)
  have hl : lv_has ls 2 [(1, .int 0), (0, .ref (ad 0 0))] := hl
  have hs2 : ∀ (Q0 : State → Prop) (k : Nat), k < 5 → ∀ (q : bn_S) (H : Heap) (locs : List Loc) (ls : Array Slot), lv_has ls 2 [(0, .ref (ad 0 0)), (1, .int (nI k))] → bn_H (bn_y D ar ad nf) s.heap H locs q → (∀ (H : Heap) (locs : List Loc) (ls : Array Slot), lv_has ls 2 [(0, .ref (ad 0 0)), (1, .int (nI (k + 1)))] → bn_H (bn_y D ar ad nf) s.heap H locs (bd_Ne_tick  k q) → W p l e { frames := 6, cells := 0, slots := 0, locals := 142 } s m args below meth c H locs 0 0 Q0 (F0 m 2 ls [])) → W p l e { frames := 6, cells := 0, slots := 0, locals := 142 } s m args below meth c H locs 0 0 Q0 (F0 m 2 ls []) := by
    intro Q0 k hkk q H locs ls hl h kk
    refine lv_iload_n E1 E2 d_Ne_tick_2 rfl (lv_at hl 1 rfl) ?_
    refine lv_iconst (v := 5) E1 E2 d_Ne_tick_3 (by decide) ?_
    refine lv_icmp_ge E1 E2 d_Ne_tick_4 rfl (fun hz => absurd ((nI_leI (a := 5) (b := k) (by omega) (by omega)).mp hz) (by omega)) (fun _ => ?_)
    refine lv_aload_n E1 E2 d_Ne_tick_7 rfl (lv_at hl 0 rfl) ?_
    refine g_Ne_bridges F h k_219 d_Ne_tick_8 ?_
    refine lv_iload_n E1 E2 d_Ne_tick_11 rfl (lv_at hl 1 rfl) ?_
    refine al_bridges F h (i := k) (by omega) d_Ne_tick_12 ?_
    refine bn_callv F h (bn_runV (n := 0) (As := []) (rest := []) F hml hl.1 h (mm_2 (by omega)) rfl rfl (c_Br_age l D ar ad nf q k (by omega) _) (bn_goodV k_359 k_360 k_361 k_2 k_362) rfl rfl (by decide) ⟨by decide, by decide⟩ rfl rfl (Nat.le_of_ble_eq_true rfl) d_Ne_tick_13 ⟨Nat.zero_le _, Nat.zero_le _⟩) (fun H locs h => ?_)
    have h : bn_H (bn_y D ar ad nf) s.heap H locs (o_Br_age q k) := h
    refine lv_aload_n E1 E2 d_Ne_tick_16 rfl (lv_at hl 0 rfl) ?_
    refine g_Ne_tellsAtNextTick F h k_221 (v := (o_Br_age q k).2.1 1 0) rfl d_Ne_tick_17 ?_
    have hwtells : (o_Br_age q k).2.1 1 0 < 2 := wf_tells h.2.2.2 0
    refine lv_if_eq E1 E2 d_Ne_tick_20 rfl (fun h1 => ?_) (fun h1 => ?_)
    · have h1 : ((o_Br_age q k).2.1 1 0) = 0 := ((nI_eq (a := (o_Br_age q k).2.1 1 0) (b := 0) (by omega) (by omega)).mp h1)
      refine lv_iinc (v := (nI (k + 1))) E1 E2 d_Ne_tick_32 hl (k := 1) rfl (nI_1 _) (by decide) rfl (fun ls hl => ?_)
      have hl : lv_has ls 2 [(1, .int (nI (k + 1))), (0, .ref (ad 0 0))] := hl
      refine lv_goto E1 E2 d_Ne_tick_35 rfl ?_
      have hq : (bd_Ne_tick  k q) = (o_Br_age q k) := if_pos h1
      rw [hq] at kk
      exact kk H locs ls (lv_sub hl [1, 0] rfl) h
    · have h1 : ¬ (((o_Br_age q k).2.1 1 0) = 0) := (fun hw => h1 ((nI_eq (a := (o_Br_age q k).2.1 1 0) (b := 0) (by omega) (by omega)).mpr hw))
      refine lv_aload_n E1 E2 d_Ne_tick_23 rfl (lv_at hl 0 rfl) ?_
      refine g_Ne_bridges F h k_219 d_Ne_tick_24 ?_
      refine lv_iload_n E1 E2 d_Ne_tick_27 rfl (lv_at hl 1 rfl) ?_
      refine al_bridges F h (i := k) (by omega) d_Ne_tick_28 ?_
      refine bn_callv F h (bn_runV (n := 0) (As := []) (rest := []) F hml hl.1 h (mm_2 (by omega)) rfl rfl (c_Br_tellOnAll l D ar ad nf (o_Br_age q k) k (by omega) _) (bn_goodV k_380 k_297 k_298 k_2 k_299) rfl rfl (by decide) ⟨by decide, by decide⟩ rfl rfl (Nat.le_of_ble_eq_true rfl) d_Ne_tick_29 ⟨Nat.zero_le _, Nat.zero_le _⟩) (fun H locs h => ?_)
      have h : bn_H (bn_y D ar ad nf) s.heap H locs (o_Br_tellOnAll (o_Br_age q k) k) := h
      refine lv_iinc (v := (nI (k + 1))) E1 E2 d_Ne_tick_32 hl (k := 1) rfl (nI_1 _) (by decide) rfl (fun ls hl => ?_)
      have hl : lv_has ls 2 [(1, .int (nI (k + 1))), (0, .ref (ad 0 0))] := hl
      refine lv_goto E1 E2 d_Ne_tick_35 rfl ?_
      have hq : (bd_Ne_tick  k q) = (o_Br_tellOnAll (o_Br_age q k) k) := if_neg h1
      rw [hq] at kk
      exact kk H locs ls (lv_sub hl [1, 0] rfl) h
  refine hs2 _ 0 (by decide) (it_Ne_tick  N 0) _ _ ls (lv_sub hl [1, 0] rfl) h (fun H locs ls hl h => ?_)
  rw [it_Ne_tick_s] at h
  refine hs2 _ 1 (by decide) (it_Ne_tick  N 1) _ _ ls hl h (fun H locs ls hl h => ?_)
  rw [it_Ne_tick_s] at h
  refine hs2 _ 2 (by decide) (it_Ne_tick  N 2) _ _ ls hl h (fun H locs ls hl h => ?_)
  rw [it_Ne_tick_s] at h
  refine hs2 _ 3 (by decide) (it_Ne_tick  N 3) _ _ ls hl h (fun H locs ls hl h => ?_)
  rw [it_Ne_tick_s] at h
  refine hs2 _ 4 (by decide) (it_Ne_tick  N 4) _ _ ls hl h (fun H locs ls hl h => ?_)
  rw [it_Ne_tick_s] at h
  have hl : lv_has ls 2 [(0, .ref (ad 0 0)), (1, .int (nI 5))] := hl
  have h : bn_H (bn_y D ar ad nf) s.heap H locs (it_Ne_tick  N 5) := h
  refine lv_iload_n E1 E2 d_Ne_tick_2 rfl (lv_at hl 1 rfl) ?_
  refine lv_iconst (v := 5) E1 E2 d_Ne_tick_3 (by decide) ?_
  refine lv_icmp_ge E1 E2 d_Ne_tick_4 rfl (fun _ => ?_) (fun hz => absurd ((nI_leI (a := 5) (b := 5) (by omega) (by omega)).mpr (by omega)) hz)
  refine lv_aload_n E1 E2 d_Ne_tick_38 rfl (lv_at hl 0 rfl) ?_
  refine lv_aload_n E1 E2 d_Ne_tick_39 rfl (lv_at hl 0 rfl) ?_
  refine g_Ne_tellsAtNextTick F h k_221 (v := (it_Ne_tick  N 5).2.1 1 0) rfl d_Ne_tick_40 ?_
  have hwtells : (it_Ne_tick  N 5).2.1 1 0 < 2 := wf_tells h.2.2.2 0
  refine lv_if_ne E1 E2 d_Ne_tick_43 rfl (fun h2 => ?_) (fun h2 => ?_)
  · have h2 : ¬ (((it_Ne_tick  N 5).2.1 1 0) = 0) := (fun hw => h2 ((nI_eq (a := (it_Ne_tick  N 5).2.1 1 0) (b := 0) (by omega) (by omega)).mpr hw))
    refine lv_iconst (v := 0) E1 E2 d_Ne_tick_50 (by decide) ?_
    refine p_Ne_tellsAtNextTick F h k_221 (v := 0) (by omega) d_Ne_tick_51 (fun H locs h => ?_)
    have h : bn_H (bn_y D ar ad nf) s.heap H locs (sU (it_Ne_tick  N 5) 1 0 0) := h
    have hq : o_Ne_tick N = (sU (it_Ne_tick  N 5) 1 0 0) := if_neg h2
    exact bn_retv F hr hk h hq.symm d_Ne_tick_54
  · have h2 : ((it_Ne_tick  N 5).2.1 1 0) = 0 := ((nI_eq (a := (it_Ne_tick  N 5).2.1 1 0) (b := 0) (by omega) (by omega)).mp h2)
    refine lv_iconst (v := 1) E1 E2 d_Ne_tick_46 (by decide) ?_
    refine lv_goto E1 E2 d_Ne_tick_47 rfl ?_
    refine p_Ne_tellsAtNextTick F h k_221 (v := 1) (by omega) d_Ne_tick_51 (fun H locs h => ?_)
    have h : bn_H (bn_y D ar ad nf) s.heap H locs (sU (it_Ne_tick  N 5) 1 0 1) := h
    have hq : o_Ne_tick N = (sU (it_Ne_tick  N 5) 1 0 1) := if_pos h2
    exact bn_retv F hr hk h hq.symm d_Ne_tick_54
def r_Ne_port (N : bn_S) (ba : Int32) (pa : Int32) : Int32 := (bn_oc (r_Ne_findPort N ba pa) (-1) (fun y2 => r_Po_summary N y2))
set_option maxHeartbeats 4000000 in
set_option maxRecDepth 100000 in
theorem c_Ne_port (l : Launch) (D : va_G) (ar : Nat → ClassId) (ad : Nat → Nat → Nat) (nf : Nat) (N : bn_S)  (ba : Int32) (pa : Int32) : bn_I l y_Ne_port w_Ne_port { frames := 2, cells := 0, slots := 0, locals := 42 } (bn_y D ar ad nf) N [.ref (ad 0 0), .int ba, .int pa] (r_Ne_port N ba pa) N := by
  intro sz
  refine bn_start (cc := b_Ne_port) (maxL := 4) (ret := (Option.some Jvm.ClassFile.FieldType.int)) (by decide) rfl (Nat.le_of_ble_eq_true rfl) ?_
  intro p e s m args below meth c ls hsz F hml hr hk hl h
  subst hsz
  have E1 := F.1
  have E2 := F.2.1
  have hl : lv_has ls 4 [(0, .ref (ad 0 0)), (1, .int ba), (2, .int pa)] := hl
  refine lv_aload_n E1 E2 d_Ne_port_0 rfl (lv_at hl 0 rfl) ?_
  refine lv_iload_n E1 E2 d_Ne_port_1 rfl (lv_at hl 1 rfl) ?_
  refine lv_iload_n E1 E2 d_Ne_port_2 rfl (lv_at hl 2 rfl) ?_
  have hwf := h.2.2.2
  refine bn_callq F h (bn_runV (n := 2) (As := [.int ba, .int pa]) (rest := []) F hml hl.1 h mm_0 rfl rfl (c_Ne_findPort l D ar ad nf N ba pa _) (bn_goodV k_321 k_323 ks_Ne_findPort k_1 k_324) rfl rfl (by decide) ⟨by decide, by decide⟩ rfl rfl (Nat.le_of_ble_eq_true rfl) d_Ne_port_3 ⟨Nat.zero_le _, Nat.zero_le _⟩) (fun H locs h => ?_)
  refine bn_oq (f := ad 6) (o := r_Ne_findPort N ba pa) (fun ho1 => ?_) (fun y2 ho1 => ?_)
  · skip
    refine lv_astore_nN E1 E2 d_Ne_port_6 rfl hl (by decide) rfl (fun ls hl => ?_)
    have hl : lv_has ls 4 [(3, .null), (0, .ref (ad 0 0)), (1, .int ba), (2, .int pa)] := hl
    refine lv_aload_nN E1 E2 d_Ne_port_7 rfl (lv_at hl 0 rfl) ?_
    refine lv_ifnonnullN E1 E2 d_Ne_port_8 ?_
    refine lv_iconst (v := (-1)) E1 E2 d_Ne_port_11 (by decide) ?_
    refine lv_goto E1 E2 d_Ne_port_12 rfl ?_
    have hq : r_Ne_port N ba pa = (-1) := bn_oc_n ho1
    exact bn_reti F hr hk h hq.symm rfl d_Ne_port_19
  · have hy2 := lt_Ne_findPort ho1
    refine lv_astore_n E1 E2 d_Ne_port_6 rfl hl (by decide) rfl (fun ls hl => ?_)
    have hl : lv_has ls 4 [(3, .ref (ad 6 y2)), (0, .ref (ad 0 0)), (1, .int ba), (2, .int pa)] := hl
    refine lv_aload_n E1 E2 d_Ne_port_7 rfl (lv_at hl 0 rfl) ?_
    refine lv_ifnonnull E1 E2 d_Ne_port_8 rfl ?_
    refine lv_aload_n E1 E2 d_Ne_port_15 rfl (lv_at hl 0 rfl) ?_
    refine bn_calli F h (bn_runV (n := 0) (As := []) (rest := []) F hml hl.1 h (mm_6 (by omega)) rfl rfl (c_Po_summary l D ar ad nf N y2 (by omega) _) (bn_goodV k_385 k_386 k_387 k_3 k_388) rfl rfl (by decide) ⟨by decide, by decide⟩ rfl rfl (Nat.le_of_ble_eq_true rfl) d_Ne_port_16 ⟨Nat.zero_le _, Nat.zero_le _⟩) (fun H locs h => ?_)
    have hq : r_Ne_port N ba pa = r_Po_summary N y2 := bn_oc_s ho1
    exact bn_reti F hr hk h hq.symm rfl d_Ne_port_19
def r_Ne_root (N : bn_S) (ba : Int32) : Int64 := (if r_Ne_isBridge N ba = 0 then -1 else r_Br_summary N (ba.toNatClampNeg))
set_option maxHeartbeats 4000000 in
set_option maxRecDepth 100000 in
theorem c_Ne_root (l : Launch) (D : va_G) (ar : Nat → ClassId) (ad : Nat → Nat → Nat) (nf : Nat) (N : bn_S)  (ba : Int32) : bn_L l y_Ne_root w_Ne_root { frames := 1, cells := 0, slots := 0, locals := 20 } (bn_y D ar ad nf) N [.ref (ad 0 0), .int ba] (r_Ne_root N ba) N := by
  intro sz
  refine bn_start (cc := b_Ne_root) (maxL := 2) (ret := (Option.some Jvm.ClassFile.FieldType.long)) (by decide) rfl (Nat.le_of_ble_eq_true rfl) ?_
  intro p e s m args below meth c ls hsz F hml hr hk hl h
  subst hsz
  have E1 := F.1
  have E2 := F.2.1
  have hl : lv_has ls 2 [(0, .ref (ad 0 0)), (1, .int ba)] := hl
  refine lv_iload_n E1 E2 d_Ne_root_0 rfl (lv_at hl 1 rfl) ?_
  refine bn_calli F h (bn_runS (n := 1) (As := [.int ba]) (rest := []) F hml hl.1 h (c_Ne_isBridge l D ar ad nf N ba _) (bn_goodS k_233 k_234 k_1 k_235) rfl rfl (by decide) ⟨by decide, by decide⟩ rfl rfl (Nat.le_of_ble_eq_true rfl) d_Ne_root_1 ⟨Nat.zero_le _, Nat.zero_le _⟩) (fun H locs h => ?_)
  refine lv_if_eq E1 E2 d_Ne_root_4 rfl (fun h1 => ?_) (fun h1 => ?_)
  · have h1 : r_Ne_isBridge N ba = 0 := h1
    refine lv_ldc2 (own := "BridgeNet") E1 E2 F.2.2.1 (F.2.2.2.1 _ k_397) d_Ne_root_19 ?_
    have hq : r_Ne_root N ba = -1 := if_pos h1
    exact bn_retl F hr hk h hq.symm rfl d_Ne_root_22
  · have h1 : ¬ (r_Ne_isBridge N ba = 0) := h1
    refine lv_aload_n E1 E2 d_Ne_root_7 rfl (lv_at hl 0 rfl) ?_
    refine g_Ne_bridges F h k_219 d_Ne_root_8 ?_
    refine lv_iload_n E1 E2 d_Ne_root_11 rfl (lv_at hl 1 rfl) ?_
    have hn_ba := bn_isB h1
    have hn_ba2 := hn_ba.2
    refine bn_ti hn_ba.1 ?_
    refine al_bridges F h (i := ba.toNatClampNeg) (by omega) d_Ne_root_12 ?_
    refine bn_calll F h (bn_runV (n := 0) (As := []) (rest := []) F hml hl.1 h (mm_2 (by omega)) rfl rfl (c_Br_summary l D ar ad nf N (ba.toNatClampNeg) (by omega) _) (bn_goodV k_393 k_394 k_395 k_2 k_396) rfl rfl (by decide) ⟨by decide, by decide⟩ rfl rfl (Nat.le_of_ble_eq_true rfl) d_Ne_root_13 ⟨Nat.zero_le _, Nat.zero_le _⟩) (fun H locs h => ?_)
    refine lv_goto E1 E2 d_Ne_root_16 rfl ?_
    have hq : r_Ne_root N ba = r_Br_summary N (ba.toNatClampNeg) := if_neg h1
    exact bn_retl F hr hk h hq.symm rfl d_Ne_root_22
def r_Ne_info (N : bn_S) (ba : Int32) (pa : Int32) : Int64 := (bn_oc (r_Ne_findPort N ba pa) (-1) (fun y2 => (if (N.2.1 2 y2) = 0 then -1 else r_Po_infoSummary N y2)))
set_option maxHeartbeats 4000000 in
set_option maxRecDepth 100000 in
theorem c_Ne_info (l : Launch) (D : va_G) (ar : Nat → ClassId) (ad : Nat → Nat → Nat) (nf : Nat) (N : bn_S)  (ba : Int32) (pa : Int32) : bn_L l y_Ne_info w_Ne_info { frames := 2, cells := 0, slots := 0, locals := 42 } (bn_y D ar ad nf) N [.ref (ad 0 0), .int ba, .int pa] (r_Ne_info N ba pa) N := by
  intro sz
  refine bn_start (cc := b_Ne_info) (maxL := 4) (ret := (Option.some Jvm.ClassFile.FieldType.long)) (by decide) rfl (Nat.le_of_ble_eq_true rfl) ?_
  intro p e s m args below meth c ls hsz F hml hr hk hl h
  subst hsz
  have E1 := F.1
  have E2 := F.2.1
  have hl : lv_has ls 4 [(0, .ref (ad 0 0)), (1, .int ba), (2, .int pa)] := hl
  refine lv_aload_n E1 E2 d_Ne_info_0 rfl (lv_at hl 0 rfl) ?_
  refine lv_iload_n E1 E2 d_Ne_info_1 rfl (lv_at hl 1 rfl) ?_
  refine lv_iload_n E1 E2 d_Ne_info_2 rfl (lv_at hl 2 rfl) ?_
  have hwf := h.2.2.2
  refine bn_callq F h (bn_runV (n := 2) (As := [.int ba, .int pa]) (rest := []) F hml hl.1 h mm_0 rfl rfl (c_Ne_findPort l D ar ad nf N ba pa _) (bn_goodV k_321 k_323 ks_Ne_findPort k_1 k_324) rfl rfl (by decide) ⟨by decide, by decide⟩ rfl rfl (Nat.le_of_ble_eq_true rfl) d_Ne_info_3 ⟨Nat.zero_le _, Nat.zero_le _⟩) (fun H locs h => ?_)
  refine bn_oq (f := ad 6) (o := r_Ne_findPort N ba pa) (fun ho1 => ?_) (fun y2 ho1 => ?_)
  · skip
    refine lv_astore_nN E1 E2 d_Ne_info_6 rfl hl (by decide) rfl (fun ls hl => ?_)
    have hl : lv_has ls 4 [(3, .null), (0, .ref (ad 0 0)), (1, .int ba), (2, .int pa)] := hl
    refine lv_aload_nN E1 E2 d_Ne_info_7 rfl (lv_at hl 0 rfl) ?_
    refine lv_ifnullN E1 E2 d_Ne_info_8 rfl ?_
    refine lv_ldc2 (own := "BridgeNet") E1 E2 F.2.2.1 (F.2.2.2.1 _ k_397) d_Ne_info_18 ?_
    refine lv_goto E1 E2 d_Ne_info_21 rfl ?_
    have hq : r_Ne_info N ba pa = -1 := bn_oc_n ho1
    exact bn_retl F hr hk h hq.symm rfl d_Ne_info_28
  · have hy2 := lt_Ne_findPort ho1
    refine lv_astore_n E1 E2 d_Ne_info_6 rfl hl (by decide) rfl (fun ls hl => ?_)
    have hl : lv_has ls 4 [(3, .ref (ad 6 y2)), (0, .ref (ad 0 0)), (1, .int ba), (2, .int pa)] := hl
    refine lv_aload_n E1 E2 d_Ne_info_7 rfl (lv_at hl 0 rfl) ?_
    refine lv_ifnull E1 E2 d_Ne_info_8 ?_
    refine lv_aload_n E1 E2 d_Ne_info_11 rfl (lv_at hl 0 rfl) ?_
    refine g_Po_hasInfo F h (by omega) k_150 (v := N.2.1 2 y2) rfl d_Ne_info_12 ?_
    have hwhasInfo : N.2.1 2 y2 < 2 := wf_hasInfo h.2.2.2 y2
    refine lv_if_ne E1 E2 d_Ne_info_15 rfl (fun h3 => ?_) (fun h3 => ?_)
    · have h3 : ¬ ((N.2.1 2 y2) = 0) := (fun hw => h3 ((nI_eq (a := N.2.1 2 y2) (b := 0) (by omega) (by omega)).mpr hw))
      refine lv_aload_n E1 E2 d_Ne_info_24 rfl (lv_at hl 0 rfl) ?_
      refine bn_calll F h (bn_runV (n := 0) (As := []) (rest := []) F hml hl.1 h (mm_6 (by omega)) rfl rfl (c_Po_infoSummary l D ar ad nf N y2 (by omega) _) (bn_goodV k_402 k_403 k_404 k_3 k_405) rfl rfl (by decide) ⟨by decide, by decide⟩ rfl rfl (Nat.le_of_ble_eq_true rfl) d_Ne_info_25 ⟨Nat.zero_le _, Nat.zero_le _⟩) (fun H locs h => ?_)
      have hq : r_Ne_info N ba pa = r_Po_infoSummary N y2 := Eq.trans (bn_oc_s ho1) (if_neg h3)
      exact bn_retl F hr hk h hq.symm rfl d_Ne_info_28
    · have h3 : (N.2.1 2 y2) = 0 := ((nI_eq (a := N.2.1 2 y2) (b := 0) (by omega) (by omega)).mp h3)
      refine lv_ldc2 (own := "BridgeNet") E1 E2 F.2.2.1 (F.2.2.2.1 _ k_397) d_Ne_info_18 ?_
      refine lv_goto E1 E2 d_Ne_info_21 rfl ?_
      have hq : r_Ne_info N ba pa = -1 := Eq.trans (bn_oc_s ho1) (if_pos h3)
      exact bn_retl F hr hk h hq.symm rfl d_Ne_info_28
def r_Ne_learned (N : bn_S) (ba : Int32) (sa : Int32) (va : Int32) : Int32 := (if r_Ne_isBridge N ba = 0 then (-1) else (bn_oc (r_Ne_findStation N sa) (-1) (fun y3 => (if r_Ne_isVlan N va = 0 then (-1) else r_Br_placeOf N (ba.toNatClampNeg) (sa.toNatClampNeg) (va.toNatClampNeg)))))
set_option maxHeartbeats 4000000 in
set_option maxRecDepth 100000 in
theorem c_Ne_learned (l : Launch) (D : va_G) (ar : Nat → ClassId) (ad : Nat → Nat → Nat) (nf : Nat) (N : bn_S)  (ba : Int32) (sa : Int32) (va : Int32) : bn_I l y_Ne_learned w_Ne_learned { frames := 2, cells := 0, slots := 0, locals := 44 } (bn_y D ar ad nf) N [.ref (ad 0 0), .int ba, .int sa, .int va] (r_Ne_learned N ba sa va) N := by
  intro sz
  refine bn_start (cc := b_Ne_learned) (maxL := 4) (ret := (Option.some Jvm.ClassFile.FieldType.int)) (by decide) rfl (Nat.le_of_ble_eq_true rfl) ?_
  intro p e s m args below meth c ls hsz F hml hr hk hl h
  subst hsz
  have E1 := F.1
  have E2 := F.2.1
  have hl : lv_has ls 4 [(0, .ref (ad 0 0)), (1, .int ba), (2, .int sa), (3, .int va)] := hl
  refine lv_iload_n E1 E2 d_Ne_learned_0 rfl (lv_at hl 1 rfl) ?_
  refine bn_calli F h (bn_runS (n := 1) (As := [.int ba]) (rest := []) F hml hl.1 h (c_Ne_isBridge l D ar ad nf N ba _) (bn_goodS k_233 k_234 k_1 k_235) rfl rfl (by decide) ⟨by decide, by decide⟩ rfl rfl (Nat.le_of_ble_eq_true rfl) d_Ne_learned_1 ⟨Nat.zero_le _, Nat.zero_le _⟩) (fun H locs h => ?_)
  refine lv_if_eq E1 E2 d_Ne_learned_4 rfl (fun h1 => ?_) (fun h1 => ?_)
  · have h1 : r_Ne_isBridge N ba = 0 := h1
    refine lv_iconst (v := (-1)) E1 E2 d_Ne_learned_22 (by decide) ?_
    have hq : r_Ne_learned N ba sa va = (-1) := if_pos h1
    exact bn_reti F hr hk h hq.symm rfl d_Ne_learned_23
  · have h1 : ¬ (r_Ne_isBridge N ba = 0) := h1
    refine lv_aload_n E1 E2 d_Ne_learned_7 rfl (lv_at hl 0 rfl) ?_
    refine lv_iload_n E1 E2 d_Ne_learned_8 rfl (lv_at hl 2 rfl) ?_
    have hwf := h.2.2.2
    refine bn_callq F h (bn_runV (n := 1) (As := [.int sa]) (rest := []) F hml hl.1 h mm_0 rfl rfl (c_Ne_findStation l D ar ad nf N sa _) (bn_goodV k_416 k_418 ks_Ne_findStation k_1 k_419) rfl rfl (by decide) ⟨by decide, by decide⟩ rfl rfl (Nat.le_of_ble_eq_true rfl) d_Ne_learned_9 ⟨Nat.zero_le _, Nat.zero_le _⟩) (fun H locs h => ?_)
    refine bn_oq (f := ad 11) (o := r_Ne_findStation N sa) (fun ho2 => ?_) (fun y3 ho2 => ?_)
    · skip
      refine lv_ifnullN E1 E2 d_Ne_learned_12 rfl ?_
      refine lv_iconst (v := (-1)) E1 E2 d_Ne_learned_22 (by decide) ?_
      have hq : r_Ne_learned N ba sa va = (-1) := Eq.trans (if_neg h1) (bn_oc_n ho2)
      exact bn_reti F hr hk h hq.symm rfl d_Ne_learned_23
    · have hy3 := lt_Ne_findStation ho2
      refine lv_ifnull E1 E2 d_Ne_learned_12 ?_
      refine lv_iload_n E1 E2 d_Ne_learned_15 rfl (lv_at hl 3 rfl) ?_
      refine bn_calli F h (bn_runS (n := 1) (As := [.int va]) (rest := []) F hml hl.1 h (c_Ne_isVlan l D ar ad nf N va _) (bn_goodS k_420 k_421 k_1 k_422) rfl rfl (by decide) ⟨by decide, by decide⟩ rfl rfl (Nat.le_of_ble_eq_true rfl) d_Ne_learned_16 ⟨Nat.zero_le _, Nat.zero_le _⟩) (fun H locs h => ?_)
      refine lv_if_ne E1 E2 d_Ne_learned_19 rfl (fun h4 => ?_) (fun h4 => ?_)
      · have h4 : ¬ (r_Ne_isVlan N va = 0) := h4
        refine lv_aload_n E1 E2 d_Ne_learned_24 rfl (lv_at hl 0 rfl) ?_
        refine g_Ne_bridges F h k_219 d_Ne_learned_25 ?_
        refine lv_iload_n E1 E2 d_Ne_learned_28 rfl (lv_at hl 1 rfl) ?_
        have hn_ba := bn_isB h1
        have hn_ba2 := hn_ba.2
        refine bn_ti hn_ba.1 ?_
        refine al_bridges F h (i := ba.toNatClampNeg) (by omega) d_Ne_learned_29 ?_
        refine lv_iload_n E1 E2 d_Ne_learned_30 rfl (lv_at hl 2 rfl) ?_
        have hn_sa := bn_isS ho2
        have hn_sa2 := hn_sa.2
        refine bn_ti hn_sa.1 ?_
        refine lv_iload_n E1 E2 d_Ne_learned_31 rfl (lv_at hl 3 rfl) ?_
        have hn_va := bn_isV h4
        have hn_va2 := hn_va.2
        refine bn_ti hn_va.1 ?_
        refine bn_calli F h (bn_runV (n := 2) (As := [.int (nI (sa.toNatClampNeg)), .int (nI (va.toNatClampNeg))]) (rest := []) F hml hl.1 h (mm_2 (by omega)) rfl rfl (c_Br_placeOf l D ar ad nf N (ba.toNatClampNeg) (by omega) (sa.toNatClampNeg) (by omega) (va.toNatClampNeg) (by omega) (by omega) _) (bn_goodV k_423 k_424 k_425 k_2 k_426) rfl rfl (by decide) ⟨by decide, by decide⟩ rfl rfl (Nat.le_of_ble_eq_true rfl) d_Ne_learned_32 ⟨Nat.zero_le _, Nat.zero_le _⟩) (fun H locs h => ?_)
        have hq : r_Ne_learned N ba sa va = r_Br_placeOf N (ba.toNatClampNeg) (sa.toNatClampNeg) (va.toNatClampNeg) := Eq.trans (if_neg h1) (Eq.trans (bn_oc_s ho2) (if_neg h4))
        exact bn_reti F hr hk h hq.symm rfl d_Ne_learned_35
      · have h4 : r_Ne_isVlan N va = 0 := h4
        refine lv_iconst (v := (-1)) E1 E2 d_Ne_learned_22 (by decide) ?_
        have hq : r_Ne_learned N ba sa va = (-1) := Eq.trans (if_neg h1) (Eq.trans (bn_oc_s ho2) (if_pos h4))
        exact bn_reti F hr hk h hq.symm rfl d_Ne_learned_23
def r_Ne_inbox (N : bn_S) (sa : Int32) (ka : Int32) : Int64 := (bn_oc (r_Ne_findStation N sa) (-1) (fun y2 => (if ka = (-1) then Int32.toInt64 (nI (N.2.1 9 y2)) else r_St_kept N y2 ka)))
set_option maxHeartbeats 4000000 in
set_option maxRecDepth 100000 in
theorem c_Ne_inbox (l : Launch) (D : va_G) (ar : Nat → ClassId) (ad : Nat → Nat → Nat) (nf : Nat) (N : bn_S)  (sa : Int32) (ka : Int32) : bn_L l y_Ne_inbox w_Ne_inbox { frames := 1, cells := 0, slots := 0, locals := 21 } (bn_y D ar ad nf) N [.ref (ad 0 0), .int sa, .int ka] (r_Ne_inbox N sa ka) N := by
  intro sz
  refine bn_start (cc := b_Ne_inbox) (maxL := 4) (ret := (Option.some Jvm.ClassFile.FieldType.long)) (by decide) rfl (Nat.le_of_ble_eq_true rfl) ?_
  intro p e s m args below meth c ls hsz F hml hr hk hl h
  subst hsz
  have E1 := F.1
  have E2 := F.2.1
  have hl : lv_has ls 4 [(0, .ref (ad 0 0)), (1, .int sa), (2, .int ka)] := hl
  refine lv_aload_n E1 E2 d_Ne_inbox_0 rfl (lv_at hl 0 rfl) ?_
  refine lv_iload_n E1 E2 d_Ne_inbox_1 rfl (lv_at hl 1 rfl) ?_
  have hwf := h.2.2.2
  refine bn_callq F h (bn_runV (n := 1) (As := [.int sa]) (rest := []) F hml hl.1 h mm_0 rfl rfl (c_Ne_findStation l D ar ad nf N sa _) (bn_goodV k_416 k_418 ks_Ne_findStation k_1 k_419) rfl rfl (by decide) ⟨by decide, by decide⟩ rfl rfl (Nat.le_of_ble_eq_true rfl) d_Ne_inbox_2 ⟨Nat.zero_le _, Nat.zero_le _⟩) (fun H locs h => ?_)
  refine bn_oq (f := ad 11) (o := r_Ne_findStation N sa) (fun ho1 => ?_) (fun y2 ho1 => ?_)
  · skip
    refine lv_astore_nN E1 E2 d_Ne_inbox_5 rfl hl (by decide) rfl (fun ls hl => ?_)
    have hl : lv_has ls 4 [(3, .null), (0, .ref (ad 0 0)), (1, .int sa), (2, .int ka)] := hl
    refine lv_aload_nN E1 E2 d_Ne_inbox_6 rfl (lv_at hl 0 rfl) ?_
    refine lv_ifnonnullN E1 E2 d_Ne_inbox_7 ?_
    refine lv_ldc2 (own := "BridgeNet") E1 E2 F.2.2.1 (F.2.2.2.1 _ k_397) d_Ne_inbox_10 ?_
    have hq : r_Ne_inbox N sa ka = -1 := bn_oc_n ho1
    exact bn_retl F hr hk h hq.symm rfl d_Ne_inbox_13
  · have hy2 := lt_Ne_findStation ho1
    refine lv_astore_n E1 E2 d_Ne_inbox_5 rfl hl (by decide) rfl (fun ls hl => ?_)
    have hl : lv_has ls 4 [(3, .ref (ad 11 y2)), (0, .ref (ad 0 0)), (1, .int sa), (2, .int ka)] := hl
    refine lv_aload_n E1 E2 d_Ne_inbox_6 rfl (lv_at hl 0 rfl) ?_
    refine lv_ifnonnull E1 E2 d_Ne_inbox_7 rfl ?_
    refine lv_iload_n E1 E2 d_Ne_inbox_14 rfl (lv_at hl 3 rfl) ?_
    refine lv_iconst (v := (-1)) E1 E2 d_Ne_inbox_15 (by decide) ?_
    refine lv_icmp_ne E1 E2 d_Ne_inbox_16 rfl (fun h3 => ?_) (fun h3 => ?_)
    · have h3 : ¬ (ka = (-1)) := h3
      refine lv_aload_n E1 E2 d_Ne_inbox_27 rfl (lv_at hl 0 rfl) ?_
      refine lv_iload_n E1 E2 d_Ne_inbox_28 rfl (lv_at hl 3 rfl) ?_
      refine bn_calll F h (bn_runV (n := 1) (As := [.int ka]) (rest := []) F hml hl.1 h (mm_11 (by omega)) rfl rfl (c_St_kept l D ar ad nf N y2 (by omega) ka _) (bn_goodV k_434 k_435 k_436 k_6 k_437) rfl rfl (by decide) ⟨by decide, by decide⟩ rfl rfl (Nat.le_of_ble_eq_true rfl) d_Ne_inbox_29 ⟨Nat.zero_le _, Nat.zero_le _⟩) (fun H locs h => ?_)
      have hq : r_Ne_inbox N sa ka = r_St_kept N y2 ka := Eq.trans (bn_oc_s ho1) (if_neg h3)
      exact bn_retl F hr hk h hq.symm rfl d_Ne_inbox_32
    · have h3 : ka = (-1) := h3
      refine lv_aload_n E1 E2 d_Ne_inbox_19 rfl (lv_at hl 0 rfl) ?_
      refine g_St_count F h (by omega) k_208 (v := N.2.1 9 y2) rfl d_Ne_inbox_20 ?_
      refine lv_i2l (v := Int32.toInt64 (nI (N.2.1 9 y2))) E1 E2 d_Ne_inbox_23 rfl ?_
      refine lv_goto E1 E2 d_Ne_inbox_24 rfl ?_
      have hq : r_Ne_inbox N sa ka = Int32.toInt64 (nI (N.2.1 9 y2)) := Eq.trans (bn_oc_s ho1) (if_pos h3)
      exact bn_retl F hr hk h hq.symm rfl d_Ne_inbox_32
def r_Ne_line (N : bn_S) (ba : Int32) (pa : Int32) : Int32 := (bn_oc (r_Ne_findPort N ba pa) (-1) (fun y2 => nI (N.2.1 7 y2)))
set_option maxHeartbeats 4000000 in
set_option maxRecDepth 100000 in
theorem c_Ne_line (l : Launch) (D : va_G) (ar : Nat → ClassId) (ad : Nat → Nat → Nat) (nf : Nat) (N : bn_S)  (ba : Int32) (pa : Int32) : bn_I l y_Ne_line w_Ne_line { frames := 2, cells := 0, slots := 0, locals := 42 } (bn_y D ar ad nf) N [.ref (ad 0 0), .int ba, .int pa] (r_Ne_line N ba pa) N := by
  intro sz
  refine bn_start (cc := b_Ne_line) (maxL := 4) (ret := (Option.some Jvm.ClassFile.FieldType.int)) (by decide) rfl (Nat.le_of_ble_eq_true rfl) ?_
  intro p e s m args below meth c ls hsz F hml hr hk hl h
  subst hsz
  have E1 := F.1
  have E2 := F.2.1
  have hl : lv_has ls 4 [(0, .ref (ad 0 0)), (1, .int ba), (2, .int pa)] := hl
  refine lv_aload_n E1 E2 d_Ne_line_0 rfl (lv_at hl 0 rfl) ?_
  refine lv_iload_n E1 E2 d_Ne_line_1 rfl (lv_at hl 1 rfl) ?_
  refine lv_iload_n E1 E2 d_Ne_line_2 rfl (lv_at hl 2 rfl) ?_
  have hwf := h.2.2.2
  refine bn_callq F h (bn_runV (n := 2) (As := [.int ba, .int pa]) (rest := []) F hml hl.1 h mm_0 rfl rfl (c_Ne_findPort l D ar ad nf N ba pa _) (bn_goodV k_321 k_323 ks_Ne_findPort k_1 k_324) rfl rfl (by decide) ⟨by decide, by decide⟩ rfl rfl (Nat.le_of_ble_eq_true rfl) d_Ne_line_3 ⟨Nat.zero_le _, Nat.zero_le _⟩) (fun H locs h => ?_)
  refine bn_oq (f := ad 6) (o := r_Ne_findPort N ba pa) (fun ho1 => ?_) (fun y2 ho1 => ?_)
  · skip
    refine lv_astore_nN E1 E2 d_Ne_line_6 rfl hl (by decide) rfl (fun ls hl => ?_)
    have hl : lv_has ls 4 [(3, .null), (0, .ref (ad 0 0)), (1, .int ba), (2, .int pa)] := hl
    refine lv_aload_nN E1 E2 d_Ne_line_7 rfl (lv_at hl 0 rfl) ?_
    refine lv_ifnonnullN E1 E2 d_Ne_line_8 ?_
    refine lv_iconst (v := (-1)) E1 E2 d_Ne_line_11 (by decide) ?_
    refine lv_goto E1 E2 d_Ne_line_12 rfl ?_
    have hq : r_Ne_line N ba pa = (-1) := bn_oc_n ho1
    exact bn_reti F hr hk h hq.symm rfl d_Ne_line_22
  · have hy2 := lt_Ne_findPort ho1
    refine lv_astore_n E1 E2 d_Ne_line_6 rfl hl (by decide) rfl (fun ls hl => ?_)
    have hl : lv_has ls 4 [(3, .ref (ad 6 y2)), (0, .ref (ad 0 0)), (1, .int ba), (2, .int pa)] := hl
    refine lv_aload_n E1 E2 d_Ne_line_7 rfl (lv_at hl 0 rfl) ?_
    refine lv_ifnonnull E1 E2 d_Ne_line_8 rfl ?_
    refine lv_aload_n E1 E2 d_Ne_line_15 rfl (lv_at hl 0 rfl) ?_
    refine g_Po_line F h (by omega) k_136 d_Ne_line_16 ?_
    refine g_Li_count F h (by omega) k_122 (v := N.2.1 7 y2) rfl d_Ne_line_19 ?_
    have hq : r_Ne_line N ba pa = nI (N.2.1 7 y2) := bn_oc_s ho1
    exact bn_reti F hr hk h hq.symm rfl d_Ne_line_22
def r_Ne_message (N : bn_S) (ba : Int32) (pa : Int32) (ka : Int32) : Int64 := (bn_oc (r_Ne_findPort N ba pa) 0 (fun y2 => (bn_oc (r_Li_at N y2 ka) 0 (fun y4 => r_Ms_summary N y4))))
set_option maxHeartbeats 4000000 in
set_option maxRecDepth 100000 in
theorem c_Ne_message (l : Launch) (D : va_G) (ar : Nat → ClassId) (ad : Nat → Nat → Nat) (nf : Nat) (N : bn_S)  (ba : Int32) (pa : Int32) (ka : Int32) : bn_L l y_Ne_message w_Ne_message { frames := 2, cells := 0, slots := 0, locals := 42 } (bn_y D ar ad nf) N [.ref (ad 0 0), .int ba, .int pa, .int ka] (r_Ne_message N ba pa ka) N := by
  intro sz
  refine bn_start (cc := b_Ne_message) (maxL := 6) (ret := (Option.some Jvm.ClassFile.FieldType.long)) (by decide) rfl (Nat.le_of_ble_eq_true rfl) ?_
  intro p e s m args below meth c ls hsz F hml hr hk hl h
  subst hsz
  have E1 := F.1
  have E2 := F.2.1
  have hl : lv_has ls 6 [(0, .ref (ad 0 0)), (1, .int ba), (2, .int pa), (3, .int ka)] := hl
  refine lv_aload_n E1 E2 d_Ne_message_0 rfl (lv_at hl 0 rfl) ?_
  refine lv_iload_n E1 E2 d_Ne_message_1 rfl (lv_at hl 1 rfl) ?_
  refine lv_iload_n E1 E2 d_Ne_message_2 rfl (lv_at hl 2 rfl) ?_
  have hwf := h.2.2.2
  refine bn_callq F h (bn_runV (n := 2) (As := [.int ba, .int pa]) (rest := []) F hml hl.1 h mm_0 rfl rfl (c_Ne_findPort l D ar ad nf N ba pa _) (bn_goodV k_321 k_323 ks_Ne_findPort k_1 k_324) rfl rfl (by decide) ⟨by decide, by decide⟩ rfl rfl (Nat.le_of_ble_eq_true rfl) d_Ne_message_3 ⟨Nat.zero_le _, Nat.zero_le _⟩) (fun H locs h => ?_)
  refine bn_oq (f := ad 6) (o := r_Ne_findPort N ba pa) (fun ho1 => ?_) (fun y2 ho1 => ?_)
  · skip
    refine lv_astoreN E1 E2 d_Ne_message_6 hl (by decide) rfl (fun ls hl => ?_)
    have hl : lv_has ls 6 [(4, .null), (0, .ref (ad 0 0)), (1, .int ba), (2, .int pa), (3, .int ka)] := hl
    refine lv_aloadN E1 E2 d_Ne_message_8 (lv_at hl 0 rfl) ?_
    refine lv_ifnonnullN E1 E2 d_Ne_message_10 ?_
    refine lv_lconst (v := 0) E1 E2 d_Ne_message_13 (by decide) ?_
    have hq : r_Ne_message N ba pa ka = 0 := bn_oc_n ho1
    exact bn_retl F hr hk h hq.symm rfl d_Ne_message_14
  · have hy2 := lt_Ne_findPort ho1
    refine lv_astore E1 E2 d_Ne_message_6 hl (by decide) rfl (fun ls hl => ?_)
    have hl : lv_has ls 6 [(4, .ref (ad 6 y2)), (0, .ref (ad 0 0)), (1, .int ba), (2, .int pa), (3, .int ka)] := hl
    refine lv_aload E1 E2 d_Ne_message_8 (lv_at hl 0 rfl) ?_
    refine lv_ifnonnull E1 E2 d_Ne_message_10 rfl ?_
    refine lv_aload E1 E2 d_Ne_message_15 (lv_at hl 0 rfl) ?_
    refine g_Po_line F h (by omega) k_136 d_Ne_message_17 ?_
    refine lv_iload_n E1 E2 d_Ne_message_20 rfl (lv_at hl 4 rfl) ?_
    have hwf := h.2.2.2
    refine bn_callq F h (bn_runV (n := 1) (As := [.int ka]) (rest := []) F hml hl.1 h (mm_7 (by omega)) rfl rfl (c_Li_at l D ar ad nf N y2 (by omega) ka _) (bn_goodV k_447 k_448 k_449 k_4 k_450) rfl rfl (by decide) ⟨by decide, by decide⟩ rfl rfl (Nat.le_of_ble_eq_true rfl) d_Ne_message_21 ⟨Nat.zero_le _, Nat.zero_le _⟩) (fun H locs h => ?_)
    refine bn_oq (f := ad 9) (o := r_Li_at N y2 ka) (fun ho3 => ?_) (fun y4 ho3 => ?_)
    · skip
      refine lv_astoreN E1 E2 d_Ne_message_24 hl (by decide) rfl (fun ls hl => ?_)
      have hl : lv_has ls 6 [(5, .null), (4, .ref (ad 6 y2)), (0, .ref (ad 0 0)), (1, .int ba), (2, .int pa), (3, .int ka)] := hl
      refine lv_aloadN E1 E2 d_Ne_message_26 (lv_at hl 0 rfl) ?_
      refine lv_ifnonnullN E1 E2 d_Ne_message_28 ?_
      refine lv_lconst (v := 0) E1 E2 d_Ne_message_31 (by decide) ?_
      refine lv_goto E1 E2 d_Ne_message_32 rfl ?_
      have hq : r_Ne_message N ba pa ka = 0 := Eq.trans (bn_oc_s ho1) (bn_oc_n ho3)
      exact bn_retl F hr hk h hq.symm rfl d_Ne_message_40
    · have hy4 := lt_Li_at (by omega) ho3
      refine lv_astore E1 E2 d_Ne_message_24 hl (by decide) rfl (fun ls hl => ?_)
      have hl : lv_has ls 6 [(5, .ref (ad 9 y4)), (4, .ref (ad 6 y2)), (0, .ref (ad 0 0)), (1, .int ba), (2, .int pa), (3, .int ka)] := hl
      refine lv_aload E1 E2 d_Ne_message_26 (lv_at hl 0 rfl) ?_
      refine lv_ifnonnull E1 E2 d_Ne_message_28 rfl ?_
      refine lv_aload E1 E2 d_Ne_message_35 (lv_at hl 0 rfl) ?_
      refine bn_calll F h (bn_runV (n := 0) (As := []) (rest := []) F hml hl.1 h (mm_9 (by omega)) rfl rfl (c_Ms_summary l D ar ad nf N y4 (by omega) _) (bn_goodV k_451 k_452 k_453 k_5 k_454) rfl rfl (by decide) ⟨by decide, by decide⟩ rfl rfl (Nat.le_of_ble_eq_true rfl) d_Ne_message_37 ⟨Nat.zero_le _, Nat.zero_le _⟩) (fun H locs h => ?_)
      have hq : r_Ne_message N ba pa ka = r_Ms_summary N y4 := Eq.trans (bn_oc_s ho1) (bn_oc_s ho3)
      exact bn_retl F hr hk h hq.symm rfl d_Ne_message_40
end
section
theorem i_vc : Claimed_1_1 ∧ Claimed_1_2 := sorry
end
