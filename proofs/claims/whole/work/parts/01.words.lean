/-! names: fields in the order of their slots, methods, words: written by wip/whole/emit_names.py -/
def bn_all : List Cond := lw_tbl.filter goodWord
theorem bn_tab {w : Cond} (h : w ∈ tables_1) (hg : goodWord w = true) : w ∈ bn_all := List.mem_filter.mpr ⟨List.mem_append_right _ h, hg⟩
theorem bn_t1 {w : Cond} {i : Nat} (h0 : tables_1_1[i]? = some w) (hg : goodWord w = true) : w ∈ bn_all := bn_tab (show w ∈ tables_1 from (fun h => List.mem_append_left _ (h)) (List.mem_of_getElem? h0)) hg
theorem bn_t2 {w : Cond} {i : Nat} (h0 : tables_1_2[i]? = some w) (hg : goodWord w = true) : w ∈ bn_all := bn_tab (show w ∈ tables_1 from (fun h => List.mem_append_right _ (List.mem_append_left _ (h))) (List.mem_of_getElem? h0)) hg
theorem bn_t3 {w : Cond} {i : Nat} (h0 : tables_1_3[i]? = some w) (hg : goodWord w = true) : w ∈ bn_all := bn_tab (show w ∈ tables_1 from (fun h => List.mem_append_right _ (List.mem_append_right _ (List.mem_append_left _ (h)))) (List.mem_of_getElem? h0)) hg
theorem bn_t4 {w : Cond} {i : Nat} (h0 : tables_1_4[i]? = some w) (hg : goodWord w = true) : w ∈ bn_all := bn_tab (show w ∈ tables_1 from (fun h => List.mem_append_right _ (List.mem_append_right _ (List.mem_append_right _ (List.mem_append_left _ (h))))) (List.mem_of_getElem? h0)) hg
theorem bn_t5 {w : Cond} {i : Nat} (h0 : tables_1_5[i]? = some w) (hg : goodWord w = true) : w ∈ bn_all := bn_tab (show w ∈ tables_1 from (fun h => List.mem_append_right _ (List.mem_append_right _ (List.mem_append_right _ (List.mem_append_right _ (h))))) (List.mem_of_getElem? h0)) hg
theorem bn_sel {q : MethodName × Nat} (h : q ∈ lw_privs) : Cond.selects q.1.cls q.1 q.1 ∈ bn_all := List.mem_filter.mpr ⟨List.mem_append_left _ (List.mem_map.mpr ⟨q, h, rfl⟩), rfl⟩
theorem k_0 : (Jvm.Cond.initialized "BridgeNetLaw") ∈ bn_all := bn_t1 (i := 0) rfl rfl
theorem k_1 : (Jvm.Cond.initialized "BridgeNet") ∈ bn_all := bn_t1 (i := 1) rfl rfl
theorem k_2 : (Jvm.Cond.initialized "BridgeNet$Bridge") ∈ bn_all := bn_t1 (i := 2) rfl rfl
theorem k_3 : (Jvm.Cond.initialized "BridgeNet$Port") ∈ bn_all := bn_t1 (i := 3) rfl rfl
theorem k_4 : (Jvm.Cond.initialized "BridgeNet$Line") ∈ bn_all := bn_t1 (i := 4) rfl rfl
theorem k_5 : (Jvm.Cond.initialized "BridgeNet$Message") ∈ bn_all := bn_t1 (i := 5) rfl rfl
theorem k_6 : (Jvm.Cond.initialized "BridgeNet$Station") ∈ bn_all := bn_t1 (i := 6) rfl rfl
theorem k_7 : (Jvm.Cond.initialized "BridgeNetModel") ∈ bn_all := bn_t1 (i := 7) rfl rfl
theorem k_8 : (Jvm.Cond.initialized "BridgeNet$Vector") ∈ bn_all := bn_t1 (i := 8) rfl rfl
theorem k_9 : (Jvm.Cond.initialized "java/lang/Throwable") ∈ bn_all := bn_t1 (i := 9) rfl rfl
theorem k_10 : (Jvm.Cond.initialized "java/lang/Exception") ∈ bn_all := bn_t1 (i := 10) rfl rfl
theorem k_11 : (Jvm.Cond.initialized "java/lang/RuntimeException") ∈ bn_all := bn_t1 (i := 11) rfl rfl
theorem k_12 : (Jvm.Cond.initialized "java/lang/IndexOutOfBoundsException") ∈ bn_all := bn_t1 (i := 12) rfl rfl
theorem k_13 : (Jvm.Cond.initialized "java/lang/IllegalArgumentException") ∈ bn_all := bn_t1 (i := 13) rfl rfl
theorem k_14 : (Jvm.Cond.initialized "java/lang/IllegalStateException") ∈ bn_all := bn_t1 (i := 14) rfl rfl
theorem k_15 : (Jvm.Cond.initialized "BridgeNet$Frame") ∈ bn_all := bn_t1 (i := 15) rfl rfl
theorem k_16 : (Jvm.Cond.initialized "java/lang/Math") ∈ bn_all := bn_t1 (i := 16) rfl rfl
theorem k_17 : (Jvm.Cond.classLink "BridgeNetLaw" (8 : Nat) "BridgeNet") ∈ bn_all := bn_t1 (i := 17) rfl rfl
theorem k_18 : (Jvm.Cond.instantiable "BridgeNet" (3 : Nat)) ∈ bn_all := bn_t1 (i := 18) rfl rfl
theorem k_19 : (Jvm.Cond.methodLink "BridgeNetLaw" (27 : Nat) ({ cls := "BridgeNet", name := "<init>", desc := "()V" } : Jvm.MethodName)) ∈ bn_all := bn_t1 (i := 19) rfl rfl
theorem k_20 : (Jvm.Cond.instanceMethod ({ cls := "BridgeNet", name := "<init>", desc := "()V" } : Jvm.MethodName)) ∈ bn_all := bn_t1 (i := 20) rfl rfl
theorem k_21 : (Jvm.Cond.code ({ cls := "BridgeNet", name := "<init>", desc := "()V" } : Jvm.MethodName) prog_1_method_1_code (2 : Nat) (Option.none : Option Jvm.ClassFile.FieldType)) ∈ bn_all := bn_t1 (i := 21) rfl rfl
theorem k_22 : (Jvm.Cond.methodLink "BridgeNet" (1 : Nat) ({ cls := "java/lang/Object", name := "<init>", desc := "()V" } : Jvm.MethodName)) ∈ bn_all := bn_t1 (i := 22) rfl rfl
theorem k_23 : (Jvm.Cond.instanceMethod ({ cls := "java/lang/Object", name := "<init>", desc := "()V" } : Jvm.MethodName)) ∈ bn_all := bn_t1 (i := 23) rfl rfl
theorem k_24 : (Jvm.Cond.code ({ cls := "java/lang/Object", name := "<init>", desc := "()V" } : Jvm.MethodName) object_method_1_code (1 : Nat) (Option.none : Option Jvm.ClassFile.FieldType)) ∈ bn_all := bn_t1 (i := 24) rfl rfl
theorem k_25 : (Jvm.Cond.classLink "BridgeNet" (9 : Nat) "BridgeNet$Bridge") ∈ bn_all := bn_t1 (i := 25) rfl rfl
theorem k_27 : (Jvm.Cond.classLink "BridgeNet" (15 : Nat) "BridgeNet$Station") ∈ bn_all := bn_t1 (i := 27) rfl rfl
theorem k_29 : (Jvm.Cond.instantiable "BridgeNet$Bridge" (9 : Nat)) ∈ bn_all := bn_t1 (i := 29) rfl rfl
theorem k_30 : (Jvm.Cond.methodLink "BridgeNet" (25 : Nat) ({ cls := "BridgeNet$Bridge", name := "<init>", desc := "(I)V" } : Jvm.MethodName)) ∈ bn_all := bn_t1 (i := 30) rfl rfl
theorem k_31 : (Jvm.Cond.instanceMethod ({ cls := "BridgeNet$Bridge", name := "<init>", desc := "(I)V" } : Jvm.MethodName)) ∈ bn_all := bn_t1 (i := 31) rfl rfl
theorem k_32 : (Jvm.Cond.code ({ cls := "BridgeNet$Bridge", name := "<init>", desc := "(I)V" } : Jvm.MethodName) prog_2_method_1_code (2 : Nat) (Option.none : Option Jvm.ClassFile.FieldType)) ∈ bn_all := bn_t1 (i := 32) rfl rfl
theorem k_33 : (Jvm.Cond.methodLink "BridgeNet$Bridge" (3 : Nat) ({ cls := "java/lang/Object", name := "<init>", desc := "()V" } : Jvm.MethodName)) ∈ bn_all := bn_t1 (i := 33) rfl rfl
theorem k_34 : (Jvm.Cond.classLink "BridgeNet$Bridge" (9 : Nat) "BridgeNet$Port") ∈ bn_all := bn_t1 (i := 34) rfl rfl
theorem k_36 : (Jvm.Cond.fieldLink "BridgeNet$Bridge" (35 : Nat) "BridgeNet$Bridge" "number" "I") ∈ bn_all := bn_t1 (i := 36) rfl rfl
theorem k_37 : (Jvm.Cond.fieldLink "BridgeNet$Bridge" (38 : Nat) "BridgeNet$Bridge" "id" "I") ∈ bn_all := bn_t1 (i := 37) rfl rfl
theorem k_38 : (Jvm.Cond.fieldLink "BridgeNet$Bridge" (11 : Nat) "BridgeNet$Bridge" "ports" "[LBridgeNet$Port;") ∈ bn_all := bn_t1 (i := 38) rfl rfl
theorem k_39 : (Jvm.Cond.fieldLink "BridgeNet" (195 : Nat) "BridgeNet$Bridge" "ports" "[LBridgeNet$Port;") ∈ bn_all := bn_t1 (i := 39) rfl rfl
theorem k_40 : (Jvm.Cond.fieldLink "BridgeNet$Bridge" (41 : Nat) "BridgeNet$Bridge" "root" "I") ∈ bn_all := bn_t1 (i := 40) rfl rfl
theorem k_41 : (Jvm.Cond.fieldLink "BridgeNet$Bridge" (17 : Nat) "BridgeNet$Bridge" "cost" "I") ∈ bn_all := bn_t1 (i := 41) rfl rfl
theorem k_42 : (Jvm.Cond.fieldLink "BridgeNet$Bridge" (21 : Nat) "BridgeNet$Bridge" "hops" "I") ∈ bn_all := bn_t1 (i := 42) rfl rfl
theorem k_43 : (Jvm.Cond.fieldLink "BridgeNet$Bridge" (24 : Nat) "BridgeNet$Bridge" "rootPort" "LBridgeNet$Port;") ∈ bn_all := bn_t1 (i := 43) rfl rfl
theorem k_44 : (Jvm.Cond.fieldLink "BridgeNet$Bridge" (28 : Nat) "BridgeNet$Bridge" "places" "[I") ∈ bn_all := bn_t1 (i := 44) rfl rfl
theorem k_45 : (Jvm.Cond.fieldLink "BridgeNet$Bridge" (32 : Nat) "BridgeNet$Bridge" "placeLives" "[I") ∈ bn_all := bn_t1 (i := 45) rfl rfl
theorem k_46 : (Jvm.Cond.laysFinal "BridgeNet$Bridge" "BridgeNet$Bridge" "number" "I") ∈ bn_all := bn_t1 (i := 46) rfl rfl
theorem k_48 : (Jvm.Cond.lays "BridgeNet$Bridge" "BridgeNet$Bridge" "id" "I") ∈ bn_all := bn_t1 (i := 48) rfl rfl
theorem k_50 : (Jvm.Cond.laysFinal "BridgeNet$Bridge" "BridgeNet$Bridge" "ports" "[LBridgeNet$Port;") ∈ bn_all := bn_t1 (i := 50) rfl rfl
theorem k_52 : (Jvm.Cond.lays "BridgeNet$Bridge" "BridgeNet$Bridge" "root" "I") ∈ bn_all := bn_t1 (i := 52) rfl rfl
theorem k_54 : (Jvm.Cond.lays "BridgeNet$Bridge" "BridgeNet$Bridge" "cost" "I") ∈ bn_all := bn_t1 (i := 54) rfl rfl
theorem k_56 : (Jvm.Cond.lays "BridgeNet$Bridge" "BridgeNet$Bridge" "hops" "I") ∈ bn_all := bn_t1 (i := 56) rfl rfl
theorem k_58 : (Jvm.Cond.lays "BridgeNet$Bridge" "BridgeNet$Bridge" "rootPort" "LBridgeNet$Port;") ∈ bn_all := bn_t1 (i := 58) rfl rfl
theorem k_60 : (Jvm.Cond.laysFinal "BridgeNet$Bridge" "BridgeNet$Bridge" "places" "[I") ∈ bn_all := bn_t1 (i := 60) rfl rfl
theorem k_62 : (Jvm.Cond.laysFinal "BridgeNet$Bridge" "BridgeNet$Bridge" "placeLives" "[I") ∈ bn_all := bn_t1 (i := 62) rfl rfl
theorem k_65 : (Jvm.Cond.arrayClass Jvm.ClassFile.FieldType.int) ∈ bn_all := bn_t1 (i := 65) rfl rfl
theorem k_66 : (Jvm.Cond.methodLink "BridgeNet" (28 : Nat) ({ cls := "BridgeNet$Bridge", name := "addPorts", desc := "()V" } : Jvm.MethodName)) ∈ bn_all := bn_t1 (i := 66) rfl rfl
theorem k_67 : (Jvm.Cond.instanceMethod ({ cls := "BridgeNet$Bridge", name := "addPorts", desc := "()V" } : Jvm.MethodName)) ∈ bn_all := bn_t1 (i := 67) rfl rfl
theorem k_68 : (Jvm.Cond.selects "BridgeNet$Bridge" ({ cls := "BridgeNet$Bridge", name := "addPorts", desc := "()V" } : Jvm.MethodName) ({ cls := "BridgeNet$Bridge", name := "addPorts", desc := "()V" } : Jvm.MethodName)) ∈ bn_all := bn_t1 (i := 68) rfl rfl
theorem k_69 : (Jvm.Cond.code ({ cls := "BridgeNet$Bridge", name := "addPorts", desc := "()V" } : Jvm.MethodName) prog_2_method_2_code (2 : Nat) (Option.none : Option Jvm.ClassFile.FieldType)) ∈ bn_all := bn_t1 (i := 69) rfl rfl
theorem k_70 : (Jvm.Cond.instantiable "BridgeNet$Port" (16 : Nat)) ∈ bn_all := bn_t1 (i := 70) rfl rfl
theorem k_71 : (Jvm.Cond.methodLink "BridgeNet$Bridge" (44 : Nat) ({ cls := "BridgeNet$Port", name := "<init>", desc := "(LBridgeNet$Bridge;I)V" } : Jvm.MethodName)) ∈ bn_all := bn_t1 (i := 71) rfl rfl
theorem k_72 : (Jvm.Cond.instanceMethod ({ cls := "BridgeNet$Port", name := "<init>", desc := "(LBridgeNet$Bridge;I)V" } : Jvm.MethodName)) ∈ bn_all := bn_t1 (i := 72) rfl rfl
theorem k_73 : (Jvm.Cond.code ({ cls := "BridgeNet$Port", name := "<init>", desc := "(LBridgeNet$Bridge;I)V" } : Jvm.MethodName) prog_6_method_1_code (3 : Nat) (Option.none : Option Jvm.ClassFile.FieldType)) ∈ bn_all := bn_t1 (i := 73) rfl rfl
theorem k_74 : (Jvm.Cond.methodLink "BridgeNet$Port" (3 : Nat) ({ cls := "java/lang/Object", name := "<init>", desc := "()V" } : Jvm.MethodName)) ∈ bn_all := bn_t1 (i := 74) rfl rfl
theorem k_75 : (Jvm.Cond.classLink "BridgeNet$Port" (9 : Nat) "BridgeNet$Line") ∈ bn_all := bn_t1 (i := 75) rfl rfl
theorem k_76 : (Jvm.Cond.instantiable "BridgeNet$Line" (3 : Nat)) ∈ bn_all := bn_t1 (i := 76) rfl rfl
theorem k_77 : (Jvm.Cond.methodLink "BridgeNet$Port" (11 : Nat) ({ cls := "BridgeNet$Line", name := "<init>", desc := "()V" } : Jvm.MethodName)) ∈ bn_all := bn_t1 (i := 77) rfl rfl
theorem k_78 : (Jvm.Cond.instanceMethod ({ cls := "BridgeNet$Line", name := "<init>", desc := "()V" } : Jvm.MethodName)) ∈ bn_all := bn_t1 (i := 78) rfl rfl
theorem k_79 : (Jvm.Cond.code ({ cls := "BridgeNet$Line", name := "<init>", desc := "()V" } : Jvm.MethodName) prog_4_method_1_code (2 : Nat) (Option.none : Option Jvm.ClassFile.FieldType)) ∈ bn_all := bn_t1 (i := 79) rfl rfl
theorem k_80 : (Jvm.Cond.methodLink "BridgeNet$Line" (3 : Nat) ({ cls := "java/lang/Object", name := "<init>", desc := "()V" } : Jvm.MethodName)) ∈ bn_all := bn_t1 (i := 80) rfl rfl
theorem k_81 : (Jvm.Cond.classLink "BridgeNet$Line" (9 : Nat) "BridgeNet$Message") ∈ bn_all := bn_t1 (i := 81) rfl rfl
theorem k_83 : (Jvm.Cond.instantiable "BridgeNet$Message" (6 : Nat)) ∈ bn_all := bn_t1 (i := 83) rfl rfl
theorem k_85 : (Jvm.Cond.instanceMethod ({ cls := "BridgeNet$Message", name := "<init>", desc := "()V" } : Jvm.MethodName)) ∈ bn_all := bn_t1 (i := 85) rfl rfl
theorem k_86 : (Jvm.Cond.code ({ cls := "BridgeNet$Message", name := "<init>", desc := "()V" } : Jvm.MethodName) prog_5_method_1_code (1 : Nat) (Option.none : Option Jvm.ClassFile.FieldType)) ∈ bn_all := bn_t1 (i := 86) rfl rfl
theorem k_87 : (Jvm.Cond.methodLink "BridgeNet$Message" (3 : Nat) ({ cls := "java/lang/Object", name := "<init>", desc := "()V" } : Jvm.MethodName)) ∈ bn_all := bn_t1 (i := 87) rfl rfl
theorem k_88 : (Jvm.Cond.fieldLink "BridgeNet$Message" (9 : Nat) "BridgeNet$Message" "kind" "I") ∈ bn_all := bn_t1 (i := 88) rfl rfl
theorem k_89 : (Jvm.Cond.fieldLink "BridgeNet" (138 : Nat) "BridgeNet$Message" "kind" "I") ∈ bn_all := bn_t1 (i := 89) rfl rfl
theorem k_90 : (Jvm.Cond.fieldLink "BridgeNet$Line" (46 : Nat) "BridgeNet$Message" "kind" "I") ∈ bn_all := bn_t1 (i := 90) rfl rfl
theorem k_91 : (Jvm.Cond.fieldLink "BridgeNet$Message" (15 : Nat) "BridgeNet$Message" "root" "I") ∈ bn_all := bn_t1 (i := 91) rfl rfl
theorem k_92 : (Jvm.Cond.fieldLink "BridgeNet$Line" (49 : Nat) "BridgeNet$Message" "root" "I") ∈ bn_all := bn_t1 (i := 92) rfl rfl
theorem k_93 : (Jvm.Cond.fieldLink "BridgeNet" (147 : Nat) "BridgeNet$Message" "root" "I") ∈ bn_all := bn_t1 (i := 93) rfl rfl
theorem k_94 : (Jvm.Cond.fieldLink "BridgeNet$Message" (18 : Nat) "BridgeNet$Message" "vector" "J") ∈ bn_all := bn_t1 (i := 94) rfl rfl
theorem k_95 : (Jvm.Cond.fieldLink "BridgeNet$Line" (35 : Nat) "BridgeNet$Message" "vector" "J") ∈ bn_all := bn_t1 (i := 95) rfl rfl
theorem k_96 : (Jvm.Cond.fieldLink "BridgeNet$Bridge" (139 : Nat) "BridgeNet$Message" "vector" "J") ∈ bn_all := bn_t1 (i := 96) rfl rfl
theorem k_97 : (Jvm.Cond.fieldLink "BridgeNet$Message" (22 : Nat) "BridgeNet$Message" "hops" "I") ∈ bn_all := bn_t1 (i := 97) rfl rfl
theorem k_98 : (Jvm.Cond.fieldLink "BridgeNet$Line" (39 : Nat) "BridgeNet$Message" "hops" "I") ∈ bn_all := bn_t1 (i := 98) rfl rfl
theorem k_99 : (Jvm.Cond.fieldLink "BridgeNet$Bridge" (136 : Nat) "BridgeNet$Message" "hops" "I") ∈ bn_all := bn_t1 (i := 99) rfl rfl
theorem k_100 : (Jvm.Cond.fieldLink "BridgeNet$Message" (25 : Nat) "BridgeNet$Message" "proposing" "Z") ∈ bn_all := bn_t1 (i := 100) rfl rfl
theorem k_101 : (Jvm.Cond.fieldLink "BridgeNet$Line" (42 : Nat) "BridgeNet$Message" "proposing" "Z") ∈ bn_all := bn_t1 (i := 101) rfl rfl
theorem k_102 : (Jvm.Cond.fieldLink "BridgeNet$Bridge" (149 : Nat) "BridgeNet$Message" "proposing" "Z") ∈ bn_all := bn_t1 (i := 102) rfl rfl
theorem k_103 : (Jvm.Cond.fieldLink "BridgeNet$Message" (29 : Nat) "BridgeNet$Message" "frame" "LBridgeNet$Frame;") ∈ bn_all := bn_t1 (i := 103) rfl rfl
theorem k_104 : (Jvm.Cond.fieldLink "BridgeNet$Line" (52 : Nat) "BridgeNet$Message" "frame" "LBridgeNet$Frame;") ∈ bn_all := bn_t1 (i := 104) rfl rfl
theorem k_105 : (Jvm.Cond.fieldLink "BridgeNet" (153 : Nat) "BridgeNet$Message" "frame" "LBridgeNet$Frame;") ∈ bn_all := bn_t1 (i := 105) rfl rfl
theorem k_106 : (Jvm.Cond.lays "BridgeNet$Message" "BridgeNet$Message" "kind" "I") ∈ bn_all := bn_t1 (i := 106) rfl rfl
theorem k_108 : (Jvm.Cond.lays "BridgeNet$Message" "BridgeNet$Message" "root" "I") ∈ bn_all := bn_t1 (i := 108) rfl rfl
theorem k_110 : (Jvm.Cond.lays "BridgeNet$Message" "BridgeNet$Message" "vector" "J") ∈ bn_all := bn_t1 (i := 110) rfl rfl
theorem k_112 : (Jvm.Cond.lays "BridgeNet$Message" "BridgeNet$Message" "hops" "I") ∈ bn_all := bn_t1 (i := 112) rfl rfl
theorem k_114 : (Jvm.Cond.lays "BridgeNet$Message" "BridgeNet$Message" "proposing" "Z") ∈ bn_all := bn_t1 (i := 114) rfl rfl
theorem k_116 : (Jvm.Cond.lays "BridgeNet$Message" "BridgeNet$Message" "frame" "LBridgeNet$Frame;") ∈ bn_all := bn_t1 (i := 116) rfl rfl
theorem k_119 : (Jvm.Cond.fieldLink "BridgeNet$Line" (11 : Nat) "BridgeNet$Line" "ring" "[LBridgeNet$Message;") ∈ bn_all := bn_t1 (i := 119) rfl rfl
theorem k_120 : (Jvm.Cond.fieldLink "BridgeNet$Line" (17 : Nat) "BridgeNet$Line" "first" "I") ∈ bn_all := bn_t1 (i := 120) rfl rfl
theorem k_121 : (Jvm.Cond.fieldLink "BridgeNet$Line" (21 : Nat) "BridgeNet$Line" "count" "I") ∈ bn_all := bn_t1 (i := 121) rfl rfl
theorem k_122 : (Jvm.Cond.fieldLink "BridgeNet" (189 : Nat) "BridgeNet$Line" "count" "I") ∈ bn_all := bn_t1 (i := 122) rfl rfl
theorem k_123 : (Jvm.Cond.laysFinal "BridgeNet$Line" "BridgeNet$Line" "ring" "[LBridgeNet$Message;") ∈ bn_all := bn_t1 (i := 123) rfl rfl
theorem k_125 : (Jvm.Cond.lays "BridgeNet$Line" "BridgeNet$Line" "first" "I") ∈ bn_all := bn_t1 (i := 125) rfl rfl
theorem k_127 : (Jvm.Cond.lays "BridgeNet$Line" "BridgeNet$Line" "count" "I") ∈ bn_all := bn_t1 (i := 127) rfl rfl
theorem k_130 : (Jvm.Cond.fieldLink "BridgeNet$Port" (62 : Nat) "BridgeNet$Port" "owner" "LBridgeNet$Bridge;") ∈ bn_all := bn_t1 (i := 130) rfl rfl
theorem k_131 : (Jvm.Cond.fieldLink "BridgeNet$Station" (32 : Nat) "BridgeNet$Port" "owner" "LBridgeNet$Bridge;") ∈ bn_all := bn_t1 (i := 131) rfl rfl
theorem k_132 : (Jvm.Cond.fieldLink "BridgeNet" (59 : Nat) "BridgeNet$Port" "owner" "LBridgeNet$Bridge;") ∈ bn_all := bn_t1 (i := 132) rfl rfl
theorem k_133 : (Jvm.Cond.fieldLink "BridgeNet$Port" (66 : Nat) "BridgeNet$Port" "number" "I") ∈ bn_all := bn_t1 (i := 133) rfl rfl
theorem k_134 : (Jvm.Cond.fieldLink "BridgeNet$Bridge" (112 : Nat) "BridgeNet$Port" "number" "I") ∈ bn_all := bn_t1 (i := 134) rfl rfl
theorem k_135 : (Jvm.Cond.fieldLink "BridgeNet$Port" (12 : Nat) "BridgeNet$Port" "line" "LBridgeNet$Line;") ∈ bn_all := bn_t1 (i := 135) rfl rfl
theorem k_136 : (Jvm.Cond.fieldLink "BridgeNet" (128 : Nat) "BridgeNet$Port" "line" "LBridgeNet$Line;") ∈ bn_all := bn_t1 (i := 136) rfl rfl
theorem k_137 : (Jvm.Cond.fieldLink "BridgeNet$Bridge" (123 : Nat) "BridgeNet$Port" "line" "LBridgeNet$Line;") ∈ bn_all := bn_t1 (i := 137) rfl rfl
theorem k_138 : (Jvm.Cond.fieldLink "BridgeNet$Port" (18 : Nat) "BridgeNet$Port" "cost" "I") ∈ bn_all := bn_t1 (i := 138) rfl rfl
theorem k_139 : (Jvm.Cond.fieldLink "BridgeNet" (50 : Nat) "BridgeNet$Port" "cost" "I") ∈ bn_all := bn_t1 (i := 139) rfl rfl
theorem k_140 : (Jvm.Cond.fieldLink "BridgeNet$Bridge" (78 : Nat) "BridgeNet$Port" "cost" "I") ∈ bn_all := bn_t1 (i := 140) rfl rfl
theorem k_141 : (Jvm.Cond.fieldLink "BridgeNet$Port" (22 : Nat) "BridgeNet$Port" "vlans" "I") ∈ bn_all := bn_t1 (i := 141) rfl rfl
theorem k_142 : (Jvm.Cond.fieldLink "BridgeNet" (56 : Nat) "BridgeNet$Port" "vlans" "I") ∈ bn_all := bn_t1 (i := 142) rfl rfl
theorem k_143 : (Jvm.Cond.fieldLink "BridgeNet$Port" (25 : Nat) "BridgeNet$Port" "peer" "LBridgeNet$Port;") ∈ bn_all := bn_t1 (i := 143) rfl rfl
theorem k_144 : (Jvm.Cond.fieldLink "BridgeNet" (70 : Nat) "BridgeNet$Port" "peer" "LBridgeNet$Port;") ∈ bn_all := bn_t1 (i := 144) rfl rfl
theorem k_145 : (Jvm.Cond.fieldLink "BridgeNet$Bridge" (120 : Nat) "BridgeNet$Port" "peer" "LBridgeNet$Port;") ∈ bn_all := bn_t1 (i := 145) rfl rfl
theorem k_146 : (Jvm.Cond.fieldLink "BridgeNet$Port" (29 : Nat) "BridgeNet$Port" "station" "LBridgeNet$Station;") ∈ bn_all := bn_t1 (i := 146) rfl rfl
theorem k_147 : (Jvm.Cond.fieldLink "BridgeNet$Bridge" (104 : Nat) "BridgeNet$Port" "station" "LBridgeNet$Station;") ∈ bn_all := bn_t1 (i := 147) rfl rfl
theorem k_148 : (Jvm.Cond.fieldLink "BridgeNet$Port" (33 : Nat) "BridgeNet$Port" "hasInfo" "Z") ∈ bn_all := bn_t1 (i := 148) rfl rfl
theorem k_149 : (Jvm.Cond.fieldLink "BridgeNet$Bridge" (66 : Nat) "BridgeNet$Port" "hasInfo" "Z") ∈ bn_all := bn_t1 (i := 149) rfl rfl
theorem k_150 : (Jvm.Cond.fieldLink "BridgeNet" (172 : Nat) "BridgeNet$Port" "hasInfo" "Z") ∈ bn_all := bn_t1 (i := 150) rfl rfl
theorem k_151 : (Jvm.Cond.fieldLink "BridgeNet$Port" (37 : Nat) "BridgeNet$Port" "info" "J") ∈ bn_all := bn_t1 (i := 151) rfl rfl
theorem k_152 : (Jvm.Cond.fieldLink "BridgeNet$Bridge" (70 : Nat) "BridgeNet$Port" "info" "J") ∈ bn_all := bn_t1 (i := 152) rfl rfl
theorem k_153 : (Jvm.Cond.fieldLink "BridgeNet$Port" (41 : Nat) "BridgeNet$Port" "infoHops" "I") ∈ bn_all := bn_t1 (i := 153) rfl rfl
theorem k_154 : (Jvm.Cond.fieldLink "BridgeNet$Port" (44 : Nat) "BridgeNet$Port" "infoLife" "I") ∈ bn_all := bn_t1 (i := 154) rfl rfl
theorem k_155 : (Jvm.Cond.fieldLink "BridgeNet$Port" (47 : Nat) "BridgeNet$Port" "role" "I") ∈ bn_all := bn_t1 (i := 155) rfl rfl
theorem k_156 : (Jvm.Cond.fieldLink "BridgeNet$Bridge" (97 : Nat) "BridgeNet$Port" "role" "I") ∈ bn_all := bn_t1 (i := 156) rfl rfl
theorem k_157 : (Jvm.Cond.fieldLink "BridgeNet$Port" (50 : Nat) "BridgeNet$Port" "state" "I") ∈ bn_all := bn_t1 (i := 157) rfl rfl
theorem k_158 : (Jvm.Cond.fieldLink "BridgeNet$Bridge" (165 : Nat) "BridgeNet$Port" "state" "I") ∈ bn_all := bn_t1 (i := 158) rfl rfl
theorem k_159 : (Jvm.Cond.fieldLink "BridgeNet$Port" (53 : Nat) "BridgeNet$Port" "proposing" "Z") ∈ bn_all := bn_t1 (i := 159) rfl rfl
theorem k_160 : (Jvm.Cond.fieldLink "BridgeNet$Bridge" (127 : Nat) "BridgeNet$Port" "proposing" "Z") ∈ bn_all := bn_t1 (i := 160) rfl rfl
theorem k_161 : (Jvm.Cond.fieldLink "BridgeNet$Port" (56 : Nat) "BridgeNet$Port" "agreed" "Z") ∈ bn_all := bn_t1 (i := 161) rfl rfl
theorem k_162 : (Jvm.Cond.fieldLink "BridgeNet$Port" (59 : Nat) "BridgeNet$Port" "waits" "I") ∈ bn_all := bn_t1 (i := 162) rfl rfl
theorem k_163 : (Jvm.Cond.laysFinal "BridgeNet$Port" "BridgeNet$Port" "owner" "LBridgeNet$Bridge;") ∈ bn_all := bn_t1 (i := 163) rfl rfl
theorem k_165 : (Jvm.Cond.laysFinal "BridgeNet$Port" "BridgeNet$Port" "number" "I") ∈ bn_all := bn_t1 (i := 165) rfl rfl
theorem k_167 : (Jvm.Cond.laysFinal "BridgeNet$Port" "BridgeNet$Port" "line" "LBridgeNet$Line;") ∈ bn_all := bn_t1 (i := 167) rfl rfl
theorem k_169 : (Jvm.Cond.lays "BridgeNet$Port" "BridgeNet$Port" "cost" "I") ∈ bn_all := bn_t1 (i := 169) rfl rfl
theorem k_171 : (Jvm.Cond.lays "BridgeNet$Port" "BridgeNet$Port" "vlans" "I") ∈ bn_all := bn_t1 (i := 171) rfl rfl
theorem k_173 : (Jvm.Cond.lays "BridgeNet$Port" "BridgeNet$Port" "peer" "LBridgeNet$Port;") ∈ bn_all := bn_t1 (i := 173) rfl rfl
theorem k_175 : (Jvm.Cond.lays "BridgeNet$Port" "BridgeNet$Port" "station" "LBridgeNet$Station;") ∈ bn_all := bn_t1 (i := 175) rfl rfl
theorem k_177 : (Jvm.Cond.lays "BridgeNet$Port" "BridgeNet$Port" "hasInfo" "Z") ∈ bn_all := bn_t1 (i := 177) rfl rfl
theorem k_179 : (Jvm.Cond.lays "BridgeNet$Port" "BridgeNet$Port" "info" "J") ∈ bn_all := bn_t1 (i := 179) rfl rfl
theorem k_181 : (Jvm.Cond.lays "BridgeNet$Port" "BridgeNet$Port" "infoHops" "I") ∈ bn_all := bn_t1 (i := 181) rfl rfl
theorem k_183 : (Jvm.Cond.lays "BridgeNet$Port" "BridgeNet$Port" "infoLife" "I") ∈ bn_all := bn_t1 (i := 183) rfl rfl
theorem k_185 : (Jvm.Cond.lays "BridgeNet$Port" "BridgeNet$Port" "role" "I") ∈ bn_all := bn_t1 (i := 185) rfl rfl
theorem k_187 : (Jvm.Cond.lays "BridgeNet$Port" "BridgeNet$Port" "state" "I") ∈ bn_all := bn_t1 (i := 187) rfl rfl
theorem k_189 : (Jvm.Cond.lays "BridgeNet$Port" "BridgeNet$Port" "proposing" "Z") ∈ bn_all := bn_t1 (i := 189) rfl rfl
theorem k_191 : (Jvm.Cond.lays "BridgeNet$Port" "BridgeNet$Port" "agreed" "Z") ∈ bn_all := bn_t1 (i := 191) rfl rfl
theorem k_193 : (Jvm.Cond.lays "BridgeNet$Port" "BridgeNet$Port" "waits" "I") ∈ bn_all := bn_t1 (i := 193) rfl rfl
theorem k_196 : (Jvm.Cond.instantiable "BridgeNet$Station" (4 : Nat)) ∈ bn_all := bn_t1 (i := 196) rfl rfl
theorem k_198 : (Jvm.Cond.instanceMethod ({ cls := "BridgeNet$Station", name := "<init>", desc := "()V" } : Jvm.MethodName)) ∈ bn_all := bn_t1 (i := 198) rfl rfl
theorem k_199 : (Jvm.Cond.code ({ cls := "BridgeNet$Station", name := "<init>", desc := "()V" } : Jvm.MethodName) prog_7_method_1_code (1 : Nat) (Option.none : Option Jvm.ClassFile.FieldType)) ∈ bn_all := bn_t1 (i := 199) rfl rfl
theorem k_200 : (Jvm.Cond.methodLink "BridgeNet$Station" (3 : Nat) ({ cls := "java/lang/Object", name := "<init>", desc := "()V" } : Jvm.MethodName)) ∈ bn_all := bn_t1 (i := 200) rfl rfl
theorem k_201 : (Jvm.Cond.fieldLink "BridgeNet$Station" (9 : Nat) "BridgeNet$Station" "place" "LBridgeNet$Port;") ∈ bn_all := bn_t1 (i := 201) rfl rfl
theorem k_202 : (Jvm.Cond.fieldLink "BridgeNet" (107 : Nat) "BridgeNet$Station" "place" "LBridgeNet$Port;") ∈ bn_all := bn_t1 (i := 202) rfl rfl
theorem k_203 : (Jvm.Cond.fieldLink "BridgeNet$Station" (15 : Nat) "BridgeNet$Station" "vlan" "I") ∈ bn_all := bn_t1 (i := 203) rfl rfl
theorem k_204 : (Jvm.Cond.fieldLink "BridgeNet" (116 : Nat) "BridgeNet$Station" "vlan" "I") ∈ bn_all := bn_t1 (i := 204) rfl rfl
theorem k_205 : (Jvm.Cond.fieldLink "BridgeNet$Port" (104 : Nat) "BridgeNet$Station" "vlan" "I") ∈ bn_all := bn_t1 (i := 205) rfl rfl
theorem k_206 : (Jvm.Cond.fieldLink "BridgeNet$Station" (19 : Nat) "BridgeNet$Station" "inbox" "[J") ∈ bn_all := bn_t1 (i := 206) rfl rfl
theorem k_207 : (Jvm.Cond.fieldLink "BridgeNet$Station" (23 : Nat) "BridgeNet$Station" "count" "I") ∈ bn_all := bn_t1 (i := 207) rfl rfl
theorem k_208 : (Jvm.Cond.fieldLink "BridgeNet" (182 : Nat) "BridgeNet$Station" "count" "I") ∈ bn_all := bn_t1 (i := 208) rfl rfl
theorem k_209 : (Jvm.Cond.lays "BridgeNet$Station" "BridgeNet$Station" "place" "LBridgeNet$Port;") ∈ bn_all := bn_t1 (i := 209) rfl rfl
theorem k_211 : (Jvm.Cond.lays "BridgeNet$Station" "BridgeNet$Station" "vlan" "I") ∈ bn_all := bn_t1 (i := 211) rfl rfl
theorem k_213 : (Jvm.Cond.laysFinal "BridgeNet$Station" "BridgeNet$Station" "inbox" "[J") ∈ bn_all := bn_t1 (i := 213) rfl rfl
theorem k_215 : (Jvm.Cond.lays "BridgeNet$Station" "BridgeNet$Station" "count" "I") ∈ bn_all := bn_t1 (i := 215) rfl rfl
theorem k_218 : (Jvm.Cond.arrayClass Jvm.ClassFile.FieldType.long) ∈ bn_all := bn_t1 (i := 218) rfl rfl
theorem k_219 : (Jvm.Cond.fieldLink "BridgeNet" (11 : Nat) "BridgeNet" "bridges" "[LBridgeNet$Bridge;") ∈ bn_all := bn_t1 (i := 219) rfl rfl
theorem k_220 : (Jvm.Cond.fieldLink "BridgeNet" (17 : Nat) "BridgeNet" "stations" "[LBridgeNet$Station;") ∈ bn_all := bn_t1 (i := 220) rfl rfl
theorem k_221 : (Jvm.Cond.fieldLink "BridgeNet" (21 : Nat) "BridgeNet" "tellsAtNextTick" "Z") ∈ bn_all := bn_t1 (i := 221) rfl rfl
theorem k_222 : (Jvm.Cond.laysFinal "BridgeNet" "BridgeNet" "bridges" "[LBridgeNet$Bridge;") ∈ bn_all := bn_t1 (i := 222) rfl rfl
theorem k_224 : (Jvm.Cond.laysFinal "BridgeNet" "BridgeNet" "stations" "[LBridgeNet$Station;") ∈ bn_all := bn_t1 (i := 224) rfl rfl
theorem k_226 : (Jvm.Cond.lays "BridgeNet" "BridgeNet" "tellsAtNextTick" "Z") ∈ bn_all := bn_t1 (i := 226) rfl rfl
theorem k_229 : (Jvm.Cond.methodLink "BridgeNetLaw" (31 : Nat) ({ cls := "BridgeNet", name := "priority", desc := "(II)Z" } : Jvm.MethodName)) ∈ bn_all := bn_t1 (i := 229) rfl rfl
theorem k_230 : (Jvm.Cond.instanceMethod ({ cls := "BridgeNet", name := "priority", desc := "(II)Z" } : Jvm.MethodName)) ∈ bn_all := bn_t1 (i := 230) rfl rfl
theorem k_231 : (Jvm.Cond.selects "BridgeNet" ({ cls := "BridgeNet", name := "priority", desc := "(II)Z" } : Jvm.MethodName) ({ cls := "BridgeNet", name := "priority", desc := "(II)Z" } : Jvm.MethodName)) ∈ bn_all := bn_t1 (i := 231) rfl rfl
theorem k_232 : (Jvm.Cond.code ({ cls := "BridgeNet", name := "priority", desc := "(II)Z" } : Jvm.MethodName) prog_1_method_2_code (3 : Nat) (Option.some Jvm.ClassFile.FieldType.boolean)) ∈ bn_all := bn_t1 (i := 232) rfl rfl
theorem k_233 : (Jvm.Cond.methodLink "BridgeNet" (32 : Nat) ({ cls := "BridgeNet", name := "isBridge", desc := "(I)Z" } : Jvm.MethodName)) ∈ bn_all := bn_t1 (i := 233) rfl rfl
theorem k_234 : (Jvm.Cond.static ({ cls := "BridgeNet", name := "isBridge", desc := "(I)Z" } : Jvm.MethodName)) ∈ bn_all := bn_t1 (i := 234) rfl rfl
theorem k_235 : (Jvm.Cond.code ({ cls := "BridgeNet", name := "isBridge", desc := "(I)Z" } : Jvm.MethodName) prog_1_method_18_code (1 : Nat) (Option.some Jvm.ClassFile.FieldType.boolean)) ∈ bn_all := bn_t1 (i := 235) rfl rfl
theorem k_236 : (Jvm.Cond.methodLink "BridgeNet" (36 : Nat) ({ cls := "BridgeNet$Bridge", name := "isUnused", desc := "()Z" } : Jvm.MethodName)) ∈ bn_all := bn_t1 (i := 236) rfl rfl
theorem k_237 : (Jvm.Cond.instanceMethod ({ cls := "BridgeNet$Bridge", name := "isUnused", desc := "()Z" } : Jvm.MethodName)) ∈ bn_all := bn_t1 (i := 237) rfl rfl
theorem k_238 : (Jvm.Cond.selects "BridgeNet$Bridge" ({ cls := "BridgeNet$Bridge", name := "isUnused", desc := "()Z" } : Jvm.MethodName) ({ cls := "BridgeNet$Bridge", name := "isUnused", desc := "()Z" } : Jvm.MethodName)) ∈ bn_all := bn_t1 (i := 238) rfl rfl
theorem k_239 : (Jvm.Cond.code ({ cls := "BridgeNet$Bridge", name := "isUnused", desc := "()Z" } : Jvm.MethodName) prog_2_method_3_code (5 : Nat) (Option.some Jvm.ClassFile.FieldType.boolean)) ∈ bn_all := bn_t1 (i := 239) rfl rfl
theorem k_240 : (Jvm.Cond.methodLink "BridgeNet$Bridge" (47 : Nat) ({ cls := "BridgeNet$Port", name := "isFree", desc := "()Z" } : Jvm.MethodName)) ∈ bn_all := bn_t2 (i := 0) rfl rfl
theorem k_241 : (Jvm.Cond.instanceMethod ({ cls := "BridgeNet$Port", name := "isFree", desc := "()Z" } : Jvm.MethodName)) ∈ bn_all := bn_t2 (i := 1) rfl rfl
theorem k_242 : (Jvm.Cond.selects "BridgeNet$Port" ({ cls := "BridgeNet$Port", name := "isFree", desc := "()Z" } : Jvm.MethodName) ({ cls := "BridgeNet$Port", name := "isFree", desc := "()Z" } : Jvm.MethodName)) ∈ bn_all := bn_t2 (i := 2) rfl rfl
theorem k_243 : (Jvm.Cond.code ({ cls := "BridgeNet$Port", name := "isFree", desc := "()Z" } : Jvm.MethodName) prog_6_method_2_code (1 : Nat) (Option.some Jvm.ClassFile.FieldType.boolean)) ∈ bn_all := bn_t2 (i := 3) rfl rfl
theorem k_244 : (Jvm.Cond.methodLink "BridgeNet" (40 : Nat) ({ cls := "BridgeNet$Bridge", name := "rank", desc := "(I)V" } : Jvm.MethodName)) ∈ bn_all := bn_t2 (i := 4) rfl rfl
theorem k_245 : (Jvm.Cond.instanceMethod ({ cls := "BridgeNet$Bridge", name := "rank", desc := "(I)V" } : Jvm.MethodName)) ∈ bn_all := bn_t2 (i := 5) rfl rfl
theorem k_246 : (Jvm.Cond.selects "BridgeNet$Bridge" ({ cls := "BridgeNet$Bridge", name := "rank", desc := "(I)V" } : Jvm.MethodName) ({ cls := "BridgeNet$Bridge", name := "rank", desc := "(I)V" } : Jvm.MethodName)) ∈ bn_all := bn_t2 (i := 6) rfl rfl
theorem k_247 : (Jvm.Cond.code ({ cls := "BridgeNet$Bridge", name := "rank", desc := "(I)V" } : Jvm.MethodName) prog_2_method_4_code (2 : Nat) (Option.none : Option Jvm.ClassFile.FieldType)) ∈ bn_all := bn_t2 (i := 7) rfl rfl
theorem k_248 : (Jvm.Cond.methodLink "BridgeNet" (43 : Nat) ({ cls := "BridgeNet$Bridge", name := "compute", desc := "()V" } : Jvm.MethodName)) ∈ bn_all := bn_t2 (i := 8) rfl rfl
theorem k_249 : (Jvm.Cond.instanceMethod ({ cls := "BridgeNet$Bridge", name := "compute", desc := "()V" } : Jvm.MethodName)) ∈ bn_all := bn_t2 (i := 9) rfl rfl
theorem k_250 : (Jvm.Cond.selects "BridgeNet$Bridge" ({ cls := "BridgeNet$Bridge", name := "compute", desc := "()V" } : Jvm.MethodName) ({ cls := "BridgeNet$Bridge", name := "compute", desc := "()V" } : Jvm.MethodName)) ∈ bn_all := bn_t2 (i := 10) rfl rfl
theorem k_251 : (Jvm.Cond.code ({ cls := "BridgeNet$Bridge", name := "compute", desc := "()V" } : Jvm.MethodName) prog_2_method_6_code (5 : Nat) (Option.none : Option Jvm.ClassFile.FieldType)) ∈ bn_all := bn_t2 (i := 11) rfl rfl
theorem k_252 : (Jvm.Cond.methodLink "BridgeNet$Bridge" (51 : Nat) ({ cls := "BridgeNet$Bridge", name := "chooseRoot", desc := "()V" } : Jvm.MethodName)) ∈ bn_all := bn_t2 (i := 12) rfl rfl
theorem k_254 : (Jvm.Cond.instanceMethod ({ cls := "BridgeNet$Bridge", name := "chooseRoot", desc := "()V" } : Jvm.MethodName)) ∈ bn_all := bn_t2 (i := 14) rfl rfl
theorem k_255 : (Jvm.Cond.code ({ cls := "BridgeNet$Bridge", name := "chooseRoot", desc := "()V" } : Jvm.MethodName) prog_2_method_7_code (9 : Nat) (Option.none : Option Jvm.ClassFile.FieldType)) ∈ bn_all := bn_t2 (i := 15) rfl rfl
theorem k_256 : (Jvm.Cond.methodLink "BridgeNet$Bridge" (60 : Nat) ({ cls := "BridgeNet$Vector", name := "of", desc := "(IIII)J" } : Jvm.MethodName)) ∈ bn_all := bn_t2 (i := 16) rfl rfl
theorem k_257 : (Jvm.Cond.static ({ cls := "BridgeNet$Vector", name := "of", desc := "(IIII)J" } : Jvm.MethodName)) ∈ bn_all := bn_t2 (i := 17) rfl rfl
theorem k_258 : (Jvm.Cond.code ({ cls := "BridgeNet$Vector", name := "of", desc := "(IIII)J" } : Jvm.MethodName) prog_8_method_2_code (4 : Nat) (Option.some Jvm.ClassFile.FieldType.long)) ∈ bn_all := bn_t2 (i := 18) rfl rfl
theorem k_259 : (Jvm.Cond.methodLink "BridgeNet$Bridge" (74 : Nat) ({ cls := "BridgeNet$Vector", name := "bridgeOf", desc := "(J)I" } : Jvm.MethodName)) ∈ bn_all := bn_t2 (i := 19) rfl rfl
theorem k_260 : (Jvm.Cond.static ({ cls := "BridgeNet$Vector", name := "bridgeOf", desc := "(J)I" } : Jvm.MethodName)) ∈ bn_all := bn_t2 (i := 20) rfl rfl
theorem k_261 : (Jvm.Cond.code ({ cls := "BridgeNet$Vector", name := "bridgeOf", desc := "(J)I" } : Jvm.MethodName) prog_8_method_6_code (2 : Nat) (Option.some Jvm.ClassFile.FieldType.int)) ∈ bn_all := bn_t2 (i := 21) rfl rfl
theorem k_262 : (Jvm.Cond.methodLink "BridgeNet$Bridge" (79 : Nat) ({ cls := "BridgeNet$Vector", name := "farther", desc := "(JI)J" } : Jvm.MethodName)) ∈ bn_all := bn_t2 (i := 22) rfl rfl
theorem k_263 : (Jvm.Cond.static ({ cls := "BridgeNet$Vector", name := "farther", desc := "(JI)J" } : Jvm.MethodName)) ∈ bn_all := bn_t2 (i := 23) rfl rfl
theorem k_264 : (Jvm.Cond.code ({ cls := "BridgeNet$Vector", name := "farther", desc := "(JI)J" } : Jvm.MethodName) prog_8_method_3_code (3 : Nat) (Option.some Jvm.ClassFile.FieldType.long)) ∈ bn_all := bn_t2 (i := 24) rfl rfl
theorem k_265 : (Jvm.Cond.methodLink "BridgeNet$Bridge" (83 : Nat) ({ cls := "BridgeNet$Port", name := "hopsThrough", desc := "()I" } : Jvm.MethodName)) ∈ bn_all := bn_t2 (i := 25) rfl rfl
theorem k_266 : (Jvm.Cond.instanceMethod ({ cls := "BridgeNet$Port", name := "hopsThrough", desc := "()I" } : Jvm.MethodName)) ∈ bn_all := bn_t2 (i := 26) rfl rfl
theorem k_267 : (Jvm.Cond.selects "BridgeNet$Port" ({ cls := "BridgeNet$Port", name := "hopsThrough", desc := "()I" } : Jvm.MethodName) ({ cls := "BridgeNet$Port", name := "hopsThrough", desc := "()I" } : Jvm.MethodName)) ∈ bn_all := bn_t2 (i := 27) rfl rfl
theorem k_268 : (Jvm.Cond.code ({ cls := "BridgeNet$Port", name := "hopsThrough", desc := "()I" } : Jvm.MethodName) prog_6_method_5_code (1 : Nat) (Option.some Jvm.ClassFile.FieldType.int)) ∈ bn_all := bn_t2 (i := 28) rfl rfl
theorem k_269 : (Jvm.Cond.methodLink "BridgeNet$Bridge" (87 : Nat) ({ cls := "BridgeNet$Vector", name := "rootOf", desc := "(J)I" } : Jvm.MethodName)) ∈ bn_all := bn_t2 (i := 29) rfl rfl
theorem k_270 : (Jvm.Cond.static ({ cls := "BridgeNet$Vector", name := "rootOf", desc := "(J)I" } : Jvm.MethodName)) ∈ bn_all := bn_t2 (i := 30) rfl rfl
theorem k_271 : (Jvm.Cond.code ({ cls := "BridgeNet$Vector", name := "rootOf", desc := "(J)I" } : Jvm.MethodName) prog_8_method_4_code (2 : Nat) (Option.some Jvm.ClassFile.FieldType.int)) ∈ bn_all := bn_t2 (i := 31) rfl rfl
theorem k_272 : (Jvm.Cond.methodLink "BridgeNet$Bridge" (90 : Nat) ({ cls := "BridgeNet$Vector", name := "costOf", desc := "(J)I" } : Jvm.MethodName)) ∈ bn_all := bn_t2 (i := 32) rfl rfl
theorem k_273 : (Jvm.Cond.static ({ cls := "BridgeNet$Vector", name := "costOf", desc := "(J)I" } : Jvm.MethodName)) ∈ bn_all := bn_t2 (i := 33) rfl rfl
theorem k_274 : (Jvm.Cond.code ({ cls := "BridgeNet$Vector", name := "costOf", desc := "(J)I" } : Jvm.MethodName) prog_8_method_5_code (2 : Nat) (Option.some Jvm.ClassFile.FieldType.int)) ∈ bn_all := bn_t2 (i := 34) rfl rfl
theorem k_275 : (Jvm.Cond.constant "BridgeNet$Vector" (9 : Nat) (65535 : Int32)) ∈ bn_all := bn_t2 (i := 35) rfl rfl
theorem k_276 : (Jvm.Cond.methodLink "BridgeNet$Bridge" (54 : Nat) ({ cls := "BridgeNet$Bridge", name := "giveRoles", desc := "()Z" } : Jvm.MethodName)) ∈ bn_all := bn_t2 (i := 36) rfl rfl
theorem k_278 : (Jvm.Cond.instanceMethod ({ cls := "BridgeNet$Bridge", name := "giveRoles", desc := "()Z" } : Jvm.MethodName)) ∈ bn_all := bn_t2 (i := 38) rfl rfl
theorem k_279 : (Jvm.Cond.code ({ cls := "BridgeNet$Bridge", name := "giveRoles", desc := "()Z" } : Jvm.MethodName) prog_2_method_8_code (7 : Nat) (Option.some Jvm.ClassFile.FieldType.boolean)) ∈ bn_all := bn_t2 (i := 39) rfl rfl
theorem k_280 : (Jvm.Cond.methodLink "BridgeNet$Bridge" (93 : Nat) ({ cls := "BridgeNet$Bridge", name := "dueRole", desc := "(LBridgeNet$Port;)I" } : Jvm.MethodName)) ∈ bn_all := bn_t2 (i := 40) rfl rfl
theorem k_282 : (Jvm.Cond.instanceMethod ({ cls := "BridgeNet$Bridge", name := "dueRole", desc := "(LBridgeNet$Port;)I" } : Jvm.MethodName)) ∈ bn_all := bn_t2 (i := 42) rfl rfl
theorem k_283 : (Jvm.Cond.code ({ cls := "BridgeNet$Bridge", name := "dueRole", desc := "(LBridgeNet$Port;)I" } : Jvm.MethodName) prog_2_method_9_code (2 : Nat) (Option.some Jvm.ClassFile.FieldType.int)) ∈ bn_all := bn_t2 (i := 43) rfl rfl
theorem k_284 : (Jvm.Cond.methodLink "BridgeNet$Bridge" (108 : Nat) ({ cls := "BridgeNet$Bridge", name := "ownVector", desc := "(LBridgeNet$Port;)J" } : Jvm.MethodName)) ∈ bn_all := bn_t2 (i := 44) rfl rfl
theorem k_286 : (Jvm.Cond.instanceMethod ({ cls := "BridgeNet$Bridge", name := "ownVector", desc := "(LBridgeNet$Port;)J" } : Jvm.MethodName)) ∈ bn_all := bn_t2 (i := 46) rfl rfl
theorem k_287 : (Jvm.Cond.code ({ cls := "BridgeNet$Bridge", name := "ownVector", desc := "(LBridgeNet$Port;)J" } : Jvm.MethodName) prog_2_method_10_code (2 : Nat) (Option.some Jvm.ClassFile.FieldType.long)) ∈ bn_all := bn_t2 (i := 47) rfl rfl
theorem k_288 : (Jvm.Cond.methodLink "BridgeNet$Bridge" (100 : Nat) ({ cls := "BridgeNet$Port", name := "become", desc := "(I)V" } : Jvm.MethodName)) ∈ bn_all := bn_t2 (i := 48) rfl rfl
theorem k_289 : (Jvm.Cond.instanceMethod ({ cls := "BridgeNet$Port", name := "become", desc := "(I)V" } : Jvm.MethodName)) ∈ bn_all := bn_t2 (i := 49) rfl rfl
theorem k_290 : (Jvm.Cond.selects "BridgeNet$Port" ({ cls := "BridgeNet$Port", name := "become", desc := "(I)V" } : Jvm.MethodName) ({ cls := "BridgeNet$Port", name := "become", desc := "(I)V" } : Jvm.MethodName)) ∈ bn_all := bn_t2 (i := 50) rfl rfl
theorem k_291 : (Jvm.Cond.code ({ cls := "BridgeNet$Port", name := "become", desc := "(I)V" } : Jvm.MethodName) prog_6_method_7_code (2 : Nat) (Option.none : Option Jvm.ClassFile.FieldType)) ∈ bn_all := bn_t2 (i := 51) rfl rfl
theorem k_292 : (Jvm.Cond.methodLink "BridgeNet$Port" (81 : Nat) ({ cls := "BridgeNet$Port", name := "propose", desc := "()V" } : Jvm.MethodName)) ∈ bn_all := bn_t2 (i := 52) rfl rfl
theorem k_294 : (Jvm.Cond.instanceMethod ({ cls := "BridgeNet$Port", name := "propose", desc := "()V" } : Jvm.MethodName)) ∈ bn_all := bn_t2 (i := 54) rfl rfl
theorem k_295 : (Jvm.Cond.code ({ cls := "BridgeNet$Port", name := "propose", desc := "()V" } : Jvm.MethodName) prog_6_method_8_code (1 : Nat) (Option.none : Option Jvm.ClassFile.FieldType)) ∈ bn_all := bn_t2 (i := 55) rfl rfl
theorem k_296 : (Jvm.Cond.methodLink "BridgeNet$Bridge" (57 : Nat) ({ cls := "BridgeNet$Bridge", name := "tellOnAll", desc := "()V" } : Jvm.MethodName)) ∈ bn_all := bn_t2 (i := 56) rfl rfl
theorem k_297 : (Jvm.Cond.instanceMethod ({ cls := "BridgeNet$Bridge", name := "tellOnAll", desc := "()V" } : Jvm.MethodName)) ∈ bn_all := bn_t2 (i := 57) rfl rfl
theorem k_298 : (Jvm.Cond.selects "BridgeNet$Bridge" ({ cls := "BridgeNet$Bridge", name := "tellOnAll", desc := "()V" } : Jvm.MethodName) ({ cls := "BridgeNet$Bridge", name := "tellOnAll", desc := "()V" } : Jvm.MethodName)) ∈ bn_all := bn_t2 (i := 58) rfl rfl
theorem k_299 : (Jvm.Cond.code ({ cls := "BridgeNet$Bridge", name := "tellOnAll", desc := "()V" } : Jvm.MethodName) prog_2_method_11_code (5 : Nat) (Option.none : Option Jvm.ClassFile.FieldType)) ∈ bn_all := bn_t2 (i := 59) rfl rfl
theorem k_300 : (Jvm.Cond.methodLink "BridgeNet$Bridge" (113 : Nat) ({ cls := "BridgeNet$Port", name := "isLinkedDesignated", desc := "()Z" } : Jvm.MethodName)) ∈ bn_all := bn_t2 (i := 60) rfl rfl
theorem k_301 : (Jvm.Cond.instanceMethod ({ cls := "BridgeNet$Port", name := "isLinkedDesignated", desc := "()Z" } : Jvm.MethodName)) ∈ bn_all := bn_t2 (i := 61) rfl rfl
theorem k_302 : (Jvm.Cond.selects "BridgeNet$Port" ({ cls := "BridgeNet$Port", name := "isLinkedDesignated", desc := "()Z" } : Jvm.MethodName) ({ cls := "BridgeNet$Port", name := "isLinkedDesignated", desc := "()Z" } : Jvm.MethodName)) ∈ bn_all := bn_t2 (i := 62) rfl rfl
theorem k_303 : (Jvm.Cond.code ({ cls := "BridgeNet$Port", name := "isLinkedDesignated", desc := "()Z" } : Jvm.MethodName) prog_6_method_3_code (1 : Nat) (Option.some Jvm.ClassFile.FieldType.boolean)) ∈ bn_all := bn_t2 (i := 63) rfl rfl
theorem k_304 : (Jvm.Cond.methodLink "BridgeNet$Bridge" (116 : Nat) ({ cls := "BridgeNet$Bridge", name := "tellOn", desc := "(LBridgeNet$Port;)V" } : Jvm.MethodName)) ∈ bn_all := bn_t2 (i := 64) rfl rfl
theorem k_306 : (Jvm.Cond.instanceMethod ({ cls := "BridgeNet$Bridge", name := "tellOn", desc := "(LBridgeNet$Port;)V" } : Jvm.MethodName)) ∈ bn_all := bn_t2 (i := 66) rfl rfl
theorem k_307 : (Jvm.Cond.code ({ cls := "BridgeNet$Bridge", name := "tellOn", desc := "(LBridgeNet$Port;)V" } : Jvm.MethodName) prog_2_method_12_code (2 : Nat) (Option.none : Option Jvm.ClassFile.FieldType)) ∈ bn_all := bn_t2 (i := 67) rfl rfl
theorem k_308 : (Jvm.Cond.methodLink "BridgeNet$Bridge" (130 : Nat) ({ cls := "BridgeNet$Line", name := "putTell", desc := "(JIZ)V" } : Jvm.MethodName)) ∈ bn_all := bn_t2 (i := 68) rfl rfl
theorem k_309 : (Jvm.Cond.instanceMethod ({ cls := "BridgeNet$Line", name := "putTell", desc := "(JIZ)V" } : Jvm.MethodName)) ∈ bn_all := bn_t2 (i := 69) rfl rfl
theorem k_310 : (Jvm.Cond.selects "BridgeNet$Line" ({ cls := "BridgeNet$Line", name := "putTell", desc := "(JIZ)V" } : Jvm.MethodName) ({ cls := "BridgeNet$Line", name := "putTell", desc := "(JIZ)V" } : Jvm.MethodName)) ∈ bn_all := bn_t2 (i := 70) rfl rfl
theorem k_311 : (Jvm.Cond.code ({ cls := "BridgeNet$Line", name := "putTell", desc := "(JIZ)V" } : Jvm.MethodName) prog_4_method_5_code (6 : Nat) (Option.none : Option Jvm.ClassFile.FieldType)) ∈ bn_all := bn_t2 (i := 71) rfl rfl
theorem k_312 : (Jvm.Cond.methodLink "BridgeNet$Line" (25 : Nat) ({ cls := "BridgeNet$Vector", name := "rootOf", desc := "(J)I" } : Jvm.MethodName)) ∈ bn_all := bn_t2 (i := 72) rfl rfl
theorem k_313 : (Jvm.Cond.methodLink "BridgeNet$Line" (31 : Nat) ({ cls := "BridgeNet$Line", name := "put", desc := "(IILBridgeNet$Frame;)LBridgeNet$Message;" } : Jvm.MethodName)) ∈ bn_all := bn_t2 (i := 73) rfl rfl
theorem k_315 : (Jvm.Cond.instanceMethod ({ cls := "BridgeNet$Line", name := "put", desc := "(IILBridgeNet$Frame;)LBridgeNet$Message;" } : Jvm.MethodName)) ∈ bn_all := bn_t2 (i := 75) rfl rfl
theorem k_316 : (Jvm.Cond.code ({ cls := "BridgeNet$Line", name := "put", desc := "(IILBridgeNet$Frame;)LBridgeNet$Message;" } : Jvm.MethodName) prog_4_method_8_code (5 : Nat) (Option.some (Jvm.ClassFile.FieldType.object "BridgeNet$Message"))) ∈ bn_all := bn_t2 (i := 76) rfl rfl
theorem k_317 : (Jvm.Cond.methodLink "BridgeNetLaw" (36 : Nat) ({ cls := "BridgeNet", name := "set", desc := "(IIII)Z" } : Jvm.MethodName)) ∈ bn_all := bn_t2 (i := 77) rfl rfl
theorem k_318 : (Jvm.Cond.instanceMethod ({ cls := "BridgeNet", name := "set", desc := "(IIII)Z" } : Jvm.MethodName)) ∈ bn_all := bn_t2 (i := 78) rfl rfl
theorem k_319 : (Jvm.Cond.selects "BridgeNet" ({ cls := "BridgeNet", name := "set", desc := "(IIII)Z" } : Jvm.MethodName) ({ cls := "BridgeNet", name := "set", desc := "(IIII)Z" } : Jvm.MethodName)) ∈ bn_all := bn_t2 (i := 79) rfl rfl
theorem k_320 : (Jvm.Cond.code ({ cls := "BridgeNet", name := "set", desc := "(IIII)Z" } : Jvm.MethodName) prog_1_method_3_code (6 : Nat) (Option.some Jvm.ClassFile.FieldType.boolean)) ∈ bn_all := bn_t2 (i := 80) rfl rfl
theorem k_321 : (Jvm.Cond.methodLink "BridgeNet" (46 : Nat) ({ cls := "BridgeNet", name := "findPort", desc := "(II)LBridgeNet$Port;" } : Jvm.MethodName)) ∈ bn_all := bn_t2 (i := 81) rfl rfl
theorem k_323 : (Jvm.Cond.instanceMethod ({ cls := "BridgeNet", name := "findPort", desc := "(II)LBridgeNet$Port;" } : Jvm.MethodName)) ∈ bn_all := bn_t2 (i := 83) rfl rfl
theorem k_324 : (Jvm.Cond.code ({ cls := "BridgeNet", name := "findPort", desc := "(II)LBridgeNet$Port;" } : Jvm.MethodName) prog_1_method_20_code (3 : Nat) (Option.some (Jvm.ClassFile.FieldType.object "BridgeNet$Port"))) ∈ bn_all := bn_t2 (i := 84) rfl rfl
theorem k_325 : (Jvm.Cond.methodLink "BridgeNetLaw" (41 : Nat) ({ cls := "BridgeNet", name := "link", desc := "(IIII)Z" } : Jvm.MethodName)) ∈ bn_all := bn_t2 (i := 85) rfl rfl
theorem k_326 : (Jvm.Cond.instanceMethod ({ cls := "BridgeNet", name := "link", desc := "(IIII)Z" } : Jvm.MethodName)) ∈ bn_all := bn_t2 (i := 86) rfl rfl
theorem k_327 : (Jvm.Cond.selects "BridgeNet" ({ cls := "BridgeNet", name := "link", desc := "(IIII)Z" } : Jvm.MethodName) ({ cls := "BridgeNet", name := "link", desc := "(IIII)Z" } : Jvm.MethodName)) ∈ bn_all := bn_t2 (i := 87) rfl rfl
theorem k_328 : (Jvm.Cond.code ({ cls := "BridgeNet", name := "link", desc := "(IIII)Z" } : Jvm.MethodName) prog_1_method_4_code (7 : Nat) (Option.some Jvm.ClassFile.FieldType.boolean)) ∈ bn_all := bn_t2 (i := 88) rfl rfl
theorem k_329 : (Jvm.Cond.methodLink "BridgeNet" (63 : Nat) ({ cls := "BridgeNet$Port", name := "isFree", desc := "()Z" } : Jvm.MethodName)) ∈ bn_all := bn_t2 (i := 89) rfl rfl
theorem k_330 : (Jvm.Cond.methodLink "BridgeNet" (66 : Nat) ({ cls := "BridgeNet$Port", name := "join", desc := "(LBridgeNet$Port;LBridgeNet$Station;)V" } : Jvm.MethodName)) ∈ bn_all := bn_t2 (i := 90) rfl rfl
theorem k_331 : (Jvm.Cond.instanceMethod ({ cls := "BridgeNet$Port", name := "join", desc := "(LBridgeNet$Port;LBridgeNet$Station;)V" } : Jvm.MethodName)) ∈ bn_all := bn_t2 (i := 91) rfl rfl
theorem k_332 : (Jvm.Cond.selects "BridgeNet$Port" ({ cls := "BridgeNet$Port", name := "join", desc := "(LBridgeNet$Port;LBridgeNet$Station;)V" } : Jvm.MethodName) ({ cls := "BridgeNet$Port", name := "join", desc := "(LBridgeNet$Port;LBridgeNet$Station;)V" } : Jvm.MethodName)) ∈ bn_all := bn_t2 (i := 92) rfl rfl
theorem k_333 : (Jvm.Cond.code ({ cls := "BridgeNet$Port", name := "join", desc := "(LBridgeNet$Port;LBridgeNet$Station;)V" } : Jvm.MethodName) prog_6_method_6_code (3 : Nat) (Option.none : Option Jvm.ClassFile.FieldType)) ∈ bn_all := bn_t2 (i := 93) rfl rfl
theorem k_334 : (Jvm.Cond.methodLink "BridgeNet$Port" (69 : Nat) ({ cls := "BridgeNet$Line", name := "empty", desc := "()V" } : Jvm.MethodName)) ∈ bn_all := bn_t2 (i := 94) rfl rfl
theorem k_335 : (Jvm.Cond.instanceMethod ({ cls := "BridgeNet$Line", name := "empty", desc := "()V" } : Jvm.MethodName)) ∈ bn_all := bn_t2 (i := 95) rfl rfl
theorem k_336 : (Jvm.Cond.selects "BridgeNet$Line" ({ cls := "BridgeNet$Line", name := "empty", desc := "()V" } : Jvm.MethodName) ({ cls := "BridgeNet$Line", name := "empty", desc := "()V" } : Jvm.MethodName)) ∈ bn_all := bn_t2 (i := 96) rfl rfl
theorem k_337 : (Jvm.Cond.code ({ cls := "BridgeNet$Line", name := "empty", desc := "()V" } : Jvm.MethodName) prog_4_method_2_code (1 : Nat) (Option.none : Option Jvm.ClassFile.FieldType)) ∈ bn_all := bn_t2 (i := 97) rfl rfl
theorem k_338 : (Jvm.Cond.methodLink "BridgeNet$Port" (72 : Nat) ({ cls := "BridgeNet$Bridge", name := "forgetBehind", desc := "(I)V" } : Jvm.MethodName)) ∈ bn_all := bn_t2 (i := 98) rfl rfl
theorem k_339 : (Jvm.Cond.instanceMethod ({ cls := "BridgeNet$Bridge", name := "forgetBehind", desc := "(I)V" } : Jvm.MethodName)) ∈ bn_all := bn_t2 (i := 99) rfl rfl
theorem k_340 : (Jvm.Cond.selects "BridgeNet$Bridge" ({ cls := "BridgeNet$Bridge", name := "forgetBehind", desc := "(I)V" } : Jvm.MethodName) ({ cls := "BridgeNet$Bridge", name := "forgetBehind", desc := "(I)V" } : Jvm.MethodName)) ∈ bn_all := bn_t2 (i := 100) rfl rfl
theorem k_341 : (Jvm.Cond.code ({ cls := "BridgeNet$Bridge", name := "forgetBehind", desc := "(I)V" } : Jvm.MethodName) prog_2_method_23_code (3 : Nat) (Option.none : Option Jvm.ClassFile.FieldType)) ∈ bn_all := bn_t2 (i := 101) rfl rfl
theorem k_342 : (Jvm.Cond.methodLink "BridgeNet$Port" (78 : Nat) ({ cls := "BridgeNet$Port", name := "become", desc := "(I)V" } : Jvm.MethodName)) ∈ bn_all := bn_t2 (i := 102) rfl rfl
theorem k_343 : (Jvm.Cond.methodLink "BridgeNetLaw" (45 : Nat) ({ cls := "BridgeNet", name := "cut", desc := "(II)Z" } : Jvm.MethodName)) ∈ bn_all := bn_t2 (i := 103) rfl rfl
theorem k_344 : (Jvm.Cond.instanceMethod ({ cls := "BridgeNet", name := "cut", desc := "(II)Z" } : Jvm.MethodName)) ∈ bn_all := bn_t2 (i := 104) rfl rfl
theorem k_345 : (Jvm.Cond.selects "BridgeNet" ({ cls := "BridgeNet", name := "cut", desc := "(II)Z" } : Jvm.MethodName) ({ cls := "BridgeNet", name := "cut", desc := "(II)Z" } : Jvm.MethodName)) ∈ bn_all := bn_t2 (i := 105) rfl rfl
theorem k_346 : (Jvm.Cond.code ({ cls := "BridgeNet", name := "cut", desc := "(II)Z" } : Jvm.MethodName) prog_1_method_5_code (5 : Nat) (Option.some Jvm.ClassFile.FieldType.boolean)) ∈ bn_all := bn_t2 (i := 106) rfl rfl
theorem k_347 : (Jvm.Cond.methodLink "BridgeNetLaw" (67 : Nat) ({ cls := "BridgeNet", name := "lose", desc := "(II)Z" } : Jvm.MethodName)) ∈ bn_all := bn_t2 (i := 107) rfl rfl
theorem k_348 : (Jvm.Cond.instanceMethod ({ cls := "BridgeNet", name := "lose", desc := "(II)Z" } : Jvm.MethodName)) ∈ bn_all := bn_t2 (i := 108) rfl rfl
theorem k_349 : (Jvm.Cond.selects "BridgeNet" ({ cls := "BridgeNet", name := "lose", desc := "(II)Z" } : Jvm.MethodName) ({ cls := "BridgeNet", name := "lose", desc := "(II)Z" } : Jvm.MethodName)) ∈ bn_all := bn_t2 (i := 109) rfl rfl
theorem k_350 : (Jvm.Cond.code ({ cls := "BridgeNet", name := "lose", desc := "(II)Z" } : Jvm.MethodName) prog_1_method_9_code (4 : Nat) (Option.some Jvm.ClassFile.FieldType.boolean)) ∈ bn_all := bn_t2 (i := 110) rfl rfl
theorem k_351 : (Jvm.Cond.methodLink "BridgeNet" (132 : Nat) ({ cls := "BridgeNet$Line", name := "takeFirst", desc := "()LBridgeNet$Message;" } : Jvm.MethodName)) ∈ bn_all := bn_t2 (i := 111) rfl rfl
theorem k_352 : (Jvm.Cond.instanceMethod ({ cls := "BridgeNet$Line", name := "takeFirst", desc := "()LBridgeNet$Message;" } : Jvm.MethodName)) ∈ bn_all := bn_t2 (i := 112) rfl rfl
theorem k_353 : (Jvm.Cond.selects "BridgeNet$Line" ({ cls := "BridgeNet$Line", name := "takeFirst", desc := "()LBridgeNet$Message;" } : Jvm.MethodName) ({ cls := "BridgeNet$Line", name := "takeFirst", desc := "()LBridgeNet$Message;" } : Jvm.MethodName)) ∈ bn_all := bn_t2 (i := 113) rfl rfl
theorem k_354 : (Jvm.Cond.code ({ cls := "BridgeNet$Line", name := "takeFirst", desc := "()LBridgeNet$Message;" } : Jvm.MethodName) prog_4_method_4_code (2 : Nat) (Option.some (Jvm.ClassFile.FieldType.object "BridgeNet$Message"))) ∈ bn_all := bn_t2 (i := 114) rfl rfl
theorem k_355 : (Jvm.Cond.methodLink "BridgeNetLaw" (71 : Nat) ({ cls := "BridgeNet", name := "tick", desc := "()V" } : Jvm.MethodName)) ∈ bn_all := bn_t2 (i := 115) rfl rfl
theorem k_356 : (Jvm.Cond.instanceMethod ({ cls := "BridgeNet", name := "tick", desc := "()V" } : Jvm.MethodName)) ∈ bn_all := bn_t2 (i := 116) rfl rfl
theorem k_357 : (Jvm.Cond.selects "BridgeNet" ({ cls := "BridgeNet", name := "tick", desc := "()V" } : Jvm.MethodName) ({ cls := "BridgeNet", name := "tick", desc := "()V" } : Jvm.MethodName)) ∈ bn_all := bn_t2 (i := 117) rfl rfl
theorem k_358 : (Jvm.Cond.code ({ cls := "BridgeNet", name := "tick", desc := "()V" } : Jvm.MethodName) prog_1_method_10_code (2 : Nat) (Option.none : Option Jvm.ClassFile.FieldType)) ∈ bn_all := bn_t2 (i := 118) rfl rfl
theorem k_359 : (Jvm.Cond.methodLink "BridgeNet" (157 : Nat) ({ cls := "BridgeNet$Bridge", name := "age", desc := "()V" } : Jvm.MethodName)) ∈ bn_all := bn_t2 (i := 119) rfl rfl
theorem k_360 : (Jvm.Cond.instanceMethod ({ cls := "BridgeNet$Bridge", name := "age", desc := "()V" } : Jvm.MethodName)) ∈ bn_all := bn_t2 (i := 120) rfl rfl
theorem k_361 : (Jvm.Cond.selects "BridgeNet$Bridge" ({ cls := "BridgeNet$Bridge", name := "age", desc := "()V" } : Jvm.MethodName) ({ cls := "BridgeNet$Bridge", name := "age", desc := "()V" } : Jvm.MethodName)) ∈ bn_all := bn_t2 (i := 121) rfl rfl
theorem k_362 : (Jvm.Cond.code ({ cls := "BridgeNet$Bridge", name := "age", desc := "()V" } : Jvm.MethodName) prog_2_method_24_code (5 : Nat) (Option.none : Option Jvm.ClassFile.FieldType)) ∈ bn_all := bn_t2 (i := 122) rfl rfl
theorem k_363 : (Jvm.Cond.methodLink "BridgeNet$Bridge" (206 : Nat) ({ cls := "BridgeNet$Port", name := "ageInfo", desc := "()V" } : Jvm.MethodName)) ∈ bn_all := bn_t2 (i := 123) rfl rfl
theorem k_364 : (Jvm.Cond.instanceMethod ({ cls := "BridgeNet$Port", name := "ageInfo", desc := "()V" } : Jvm.MethodName)) ∈ bn_all := bn_t2 (i := 124) rfl rfl
theorem k_365 : (Jvm.Cond.selects "BridgeNet$Port" ({ cls := "BridgeNet$Port", name := "ageInfo", desc := "()V" } : Jvm.MethodName) ({ cls := "BridgeNet$Port", name := "ageInfo", desc := "()V" } : Jvm.MethodName)) ∈ bn_all := bn_t2 (i := 125) rfl rfl
theorem k_366 : (Jvm.Cond.code ({ cls := "BridgeNet$Port", name := "ageInfo", desc := "()V" } : Jvm.MethodName) prog_6_method_13_code (1 : Nat) (Option.none : Option Jvm.ClassFile.FieldType)) ∈ bn_all := bn_t2 (i := 126) rfl rfl
theorem k_367 : (Jvm.Cond.methodLink "BridgeNet$Bridge" (209 : Nat) ({ cls := "java/lang/Math", name := "max", desc := "(II)I" } : Jvm.MethodName)) ∈ bn_all := bn_t2 (i := 127) rfl rfl
theorem k_368 : (Jvm.Cond.static ({ cls := "java/lang/Math", name := "max", desc := "(II)I" } : Jvm.MethodName)) ∈ bn_all := bn_t2 (i := 128) rfl rfl
theorem k_369 : (Jvm.Cond.code ({ cls := "java/lang/Math", name := "max", desc := "(II)I" } : Jvm.MethodName) prog_15_method_65_code (2 : Nat) (Option.some Jvm.ClassFile.FieldType.int)) ∈ bn_all := bn_t2 (i := 129) rfl rfl
theorem k_370 : (Jvm.Cond.methodLink "BridgeNet$Bridge" (214 : Nat) ({ cls := "BridgeNet$Port", name := "ageWait", desc := "()V" } : Jvm.MethodName)) ∈ bn_all := bn_t2 (i := 130) rfl rfl
theorem k_371 : (Jvm.Cond.instanceMethod ({ cls := "BridgeNet$Port", name := "ageWait", desc := "()V" } : Jvm.MethodName)) ∈ bn_all := bn_t2 (i := 131) rfl rfl
theorem k_372 : (Jvm.Cond.selects "BridgeNet$Port" ({ cls := "BridgeNet$Port", name := "ageWait", desc := "()V" } : Jvm.MethodName) ({ cls := "BridgeNet$Port", name := "ageWait", desc := "()V" } : Jvm.MethodName)) ∈ bn_all := bn_t2 (i := 132) rfl rfl
theorem k_373 : (Jvm.Cond.code ({ cls := "BridgeNet$Port", name := "ageWait", desc := "()V" } : Jvm.MethodName) prog_6_method_14_code (1 : Nat) (Option.none : Option Jvm.ClassFile.FieldType)) ∈ bn_all := bn_t2 (i := 133) rfl rfl
theorem k_374 : (Jvm.Cond.methodLink "BridgeNet$Port" (87 : Nat) ({ cls := "BridgeNet$Port", name := "isLinkedDesignated", desc := "()Z" } : Jvm.MethodName)) ∈ bn_all := bn_t2 (i := 134) rfl rfl
theorem k_375 : (Jvm.Cond.methodLink "BridgeNet$Port" (84 : Nat) ({ cls := "BridgeNet$Port", name := "forward", desc := "()V" } : Jvm.MethodName)) ∈ bn_all := bn_t2 (i := 135) rfl rfl
theorem k_377 : (Jvm.Cond.instanceMethod ({ cls := "BridgeNet$Port", name := "forward", desc := "()V" } : Jvm.MethodName)) ∈ bn_all := bn_t2 (i := 137) rfl rfl
theorem k_378 : (Jvm.Cond.code ({ cls := "BridgeNet$Port", name := "forward", desc := "()V" } : Jvm.MethodName) prog_6_method_9_code (1 : Nat) (Option.none : Option Jvm.ClassFile.FieldType)) ∈ bn_all := bn_t2 (i := 138) rfl rfl
theorem k_379 : (Jvm.Cond.methodLink "BridgeNet$Bridge" (146 : Nat) ({ cls := "BridgeNet$Bridge", name := "compute", desc := "()V" } : Jvm.MethodName)) ∈ bn_all := bn_t2 (i := 139) rfl rfl
theorem k_380 : (Jvm.Cond.methodLink "BridgeNet" (160 : Nat) ({ cls := "BridgeNet$Bridge", name := "tellOnAll", desc := "()V" } : Jvm.MethodName)) ∈ bn_all := bn_t2 (i := 140) rfl rfl
theorem k_381 : (Jvm.Cond.methodLink "BridgeNetLaw" (75 : Nat) ({ cls := "BridgeNet", name := "port", desc := "(II)I" } : Jvm.MethodName)) ∈ bn_all := bn_t2 (i := 141) rfl rfl
theorem k_382 : (Jvm.Cond.instanceMethod ({ cls := "BridgeNet", name := "port", desc := "(II)I" } : Jvm.MethodName)) ∈ bn_all := bn_t2 (i := 142) rfl rfl
theorem k_383 : (Jvm.Cond.selects "BridgeNet" ({ cls := "BridgeNet", name := "port", desc := "(II)I" } : Jvm.MethodName) ({ cls := "BridgeNet", name := "port", desc := "(II)I" } : Jvm.MethodName)) ∈ bn_all := bn_t2 (i := 143) rfl rfl
theorem k_384 : (Jvm.Cond.code ({ cls := "BridgeNet", name := "port", desc := "(II)I" } : Jvm.MethodName) prog_1_method_11_code (4 : Nat) (Option.some Jvm.ClassFile.FieldType.int)) ∈ bn_all := bn_t2 (i := 144) rfl rfl
theorem k_385 : (Jvm.Cond.methodLink "BridgeNet" (163 : Nat) ({ cls := "BridgeNet$Port", name := "summary", desc := "()I" } : Jvm.MethodName)) ∈ bn_all := bn_t2 (i := 145) rfl rfl
theorem k_386 : (Jvm.Cond.instanceMethod ({ cls := "BridgeNet$Port", name := "summary", desc := "()I" } : Jvm.MethodName)) ∈ bn_all := bn_t2 (i := 146) rfl rfl
theorem k_387 : (Jvm.Cond.selects "BridgeNet$Port" ({ cls := "BridgeNet$Port", name := "summary", desc := "()I" } : Jvm.MethodName) ({ cls := "BridgeNet$Port", name := "summary", desc := "()I" } : Jvm.MethodName)) ∈ bn_all := bn_t2 (i := 147) rfl rfl
theorem k_388 : (Jvm.Cond.code ({ cls := "BridgeNet$Port", name := "summary", desc := "()I" } : Jvm.MethodName) prog_6_method_16_code (1 : Nat) (Option.some Jvm.ClassFile.FieldType.int)) ∈ bn_all := bn_t2 (i := 148) rfl rfl
theorem k_389 : (Jvm.Cond.methodLink "BridgeNetLaw" (79 : Nat) ({ cls := "BridgeNet", name := "root", desc := "(I)J" } : Jvm.MethodName)) ∈ bn_all := bn_t2 (i := 149) rfl rfl
theorem k_390 : (Jvm.Cond.instanceMethod ({ cls := "BridgeNet", name := "root", desc := "(I)J" } : Jvm.MethodName)) ∈ bn_all := bn_t2 (i := 150) rfl rfl
theorem k_391 : (Jvm.Cond.selects "BridgeNet" ({ cls := "BridgeNet", name := "root", desc := "(I)J" } : Jvm.MethodName) ({ cls := "BridgeNet", name := "root", desc := "(I)J" } : Jvm.MethodName)) ∈ bn_all := bn_t2 (i := 151) rfl rfl
theorem k_392 : (Jvm.Cond.code ({ cls := "BridgeNet", name := "root", desc := "(I)J" } : Jvm.MethodName) prog_1_method_12_code (2 : Nat) (Option.some Jvm.ClassFile.FieldType.long)) ∈ bn_all := bn_t2 (i := 152) rfl rfl
theorem k_393 : (Jvm.Cond.methodLink "BridgeNet" (167 : Nat) ({ cls := "BridgeNet$Bridge", name := "summary", desc := "()J" } : Jvm.MethodName)) ∈ bn_all := bn_t2 (i := 153) rfl rfl
theorem k_394 : (Jvm.Cond.instanceMethod ({ cls := "BridgeNet$Bridge", name := "summary", desc := "()J" } : Jvm.MethodName)) ∈ bn_all := bn_t2 (i := 154) rfl rfl
theorem k_395 : (Jvm.Cond.selects "BridgeNet$Bridge" ({ cls := "BridgeNet$Bridge", name := "summary", desc := "()J" } : Jvm.MethodName) ({ cls := "BridgeNet$Bridge", name := "summary", desc := "()J" } : Jvm.MethodName)) ∈ bn_all := bn_t2 (i := 155) rfl rfl
theorem k_396 : (Jvm.Cond.code ({ cls := "BridgeNet$Bridge", name := "summary", desc := "()J" } : Jvm.MethodName) prog_2_method_5_code (1 : Nat) (Option.some Jvm.ClassFile.FieldType.long)) ∈ bn_all := bn_t2 (i := 156) rfl rfl
theorem k_397 : (Jvm.Cond.constantLong "BridgeNet" (170 : Nat) (-1 : Int64)) ∈ bn_all := bn_t2 (i := 157) rfl rfl
theorem k_398 : (Jvm.Cond.methodLink "BridgeNetLaw" (84 : Nat) ({ cls := "BridgeNet", name := "info", desc := "(II)J" } : Jvm.MethodName)) ∈ bn_all := bn_t2 (i := 158) rfl rfl
theorem k_399 : (Jvm.Cond.instanceMethod ({ cls := "BridgeNet", name := "info", desc := "(II)J" } : Jvm.MethodName)) ∈ bn_all := bn_t2 (i := 159) rfl rfl
theorem k_400 : (Jvm.Cond.selects "BridgeNet" ({ cls := "BridgeNet", name := "info", desc := "(II)J" } : Jvm.MethodName) ({ cls := "BridgeNet", name := "info", desc := "(II)J" } : Jvm.MethodName)) ∈ bn_all := bn_t2 (i := 160) rfl rfl
theorem k_401 : (Jvm.Cond.code ({ cls := "BridgeNet", name := "info", desc := "(II)J" } : Jvm.MethodName) prog_1_method_13_code (4 : Nat) (Option.some Jvm.ClassFile.FieldType.long)) ∈ bn_all := bn_t2 (i := 161) rfl rfl
theorem k_402 : (Jvm.Cond.methodLink "BridgeNet" (175 : Nat) ({ cls := "BridgeNet$Port", name := "infoSummary", desc := "()J" } : Jvm.MethodName)) ∈ bn_all := bn_t2 (i := 162) rfl rfl
theorem k_403 : (Jvm.Cond.instanceMethod ({ cls := "BridgeNet$Port", name := "infoSummary", desc := "()J" } : Jvm.MethodName)) ∈ bn_all := bn_t2 (i := 163) rfl rfl
theorem k_404 : (Jvm.Cond.selects "BridgeNet$Port" ({ cls := "BridgeNet$Port", name := "infoSummary", desc := "()J" } : Jvm.MethodName) ({ cls := "BridgeNet$Port", name := "infoSummary", desc := "()J" } : Jvm.MethodName)) ∈ bn_all := bn_t2 (i := 164) rfl rfl
theorem k_405 : (Jvm.Cond.code ({ cls := "BridgeNet$Port", name := "infoSummary", desc := "()J" } : Jvm.MethodName) prog_6_method_17_code (1 : Nat) (Option.some Jvm.ClassFile.FieldType.long)) ∈ bn_all := bn_t2 (i := 165) rfl rfl
theorem k_406 : (Jvm.Cond.methodLink "BridgeNet$Port" (110 : Nat) ({ cls := "BridgeNet$Vector", name := "rootOf", desc := "(J)I" } : Jvm.MethodName)) ∈ bn_all := bn_t2 (i := 166) rfl rfl
theorem k_407 : (Jvm.Cond.methodLink "BridgeNet$Port" (116 : Nat) ({ cls := "BridgeNet$Vector", name := "costOf", desc := "(J)I" } : Jvm.MethodName)) ∈ bn_all := bn_t2 (i := 167) rfl rfl
theorem k_408 : (Jvm.Cond.methodLink "BridgeNet$Port" (119 : Nat) ({ cls := "BridgeNet$Vector", name := "bridgeOf", desc := "(J)I" } : Jvm.MethodName)) ∈ bn_all := bn_t2 (i := 168) rfl rfl
theorem k_409 : (Jvm.Cond.methodLink "BridgeNet$Port" (122 : Nat) ({ cls := "BridgeNet$Vector", name := "portOf", desc := "(J)I" } : Jvm.MethodName)) ∈ bn_all := bn_t2 (i := 169) rfl rfl
theorem k_410 : (Jvm.Cond.static ({ cls := "BridgeNet$Vector", name := "portOf", desc := "(J)I" } : Jvm.MethodName)) ∈ bn_all := bn_t2 (i := 170) rfl rfl
theorem k_411 : (Jvm.Cond.code ({ cls := "BridgeNet$Vector", name := "portOf", desc := "(J)I" } : Jvm.MethodName) prog_8_method_7_code (2 : Nat) (Option.some Jvm.ClassFile.FieldType.int)) ∈ bn_all := bn_t2 (i := 171) rfl rfl
theorem k_412 : (Jvm.Cond.methodLink "BridgeNetLaw" (89 : Nat) ({ cls := "BridgeNet", name := "learned", desc := "(III)I" } : Jvm.MethodName)) ∈ bn_all := bn_t2 (i := 172) rfl rfl
theorem k_413 : (Jvm.Cond.instanceMethod ({ cls := "BridgeNet", name := "learned", desc := "(III)I" } : Jvm.MethodName)) ∈ bn_all := bn_t2 (i := 173) rfl rfl
theorem k_414 : (Jvm.Cond.selects "BridgeNet" ({ cls := "BridgeNet", name := "learned", desc := "(III)I" } : Jvm.MethodName) ({ cls := "BridgeNet", name := "learned", desc := "(III)I" } : Jvm.MethodName)) ∈ bn_all := bn_t2 (i := 174) rfl rfl
theorem k_415 : (Jvm.Cond.code ({ cls := "BridgeNet", name := "learned", desc := "(III)I" } : Jvm.MethodName) prog_1_method_14_code (4 : Nat) (Option.some Jvm.ClassFile.FieldType.int)) ∈ bn_all := bn_t2 (i := 175) rfl rfl
theorem k_416 : (Jvm.Cond.methodLink "BridgeNet" (74 : Nat) ({ cls := "BridgeNet", name := "findStation", desc := "(I)LBridgeNet$Station;" } : Jvm.MethodName)) ∈ bn_all := bn_t2 (i := 176) rfl rfl
theorem k_418 : (Jvm.Cond.instanceMethod ({ cls := "BridgeNet", name := "findStation", desc := "(I)LBridgeNet$Station;" } : Jvm.MethodName)) ∈ bn_all := bn_t2 (i := 178) rfl rfl
theorem k_419 : (Jvm.Cond.code ({ cls := "BridgeNet", name := "findStation", desc := "(I)LBridgeNet$Station;" } : Jvm.MethodName) prog_1_method_21_code (2 : Nat) (Option.some (Jvm.ClassFile.FieldType.object "BridgeNet$Station"))) ∈ bn_all := bn_t2 (i := 179) rfl rfl
theorem k_420 : (Jvm.Cond.methodLink "BridgeNet" (85 : Nat) ({ cls := "BridgeNet", name := "isVlan", desc := "(I)Z" } : Jvm.MethodName)) ∈ bn_all := bn_t2 (i := 180) rfl rfl
theorem k_421 : (Jvm.Cond.static ({ cls := "BridgeNet", name := "isVlan", desc := "(I)Z" } : Jvm.MethodName)) ∈ bn_all := bn_t2 (i := 181) rfl rfl
theorem k_422 : (Jvm.Cond.code ({ cls := "BridgeNet", name := "isVlan", desc := "(I)Z" } : Jvm.MethodName) prog_1_method_19_code (1 : Nat) (Option.some Jvm.ClassFile.FieldType.boolean)) ∈ bn_all := bn_t2 (i := 182) rfl rfl
theorem k_423 : (Jvm.Cond.methodLink "BridgeNet" (178 : Nat) ({ cls := "BridgeNet$Bridge", name := "placeOf", desc := "(II)I" } : Jvm.MethodName)) ∈ bn_all := bn_t2 (i := 183) rfl rfl
theorem k_424 : (Jvm.Cond.instanceMethod ({ cls := "BridgeNet$Bridge", name := "placeOf", desc := "(II)I" } : Jvm.MethodName)) ∈ bn_all := bn_t2 (i := 184) rfl rfl
theorem k_425 : (Jvm.Cond.selects "BridgeNet$Bridge" ({ cls := "BridgeNet$Bridge", name := "placeOf", desc := "(II)I" } : Jvm.MethodName) ({ cls := "BridgeNet$Bridge", name := "placeOf", desc := "(II)I" } : Jvm.MethodName)) ∈ bn_all := bn_t2 (i := 185) rfl rfl
theorem k_426 : (Jvm.Cond.code ({ cls := "BridgeNet$Bridge", name := "placeOf", desc := "(II)I" } : Jvm.MethodName) prog_2_method_22_code (4 : Nat) (Option.some Jvm.ClassFile.FieldType.int)) ∈ bn_all := bn_t2 (i := 186) rfl rfl
theorem k_427 : (Jvm.Cond.methodLink "BridgeNet$Bridge" (203 : Nat) ({ cls := "BridgeNet$Bridge", name := "placeIndex", desc := "(II)I" } : Jvm.MethodName)) ∈ bn_all := bn_t2 (i := 187) rfl rfl
theorem k_428 : (Jvm.Cond.static ({ cls := "BridgeNet$Bridge", name := "placeIndex", desc := "(II)I" } : Jvm.MethodName)) ∈ bn_all := bn_t2 (i := 188) rfl rfl
theorem k_429 : (Jvm.Cond.code ({ cls := "BridgeNet$Bridge", name := "placeIndex", desc := "(II)I" } : Jvm.MethodName) prog_2_method_20_code (2 : Nat) (Option.some Jvm.ClassFile.FieldType.int)) ∈ bn_all := bn_t2 (i := 189) rfl rfl
theorem k_430 : (Jvm.Cond.methodLink "BridgeNetLaw" (93 : Nat) ({ cls := "BridgeNet", name := "inbox", desc := "(II)J" } : Jvm.MethodName)) ∈ bn_all := bn_t2 (i := 190) rfl rfl
theorem k_431 : (Jvm.Cond.instanceMethod ({ cls := "BridgeNet", name := "inbox", desc := "(II)J" } : Jvm.MethodName)) ∈ bn_all := bn_t2 (i := 191) rfl rfl
theorem k_432 : (Jvm.Cond.selects "BridgeNet" ({ cls := "BridgeNet", name := "inbox", desc := "(II)J" } : Jvm.MethodName) ({ cls := "BridgeNet", name := "inbox", desc := "(II)J" } : Jvm.MethodName)) ∈ bn_all := bn_t2 (i := 192) rfl rfl
theorem k_433 : (Jvm.Cond.code ({ cls := "BridgeNet", name := "inbox", desc := "(II)J" } : Jvm.MethodName) prog_1_method_15_code (4 : Nat) (Option.some Jvm.ClassFile.FieldType.long)) ∈ bn_all := bn_t2 (i := 193) rfl rfl
theorem k_434 : (Jvm.Cond.methodLink "BridgeNet" (185 : Nat) ({ cls := "BridgeNet$Station", name := "kept", desc := "(I)J" } : Jvm.MethodName)) ∈ bn_all := bn_t2 (i := 194) rfl rfl
theorem k_435 : (Jvm.Cond.instanceMethod ({ cls := "BridgeNet$Station", name := "kept", desc := "(I)J" } : Jvm.MethodName)) ∈ bn_all := bn_t2 (i := 195) rfl rfl
theorem k_436 : (Jvm.Cond.selects "BridgeNet$Station" ({ cls := "BridgeNet$Station", name := "kept", desc := "(I)J" } : Jvm.MethodName) ({ cls := "BridgeNet$Station", name := "kept", desc := "(I)J" } : Jvm.MethodName)) ∈ bn_all := bn_t2 (i := 196) rfl rfl
theorem k_437 : (Jvm.Cond.code ({ cls := "BridgeNet$Station", name := "kept", desc := "(I)J" } : Jvm.MethodName) prog_7_method_5_code (2 : Nat) (Option.some Jvm.ClassFile.FieldType.long)) ∈ bn_all := bn_t2 (i := 197) rfl rfl
theorem k_438 : (Jvm.Cond.constantLong "BridgeNet$Station" (47 : Nat) (-1 : Int64)) ∈ bn_all := bn_t2 (i := 198) rfl rfl
theorem k_439 : (Jvm.Cond.methodLink "BridgeNetLaw" (97 : Nat) ({ cls := "BridgeNet", name := "line", desc := "(II)I" } : Jvm.MethodName)) ∈ bn_all := bn_t2 (i := 199) rfl rfl
theorem k_440 : (Jvm.Cond.instanceMethod ({ cls := "BridgeNet", name := "line", desc := "(II)I" } : Jvm.MethodName)) ∈ bn_all := bn_t2 (i := 200) rfl rfl
theorem k_441 : (Jvm.Cond.selects "BridgeNet" ({ cls := "BridgeNet", name := "line", desc := "(II)I" } : Jvm.MethodName) ({ cls := "BridgeNet", name := "line", desc := "(II)I" } : Jvm.MethodName)) ∈ bn_all := bn_t2 (i := 201) rfl rfl
theorem k_442 : (Jvm.Cond.code ({ cls := "BridgeNet", name := "line", desc := "(II)I" } : Jvm.MethodName) prog_1_method_16_code (4 : Nat) (Option.some Jvm.ClassFile.FieldType.int)) ∈ bn_all := bn_t2 (i := 202) rfl rfl
theorem k_443 : (Jvm.Cond.methodLink "BridgeNetLaw" (101 : Nat) ({ cls := "BridgeNet", name := "message", desc := "(III)J" } : Jvm.MethodName)) ∈ bn_all := bn_t2 (i := 203) rfl rfl
theorem k_444 : (Jvm.Cond.instanceMethod ({ cls := "BridgeNet", name := "message", desc := "(III)J" } : Jvm.MethodName)) ∈ bn_all := bn_t2 (i := 204) rfl rfl
theorem k_445 : (Jvm.Cond.selects "BridgeNet" ({ cls := "BridgeNet", name := "message", desc := "(III)J" } : Jvm.MethodName) ({ cls := "BridgeNet", name := "message", desc := "(III)J" } : Jvm.MethodName)) ∈ bn_all := bn_t2 (i := 205) rfl rfl
theorem k_446 : (Jvm.Cond.code ({ cls := "BridgeNet", name := "message", desc := "(III)J" } : Jvm.MethodName) prog_1_method_17_code (6 : Nat) (Option.some Jvm.ClassFile.FieldType.long)) ∈ bn_all := bn_t2 (i := 206) rfl rfl
theorem k_447 : (Jvm.Cond.methodLink "BridgeNet" (190 : Nat) ({ cls := "BridgeNet$Line", name := "at", desc := "(I)LBridgeNet$Message;" } : Jvm.MethodName)) ∈ bn_all := bn_t2 (i := 207) rfl rfl
theorem k_448 : (Jvm.Cond.instanceMethod ({ cls := "BridgeNet$Line", name := "at", desc := "(I)LBridgeNet$Message;" } : Jvm.MethodName)) ∈ bn_all := bn_t2 (i := 208) rfl rfl
theorem k_449 : (Jvm.Cond.selects "BridgeNet$Line" ({ cls := "BridgeNet$Line", name := "at", desc := "(I)LBridgeNet$Message;" } : Jvm.MethodName) ({ cls := "BridgeNet$Line", name := "at", desc := "(I)LBridgeNet$Message;" } : Jvm.MethodName)) ∈ bn_all := bn_t2 (i := 209) rfl rfl
theorem k_450 : (Jvm.Cond.code ({ cls := "BridgeNet$Line", name := "at", desc := "(I)LBridgeNet$Message;" } : Jvm.MethodName) prog_4_method_3_code (2 : Nat) (Option.some (Jvm.ClassFile.FieldType.object "BridgeNet$Message"))) ∈ bn_all := bn_t2 (i := 210) rfl rfl
theorem k_451 : (Jvm.Cond.methodLink "BridgeNet" (194 : Nat) ({ cls := "BridgeNet$Message", name := "summary", desc := "()J" } : Jvm.MethodName)) ∈ bn_all := bn_t2 (i := 211) rfl rfl
theorem k_452 : (Jvm.Cond.instanceMethod ({ cls := "BridgeNet$Message", name := "summary", desc := "()J" } : Jvm.MethodName)) ∈ bn_all := bn_t2 (i := 212) rfl rfl
theorem k_453 : (Jvm.Cond.selects "BridgeNet$Message" ({ cls := "BridgeNet$Message", name := "summary", desc := "()J" } : Jvm.MethodName) ({ cls := "BridgeNet$Message", name := "summary", desc := "()J" } : Jvm.MethodName)) ∈ bn_all := bn_t2 (i := 213) rfl rfl
theorem k_454 : (Jvm.Cond.code ({ cls := "BridgeNet$Message", name := "summary", desc := "()J" } : Jvm.MethodName) prog_5_method_2_code (1 : Nat) (Option.some Jvm.ClassFile.FieldType.long)) ∈ bn_all := bn_t2 (i := 214) rfl rfl
theorem k_455 : (Jvm.Cond.constantLong "BridgeNet$Message" (33 : Nat) (16 : Int64)) ∈ bn_all := bn_t2 (i := 215) rfl rfl
theorem k_456 : (Jvm.Cond.constantLong "BridgeNet$Message" (40 : Nat) (256 : Int64)) ∈ bn_all := bn_t2 (i := 216) rfl rfl
theorem k_457 : (Jvm.Cond.methodLink "BridgeNetLaw" (49 : Nat) ({ cls := "BridgeNetLaw", name := "attach", desc := "(LBridgeNet;IIII)I" } : Jvm.MethodName)) ∈ bn_all := bn_t2 (i := 217) rfl rfl
theorem k_458 : (Jvm.Cond.static ({ cls := "BridgeNetLaw", name := "attach", desc := "(LBridgeNet;IIII)I" } : Jvm.MethodName)) ∈ bn_all := bn_t2 (i := 218) rfl rfl
theorem k_459 : (Jvm.Cond.codeWith ({ cls := "BridgeNetLaw", name := "attach", desc := "(LBridgeNet;IIII)I" } : Jvm.MethodName) method_3_code (6 : Nat) (Option.some Jvm.ClassFile.FieldType.int) [((0 : Nat), (9 : Nat), (12 : Nat), (13 : Nat)), ((0 : Nat), (9 : Nat), (16 : Nat), (15 : Nat)), ((0 : Nat), (9 : Nat), (20 : Nat), (17 : Nat))]) ∈ bn_all := bn_t2 (i := 219) rfl rfl
theorem k_460 : (Jvm.Cond.classLink "BridgeNetLaw" (13 : Nat) "java/lang/IndexOutOfBoundsException") ∈ bn_all := bn_t2 (i := 220) rfl rfl
theorem k_461 : (Jvm.Cond.classLink "BridgeNetLaw" (15 : Nat) "java/lang/IllegalArgumentException") ∈ bn_all := bn_t2 (i := 221) rfl rfl
theorem k_462 : (Jvm.Cond.classLink "BridgeNetLaw" (17 : Nat) "java/lang/IllegalStateException") ∈ bn_all := bn_t2 (i := 222) rfl rfl
theorem k_463 : (Jvm.Cond.methodLink "BridgeNetLaw" (7 : Nat) ({ cls := "BridgeNet", name := "attach", desc := "(IIII)V" } : Jvm.MethodName)) ∈ bn_all := bn_t2 (i := 223) rfl rfl
theorem k_464 : (Jvm.Cond.instanceMethod ({ cls := "BridgeNet", name := "attach", desc := "(IIII)V" } : Jvm.MethodName)) ∈ bn_all := bn_t2 (i := 224) rfl rfl
theorem k_465 : (Jvm.Cond.selects "BridgeNet" ({ cls := "BridgeNet", name := "attach", desc := "(IIII)V" } : Jvm.MethodName) ({ cls := "BridgeNet", name := "attach", desc := "(IIII)V" } : Jvm.MethodName)) ∈ bn_all := bn_t2 (i := 225) rfl rfl
theorem k_466 : (Jvm.Cond.code ({ cls := "BridgeNet", name := "attach", desc := "(IIII)V" } : Jvm.MethodName) prog_1_method_6_code (7 : Nat) (Option.none : Option Jvm.ClassFile.FieldType)) ∈ bn_all := bn_t2 (i := 226) rfl rfl
theorem k_467 : (Jvm.Cond.classLink "BridgeNet" (78 : Nat) "java/lang/IndexOutOfBoundsException") ∈ bn_all := bn_t2 (i := 227) rfl rfl
theorem k_468 : (Jvm.Cond.instantiable "java/lang/IndexOutOfBoundsException" (6 : Nat)) ∈ bn_all := bn_t2 (i := 228) rfl rfl
theorem k_476 : (Jvm.Cond.selects "java/lang/IndexOutOfBoundsException" ({ cls := "java/lang/Throwable", name := "fillInStackTrace", desc := "(I)Ljava/lang/Throwable;" } : Jvm.MethodName) ({ cls := "java/lang/Throwable", name := "fillInStackTrace", desc := "(I)Ljava/lang/Throwable;" } : Jvm.MethodName)) ∈ bn_all := bn_t2 (i := 236) rfl rfl
theorem k_477 : (Jvm.Cond.selects "java/lang/IndexOutOfBoundsException" ({ cls := "java/lang/Throwable", name := "fillInStackTrace", desc := "()Ljava/lang/Throwable;" } : Jvm.MethodName) ({ cls := "java/lang/Throwable", name := "fillInStackTrace", desc := "()Ljava/lang/Throwable;" } : Jvm.MethodName)) ∈ bn_all := bn_t2 (i := 237) rfl rfl
theorem k_478 : (Jvm.Cond.lays "java/lang/IndexOutOfBoundsException" "java/lang/Throwable" "cause" "Ljava/lang/Throwable;") ∈ bn_all := bn_t2 (i := 238) rfl rfl
theorem k_479 : (Jvm.Cond.lays "java/lang/Throwable" "java/lang/Throwable" "cause" "Ljava/lang/Throwable;") ∈ bn_all := bn_t2 (i := 239) rfl rfl
theorem k_480 : (Jvm.Cond.lays "java/lang/IndexOutOfBoundsException" "java/lang/Throwable" "stackTrace" "[Ljava/lang/StackTraceElement;") ∈ bn_all := bn_t3 (i := 0) rfl rfl
theorem k_481 : (Jvm.Cond.lays "java/lang/Throwable" "java/lang/Throwable" "stackTrace" "[Ljava/lang/StackTraceElement;") ∈ bn_all := bn_t3 (i := 1) rfl rfl
theorem k_482 : (Jvm.Cond.lays "java/lang/IndexOutOfBoundsException" "java/lang/Throwable" "suppressedExceptions" "Ljava/util/List;") ∈ bn_all := bn_t3 (i := 2) rfl rfl
theorem k_483 : (Jvm.Cond.lays "java/lang/Throwable" "java/lang/Throwable" "suppressedExceptions" "Ljava/util/List;") ∈ bn_all := bn_t3 (i := 3) rfl rfl
theorem k_484 : (Jvm.Cond.lays "java/lang/IndexOutOfBoundsException" "java/lang/Throwable" "detailMessage" "Ljava/lang/String;") ∈ bn_all := bn_t3 (i := 4) rfl rfl
theorem k_485 : (Jvm.Cond.lays "java/lang/Throwable" "java/lang/Throwable" "detailMessage" "Ljava/lang/String;") ∈ bn_all := bn_t3 (i := 5) rfl rfl
theorem k_486 : (Jvm.Cond.lays "java/lang/IndexOutOfBoundsException" "java/lang/Throwable" "backtrace" "Ljava/lang/Object;") ∈ bn_all := bn_t3 (i := 6) rfl rfl
theorem k_487 : (Jvm.Cond.lays "java/lang/Throwable" "java/lang/Throwable" "backtrace" "Ljava/lang/Object;") ∈ bn_all := bn_t3 (i := 7) rfl rfl
theorem k_488 : (Jvm.Cond.fieldLink "java/lang/Throwable" (198 : Nat) "java/lang/Throwable" "backtrace" "Ljava/lang/Object;") ∈ bn_all := bn_t3 (i := 8) rfl rfl
theorem k_490 : (Jvm.Cond.instanceMethod ({ cls := "java/lang/Throwable", name := "<init>", desc := "()V" } : Jvm.MethodName)) ∈ bn_all := bn_t3 (i := 10) rfl rfl
theorem k_491 : (Jvm.Cond.code ({ cls := "java/lang/Throwable", name := "<init>", desc := "()V" } : Jvm.MethodName) prog_18_method_1_code (1 : Nat) (Option.none : Option Jvm.ClassFile.FieldType)) ∈ bn_all := bn_t3 (i := 11) rfl rfl
theorem k_492 : (Jvm.Cond.methodLink "java/lang/Throwable" (1 : Nat) ({ cls := "java/lang/Object", name := "<init>", desc := "()V" } : Jvm.MethodName)) ∈ bn_all := bn_t3 (i := 12) rfl rfl
theorem k_493 : (Jvm.Cond.fieldLink "java/lang/Throwable" (13 : Nat) "java/lang/Throwable" "UNASSIGNED_STACK" "[Ljava/lang/StackTraceElement;") ∈ bn_all := bn_t3 (i := 13) rfl rfl
theorem k_495 : (Jvm.Cond.fieldLink "java/lang/Throwable" (20 : Nat) "java/lang/Throwable" "SUPPRESSED_SENTINEL" "Ljava/util/List;") ∈ bn_all := bn_t3 (i := 15) rfl rfl
theorem k_497 : (Jvm.Cond.methodLink "java/lang/Throwable" (27 : Nat) ({ cls := "java/lang/Throwable", name := "fillInStackTrace", desc := "()Ljava/lang/Throwable;" } : Jvm.MethodName)) ∈ bn_all := bn_t3 (i := 17) rfl rfl
theorem k_498 : (Jvm.Cond.instanceMethod ({ cls := "java/lang/Throwable", name := "fillInStackTrace", desc := "()Ljava/lang/Throwable;" } : Jvm.MethodName)) ∈ bn_all := bn_t3 (i := 18) rfl rfl
theorem k_500 : (Jvm.Cond.selects "java/lang/IllegalArgumentException" ({ cls := "java/lang/Throwable", name := "fillInStackTrace", desc := "()Ljava/lang/Throwable;" } : Jvm.MethodName) ({ cls := "java/lang/Throwable", name := "fillInStackTrace", desc := "()Ljava/lang/Throwable;" } : Jvm.MethodName)) ∈ bn_all := bn_t3 (i := 20) rfl rfl
theorem k_501 : (Jvm.Cond.selects "java/lang/IllegalStateException" ({ cls := "java/lang/Throwable", name := "fillInStackTrace", desc := "()Ljava/lang/Throwable;" } : Jvm.MethodName) ({ cls := "java/lang/Throwable", name := "fillInStackTrace", desc := "()Ljava/lang/Throwable;" } : Jvm.MethodName)) ∈ bn_all := bn_t3 (i := 21) rfl rfl
theorem k_503 : (Jvm.Cond.methodLink "java/lang/Throwable" (202 : Nat) ({ cls := "java/lang/Throwable", name := "fillInStackTrace", desc := "(I)Ljava/lang/Throwable;" } : Jvm.MethodName)) ∈ bn_all := bn_t3 (i := 23) rfl rfl
theorem k_505 : (Jvm.Cond.instanceMethod ({ cls := "java/lang/Throwable", name := "fillInStackTrace", desc := "(I)Ljava/lang/Throwable;" } : Jvm.MethodName)) ∈ bn_all := bn_t3 (i := 25) rfl rfl
theorem k_506 : (Jvm.Cond.instantiable "java/lang/Throwable" (6 : Nat)) ∈ bn_all := bn_t3 (i := 26) rfl rfl
theorem k_509 : (Jvm.Cond.methodLink "BridgeNet" (82 : Nat) ({ cls := "java/lang/IndexOutOfBoundsException", name := "<init>", desc := "(Ljava/lang/String;)V" } : Jvm.MethodName)) ∈ bn_all := bn_t3 (i := 29) rfl rfl
theorem k_510 : (Jvm.Cond.instanceMethod ({ cls := "java/lang/IndexOutOfBoundsException", name := "<init>", desc := "(Ljava/lang/String;)V" } : Jvm.MethodName)) ∈ bn_all := bn_t3 (i := 30) rfl rfl
theorem k_511 : (Jvm.Cond.code ({ cls := "java/lang/IndexOutOfBoundsException", name := "<init>", desc := "(Ljava/lang/String;)V" } : Jvm.MethodName) prog_14_method_2_code (2 : Nat) (Option.none : Option Jvm.ClassFile.FieldType)) ∈ bn_all := bn_t3 (i := 31) rfl rfl
theorem k_512 : (Jvm.Cond.methodLink "java/lang/IndexOutOfBoundsException" (7 : Nat) ({ cls := "java/lang/RuntimeException", name := "<init>", desc := "(Ljava/lang/String;)V" } : Jvm.MethodName)) ∈ bn_all := bn_t3 (i := 32) rfl rfl
theorem k_513 : (Jvm.Cond.instanceMethod ({ cls := "java/lang/RuntimeException", name := "<init>", desc := "(Ljava/lang/String;)V" } : Jvm.MethodName)) ∈ bn_all := bn_t3 (i := 33) rfl rfl
theorem k_514 : (Jvm.Cond.code ({ cls := "java/lang/RuntimeException", name := "<init>", desc := "(Ljava/lang/String;)V" } : Jvm.MethodName) prog_16_method_2_code (2 : Nat) (Option.none : Option Jvm.ClassFile.FieldType)) ∈ bn_all := bn_t3 (i := 34) rfl rfl
theorem k_515 : (Jvm.Cond.methodLink "java/lang/RuntimeException" (7 : Nat) ({ cls := "java/lang/Exception", name := "<init>", desc := "(Ljava/lang/String;)V" } : Jvm.MethodName)) ∈ bn_all := bn_t3 (i := 35) rfl rfl
theorem k_516 : (Jvm.Cond.instanceMethod ({ cls := "java/lang/Exception", name := "<init>", desc := "(Ljava/lang/String;)V" } : Jvm.MethodName)) ∈ bn_all := bn_t3 (i := 36) rfl rfl
theorem k_517 : (Jvm.Cond.code ({ cls := "java/lang/Exception", name := "<init>", desc := "(Ljava/lang/String;)V" } : Jvm.MethodName) prog_11_method_2_code (2 : Nat) (Option.none : Option Jvm.ClassFile.FieldType)) ∈ bn_all := bn_t3 (i := 37) rfl rfl
theorem k_518 : (Jvm.Cond.methodLink "java/lang/Exception" (7 : Nat) ({ cls := "java/lang/Throwable", name := "<init>", desc := "(Ljava/lang/String;)V" } : Jvm.MethodName)) ∈ bn_all := bn_t3 (i := 38) rfl rfl
theorem k_519 : (Jvm.Cond.instanceMethod ({ cls := "java/lang/Throwable", name := "<init>", desc := "(Ljava/lang/String;)V" } : Jvm.MethodName)) ∈ bn_all := bn_t3 (i := 39) rfl rfl
theorem k_520 : (Jvm.Cond.code ({ cls := "java/lang/Throwable", name := "<init>", desc := "(Ljava/lang/String;)V" } : Jvm.MethodName) prog_18_method_2_code (2 : Nat) (Option.none : Option Jvm.ClassFile.FieldType)) ∈ bn_all := bn_t3 (i := 40) rfl rfl
theorem k_521 : (Jvm.Cond.fieldLink "java/lang/Throwable" (198 : Nat) "java/lang/Throwable" "backtrace" "Ljava/lang/Object;") ∈ bn_all := bn_t3 (i := 41) rfl rfl
theorem k_522 : (Jvm.Cond.fieldLink "java/lang/Throwable" (31 : Nat) "java/lang/Throwable" "detailMessage" "Ljava/lang/String;") ∈ bn_all := bn_t3 (i := 42) rfl rfl
theorem k_523 : (Jvm.Cond.fieldLink "java/lang/Throwable" (7 : Nat) "java/lang/Throwable" "cause" "Ljava/lang/Throwable;") ∈ bn_all := bn_t3 (i := 43) rfl rfl
theorem k_524 : (Jvm.Cond.fieldLink "java/lang/Throwable" (17 : Nat) "java/lang/Throwable" "stackTrace" "[Ljava/lang/StackTraceElement;") ∈ bn_all := bn_t3 (i := 44) rfl rfl
theorem k_525 : (Jvm.Cond.fieldLink "java/lang/Throwable" (24 : Nat) "java/lang/Throwable" "suppressedExceptions" "Ljava/util/List;") ∈ bn_all := bn_t3 (i := 45) rfl rfl
theorem k_530 : (Jvm.Cond.lays "java/lang/IndexOutOfBoundsException" "java/lang/Throwable" "depth" "I") ∈ bn_all := bn_t3 (i := 50) rfl rfl
theorem k_534 : (Jvm.Cond.arrayClass Jvm.ClassFile.FieldType.byte) ∈ bn_all := bn_t3 (i := 54) rfl rfl
theorem k_535 : (Jvm.Cond.classLink "BridgeNet" (88 : Nat) "java/lang/IllegalArgumentException") ∈ bn_all := bn_t3 (i := 55) rfl rfl
theorem k_536 : (Jvm.Cond.instantiable "java/lang/IllegalArgumentException" (6 : Nat)) ∈ bn_all := bn_t3 (i := 56) rfl rfl
theorem k_538 : (Jvm.Cond.selects "java/lang/IllegalArgumentException" ({ cls := "java/lang/Throwable", name := "fillInStackTrace", desc := "(I)Ljava/lang/Throwable;" } : Jvm.MethodName) ({ cls := "java/lang/Throwable", name := "fillInStackTrace", desc := "(I)Ljava/lang/Throwable;" } : Jvm.MethodName)) ∈ bn_all := bn_t3 (i := 58) rfl rfl
theorem k_539 : (Jvm.Cond.lays "java/lang/IllegalArgumentException" "java/lang/Throwable" "cause" "Ljava/lang/Throwable;") ∈ bn_all := bn_t3 (i := 59) rfl rfl
theorem k_540 : (Jvm.Cond.lays "java/lang/IllegalArgumentException" "java/lang/Throwable" "stackTrace" "[Ljava/lang/StackTraceElement;") ∈ bn_all := bn_t3 (i := 60) rfl rfl
theorem k_541 : (Jvm.Cond.lays "java/lang/IllegalArgumentException" "java/lang/Throwable" "suppressedExceptions" "Ljava/util/List;") ∈ bn_all := bn_t3 (i := 61) rfl rfl
theorem k_542 : (Jvm.Cond.lays "java/lang/IllegalArgumentException" "java/lang/Throwable" "detailMessage" "Ljava/lang/String;") ∈ bn_all := bn_t3 (i := 62) rfl rfl
theorem k_543 : (Jvm.Cond.lays "java/lang/IllegalArgumentException" "java/lang/Throwable" "backtrace" "Ljava/lang/Object;") ∈ bn_all := bn_t3 (i := 63) rfl rfl
theorem k_545 : (Jvm.Cond.methodLink "BridgeNet" (92 : Nat) ({ cls := "java/lang/IllegalArgumentException", name := "<init>", desc := "(Ljava/lang/String;)V" } : Jvm.MethodName)) ∈ bn_all := bn_t3 (i := 65) rfl rfl
theorem k_546 : (Jvm.Cond.instanceMethod ({ cls := "java/lang/IllegalArgumentException", name := "<init>", desc := "(Ljava/lang/String;)V" } : Jvm.MethodName)) ∈ bn_all := bn_t3 (i := 66) rfl rfl
theorem k_547 : (Jvm.Cond.code ({ cls := "java/lang/IllegalArgumentException", name := "<init>", desc := "(Ljava/lang/String;)V" } : Jvm.MethodName) prog_12_method_2_code (2 : Nat) (Option.none : Option Jvm.ClassFile.FieldType)) ∈ bn_all := bn_t3 (i := 67) rfl rfl
theorem k_548 : (Jvm.Cond.methodLink "java/lang/IllegalArgumentException" (7 : Nat) ({ cls := "java/lang/RuntimeException", name := "<init>", desc := "(Ljava/lang/String;)V" } : Jvm.MethodName)) ∈ bn_all := bn_t3 (i := 68) rfl rfl
theorem k_549 : (Jvm.Cond.lays "java/lang/IllegalArgumentException" "java/lang/Throwable" "depth" "I") ∈ bn_all := bn_t3 (i := 69) rfl rfl
theorem k_551 : (Jvm.Cond.classLink "BridgeNet" (93 : Nat) "java/lang/IllegalStateException") ∈ bn_all := bn_t3 (i := 71) rfl rfl
theorem k_552 : (Jvm.Cond.instantiable "java/lang/IllegalStateException" (6 : Nat)) ∈ bn_all := bn_t3 (i := 72) rfl rfl
theorem k_554 : (Jvm.Cond.selects "java/lang/IllegalStateException" ({ cls := "java/lang/Throwable", name := "fillInStackTrace", desc := "(I)Ljava/lang/Throwable;" } : Jvm.MethodName) ({ cls := "java/lang/Throwable", name := "fillInStackTrace", desc := "(I)Ljava/lang/Throwable;" } : Jvm.MethodName)) ∈ bn_all := bn_t3 (i := 74) rfl rfl
theorem k_555 : (Jvm.Cond.lays "java/lang/IllegalStateException" "java/lang/Throwable" "cause" "Ljava/lang/Throwable;") ∈ bn_all := bn_t3 (i := 75) rfl rfl
theorem k_556 : (Jvm.Cond.lays "java/lang/IllegalStateException" "java/lang/Throwable" "stackTrace" "[Ljava/lang/StackTraceElement;") ∈ bn_all := bn_t3 (i := 76) rfl rfl
theorem k_557 : (Jvm.Cond.lays "java/lang/IllegalStateException" "java/lang/Throwable" "suppressedExceptions" "Ljava/util/List;") ∈ bn_all := bn_t3 (i := 77) rfl rfl
theorem k_558 : (Jvm.Cond.lays "java/lang/IllegalStateException" "java/lang/Throwable" "detailMessage" "Ljava/lang/String;") ∈ bn_all := bn_t3 (i := 78) rfl rfl
theorem k_559 : (Jvm.Cond.lays "java/lang/IllegalStateException" "java/lang/Throwable" "backtrace" "Ljava/lang/Object;") ∈ bn_all := bn_t3 (i := 79) rfl rfl
theorem k_561 : (Jvm.Cond.methodLink "BridgeNet" (97 : Nat) ({ cls := "java/lang/IllegalStateException", name := "<init>", desc := "(Ljava/lang/String;)V" } : Jvm.MethodName)) ∈ bn_all := bn_t3 (i := 81) rfl rfl
theorem k_562 : (Jvm.Cond.instanceMethod ({ cls := "java/lang/IllegalStateException", name := "<init>", desc := "(Ljava/lang/String;)V" } : Jvm.MethodName)) ∈ bn_all := bn_t3 (i := 82) rfl rfl
theorem k_563 : (Jvm.Cond.code ({ cls := "java/lang/IllegalStateException", name := "<init>", desc := "(Ljava/lang/String;)V" } : Jvm.MethodName) prog_13_method_2_code (2 : Nat) (Option.none : Option Jvm.ClassFile.FieldType)) ∈ bn_all := bn_t3 (i := 83) rfl rfl
theorem k_564 : (Jvm.Cond.methodLink "java/lang/IllegalStateException" (7 : Nat) ({ cls := "java/lang/RuntimeException", name := "<init>", desc := "(Ljava/lang/String;)V" } : Jvm.MethodName)) ∈ bn_all := bn_t3 (i := 84) rfl rfl
theorem k_565 : (Jvm.Cond.lays "java/lang/IllegalStateException" "java/lang/Throwable" "depth" "I") ∈ bn_all := bn_t3 (i := 85) rfl rfl
theorem k_567 : (Jvm.Cond.methodLink "BridgeNet" (98 : Nat) ({ cls := "BridgeNet$Station", name := "leave", desc := "()V" } : Jvm.MethodName)) ∈ bn_all := bn_t3 (i := 87) rfl rfl
theorem k_568 : (Jvm.Cond.instanceMethod ({ cls := "BridgeNet$Station", name := "leave", desc := "()V" } : Jvm.MethodName)) ∈ bn_all := bn_t3 (i := 88) rfl rfl
theorem k_569 : (Jvm.Cond.selects "BridgeNet$Station" ({ cls := "BridgeNet$Station", name := "leave", desc := "()V" } : Jvm.MethodName) ({ cls := "BridgeNet$Station", name := "leave", desc := "()V" } : Jvm.MethodName)) ∈ bn_all := bn_t3 (i := 89) rfl rfl
theorem k_570 : (Jvm.Cond.code ({ cls := "BridgeNet$Station", name := "leave", desc := "()V" } : Jvm.MethodName) prog_7_method_2_code (1 : Nat) (Option.none : Option Jvm.ClassFile.FieldType)) ∈ bn_all := bn_t3 (i := 90) rfl rfl
theorem k_571 : (Jvm.Cond.methodLink "BridgeNet$Station" (26 : Nat) ({ cls := "BridgeNet$Port", name := "join", desc := "(LBridgeNet$Port;LBridgeNet$Station;)V" } : Jvm.MethodName)) ∈ bn_all := bn_t3 (i := 91) rfl rfl
theorem k_572 : (Jvm.Cond.methodLink "BridgeNet$Station" (36 : Nat) ({ cls := "BridgeNet$Bridge", name := "compute", desc := "()V" } : Jvm.MethodName)) ∈ bn_all := bn_t3 (i := 92) rfl rfl
theorem k_573 : (Jvm.Cond.methodLink "BridgeNet" (101 : Nat) ({ cls := "BridgeNet$Station", name := "settle", desc := "(LBridgeNet$Port;I)V" } : Jvm.MethodName)) ∈ bn_all := bn_t3 (i := 93) rfl rfl
theorem k_574 : (Jvm.Cond.instanceMethod ({ cls := "BridgeNet$Station", name := "settle", desc := "(LBridgeNet$Port;I)V" } : Jvm.MethodName)) ∈ bn_all := bn_t3 (i := 94) rfl rfl
theorem k_575 : (Jvm.Cond.selects "BridgeNet$Station" ({ cls := "BridgeNet$Station", name := "settle", desc := "(LBridgeNet$Port;I)V" } : Jvm.MethodName) ({ cls := "BridgeNet$Station", name := "settle", desc := "(LBridgeNet$Port;I)V" } : Jvm.MethodName)) ∈ bn_all := bn_t3 (i := 95) rfl rfl
theorem k_576 : (Jvm.Cond.code ({ cls := "BridgeNet$Station", name := "settle", desc := "(LBridgeNet$Port;I)V" } : Jvm.MethodName) prog_7_method_3_code (3 : Nat) (Option.none : Option Jvm.ClassFile.FieldType)) ∈ bn_all := bn_t3 (i := 96) rfl rfl
theorem k_577 : (Jvm.Cond.methodLink "BridgeNetLaw" (59 : Nat) ({ cls := "BridgeNetLaw", name := "send", desc := "(LBridgeNet;III[J)I" } : Jvm.MethodName)) ∈ bn_all := bn_t3 (i := 97) rfl rfl
theorem k_578 : (Jvm.Cond.static ({ cls := "BridgeNetLaw", name := "send", desc := "(LBridgeNet;III[J)I" } : Jvm.MethodName)) ∈ bn_all := bn_t3 (i := 98) rfl rfl
theorem k_579 : (Jvm.Cond.codeWith ({ cls := "BridgeNetLaw", name := "send", desc := "(LBridgeNet;III[J)I" } : Jvm.MethodName) method_4_code (6 : Nat) (Option.some Jvm.ClassFile.FieldType.int) [((0 : Nat), (12 : Nat), (15 : Nat), (13 : Nat)), ((0 : Nat), (12 : Nat), (19 : Nat), (17 : Nat)), ((0 : Nat), (12 : Nat), (23 : Nat), (15 : Nat))]) ∈ bn_all := bn_t3 (i := 99) rfl rfl
theorem k_580 : (Jvm.Cond.methodLink "BridgeNetLaw" (19 : Nat) ({ cls := "BridgeNet", name := "send", desc := "(III)I" } : Jvm.MethodName)) ∈ bn_all := bn_t3 (i := 100) rfl rfl
theorem k_581 : (Jvm.Cond.instanceMethod ({ cls := "BridgeNet", name := "send", desc := "(III)I" } : Jvm.MethodName)) ∈ bn_all := bn_t3 (i := 101) rfl rfl
theorem k_582 : (Jvm.Cond.selects "BridgeNet" ({ cls := "BridgeNet", name := "send", desc := "(III)I" } : Jvm.MethodName) ({ cls := "BridgeNet", name := "send", desc := "(III)I" } : Jvm.MethodName)) ∈ bn_all := bn_t3 (i := 102) rfl rfl
theorem k_583 : (Jvm.Cond.code ({ cls := "BridgeNet", name := "send", desc := "(III)I" } : Jvm.MethodName) prog_1_method_7_code (6 : Nat) (Option.some Jvm.ClassFile.FieldType.int)) ∈ bn_all := bn_t3 (i := 103) rfl rfl
theorem k_587 : (Jvm.Cond.classLink "BridgeNet" (114 : Nat) "BridgeNet$Frame") ∈ bn_all := bn_t3 (i := 107) rfl rfl
theorem k_588 : (Jvm.Cond.instantiable "BridgeNet$Frame" (4 : Nat)) ∈ bn_all := bn_t3 (i := 108) rfl rfl
theorem k_589 : (Jvm.Cond.methodLink "BridgeNet" (119 : Nat) ({ cls := "BridgeNet$Frame", name := "<init>", desc := "(IIII)V" } : Jvm.MethodName)) ∈ bn_all := bn_t3 (i := 109) rfl rfl
theorem k_590 : (Jvm.Cond.instanceMethod ({ cls := "BridgeNet$Frame", name := "<init>", desc := "(IIII)V" } : Jvm.MethodName)) ∈ bn_all := bn_t3 (i := 110) rfl rfl
theorem k_591 : (Jvm.Cond.code ({ cls := "BridgeNet$Frame", name := "<init>", desc := "(IIII)V" } : Jvm.MethodName) prog_3_method_1_code (5 : Nat) (Option.none : Option Jvm.ClassFile.FieldType)) ∈ bn_all := bn_t3 (i := 111) rfl rfl
theorem k_592 : (Jvm.Cond.methodLink "BridgeNet$Frame" (1 : Nat) ({ cls := "java/lang/Object", name := "<init>", desc := "()V" } : Jvm.MethodName)) ∈ bn_all := bn_t3 (i := 112) rfl rfl
theorem k_593 : (Jvm.Cond.fieldLink "BridgeNet$Frame" (7 : Nat) "BridgeNet$Frame" "source" "I") ∈ bn_all := bn_t3 (i := 113) rfl rfl
theorem k_594 : (Jvm.Cond.fieldLink "BridgeNet$Bridge" (177 : Nat) "BridgeNet$Frame" "source" "I") ∈ bn_all := bn_t3 (i := 114) rfl rfl
theorem k_595 : (Jvm.Cond.fieldLink "BridgeNet$Frame" (13 : Nat) "BridgeNet$Frame" "destination" "I") ∈ bn_all := bn_t3 (i := 115) rfl rfl
theorem k_596 : (Jvm.Cond.fieldLink "BridgeNet$Message" (35 : Nat) "BridgeNet$Frame" "destination" "I") ∈ bn_all := bn_t3 (i := 116) rfl rfl
theorem k_597 : (Jvm.Cond.fieldLink "BridgeNet$Bridge" (184 : Nat) "BridgeNet$Frame" "destination" "I") ∈ bn_all := bn_t3 (i := 117) rfl rfl
theorem k_598 : (Jvm.Cond.fieldLink "BridgeNet$Frame" (16 : Nat) "BridgeNet$Frame" "vlan" "I") ∈ bn_all := bn_t3 (i := 118) rfl rfl
theorem k_599 : (Jvm.Cond.fieldLink "BridgeNet$Message" (42 : Nat) "BridgeNet$Frame" "vlan" "I") ∈ bn_all := bn_t3 (i := 119) rfl rfl
theorem k_600 : (Jvm.Cond.fieldLink "BridgeNet$Port" (91 : Nat) "BridgeNet$Frame" "vlan" "I") ∈ bn_all := bn_t3 (i := 120) rfl rfl
theorem k_601 : (Jvm.Cond.fieldLink "BridgeNet$Bridge" (168 : Nat) "BridgeNet$Frame" "vlan" "I") ∈ bn_all := bn_t3 (i := 121) rfl rfl
theorem k_602 : (Jvm.Cond.fieldLink "BridgeNet$Frame" (19 : Nat) "BridgeNet$Frame" "value" "I") ∈ bn_all := bn_t3 (i := 122) rfl rfl
theorem k_603 : (Jvm.Cond.laysFinal "BridgeNet$Frame" "BridgeNet$Frame" "source" "I") ∈ bn_all := bn_t3 (i := 123) rfl rfl
theorem k_605 : (Jvm.Cond.laysFinal "BridgeNet$Frame" "BridgeNet$Frame" "destination" "I") ∈ bn_all := bn_t3 (i := 125) rfl rfl
theorem k_607 : (Jvm.Cond.laysFinal "BridgeNet$Frame" "BridgeNet$Frame" "vlan" "I") ∈ bn_all := bn_t3 (i := 127) rfl rfl
theorem k_609 : (Jvm.Cond.laysFinal "BridgeNet$Frame" "BridgeNet$Frame" "value" "I") ∈ bn_all := bn_t3 (i := 129) rfl rfl
theorem k_612 : (Jvm.Cond.methodLink "BridgeNet" (122 : Nat) ({ cls := "BridgeNet$Bridge", name := "hearFrame", desc := "(LBridgeNet$Port;LBridgeNet$Frame;)I" } : Jvm.MethodName)) ∈ bn_all := bn_t3 (i := 132) rfl rfl
theorem k_613 : (Jvm.Cond.instanceMethod ({ cls := "BridgeNet$Bridge", name := "hearFrame", desc := "(LBridgeNet$Port;LBridgeNet$Frame;)I" } : Jvm.MethodName)) ∈ bn_all := bn_t3 (i := 133) rfl rfl
theorem k_614 : (Jvm.Cond.selects "BridgeNet$Bridge" ({ cls := "BridgeNet$Bridge", name := "hearFrame", desc := "(LBridgeNet$Port;LBridgeNet$Frame;)I" } : Jvm.MethodName) ({ cls := "BridgeNet$Bridge", name := "hearFrame", desc := "(LBridgeNet$Port;LBridgeNet$Frame;)I" } : Jvm.MethodName)) ∈ bn_all := bn_t3 (i := 134) rfl rfl
theorem k_615 : (Jvm.Cond.code ({ cls := "BridgeNet$Bridge", name := "hearFrame", desc := "(LBridgeNet$Port;LBridgeNet$Frame;)I" } : Jvm.MethodName) prog_2_method_17_code (4 : Nat) (Option.some Jvm.ClassFile.FieldType.int)) ∈ bn_all := bn_t3 (i := 135) rfl rfl
theorem k_616 : (Jvm.Cond.methodLink "BridgeNet$Bridge" (173 : Nat) ({ cls := "BridgeNet$Port", name := "carries", desc := "(I)Z" } : Jvm.MethodName)) ∈ bn_all := bn_t3 (i := 136) rfl rfl
theorem k_617 : (Jvm.Cond.instanceMethod ({ cls := "BridgeNet$Port", name := "carries", desc := "(I)Z" } : Jvm.MethodName)) ∈ bn_all := bn_t3 (i := 137) rfl rfl
theorem k_618 : (Jvm.Cond.selects "BridgeNet$Port" ({ cls := "BridgeNet$Port", name := "carries", desc := "(I)Z" } : Jvm.MethodName) ({ cls := "BridgeNet$Port", name := "carries", desc := "(I)Z" } : Jvm.MethodName)) ∈ bn_all := bn_t3 (i := 138) rfl rfl
theorem k_619 : (Jvm.Cond.code ({ cls := "BridgeNet$Port", name := "carries", desc := "(I)Z" } : Jvm.MethodName) prog_6_method_4_code (2 : Nat) (Option.some Jvm.ClassFile.FieldType.boolean)) ∈ bn_all := bn_t3 (i := 139) rfl rfl
theorem k_620 : (Jvm.Cond.methodLink "BridgeNet$Bridge" (180 : Nat) ({ cls := "BridgeNet$Bridge", name := "learn", desc := "(III)V" } : Jvm.MethodName)) ∈ bn_all := bn_t3 (i := 140) rfl rfl
theorem k_622 : (Jvm.Cond.instanceMethod ({ cls := "BridgeNet$Bridge", name := "learn", desc := "(III)V" } : Jvm.MethodName)) ∈ bn_all := bn_t3 (i := 142) rfl rfl
theorem k_623 : (Jvm.Cond.code ({ cls := "BridgeNet$Bridge", name := "learn", desc := "(III)V" } : Jvm.MethodName) prog_2_method_21_code (5 : Nat) (Option.none : Option Jvm.ClassFile.FieldType)) ∈ bn_all := bn_t3 (i := 143) rfl rfl
theorem k_624 : (Jvm.Cond.methodLink "BridgeNet$Bridge" (187 : Nat) ({ cls := "BridgeNet$Bridge", name := "placeOf", desc := "(II)I" } : Jvm.MethodName)) ∈ bn_all := bn_t3 (i := 144) rfl rfl
theorem k_625 : (Jvm.Cond.methodLink "BridgeNet$Bridge" (191 : Nat) ({ cls := "BridgeNet$Bridge", name := "flood", desc := "(LBridgeNet$Port;LBridgeNet$Frame;)I" } : Jvm.MethodName)) ∈ bn_all := bn_t3 (i := 145) rfl rfl
theorem k_627 : (Jvm.Cond.instanceMethod ({ cls := "BridgeNet$Bridge", name := "flood", desc := "(LBridgeNet$Port;LBridgeNet$Frame;)I" } : Jvm.MethodName)) ∈ bn_all := bn_t3 (i := 147) rfl rfl
theorem k_628 : (Jvm.Cond.code ({ cls := "BridgeNet$Bridge", name := "flood", desc := "(LBridgeNet$Port;LBridgeNet$Frame;)I" } : Jvm.MethodName) prog_2_method_19_code (8 : Nat) (Option.some Jvm.ClassFile.FieldType.int)) ∈ bn_all := bn_t3 (i := 148) rfl rfl
theorem k_629 : (Jvm.Cond.methodLink "BridgeNet$Bridge" (199 : Nat) ({ cls := "BridgeNet$Port", name := "letOut", desc := "(LBridgeNet$Frame;)Z" } : Jvm.MethodName)) ∈ bn_all := bn_t3 (i := 149) rfl rfl
theorem k_630 : (Jvm.Cond.instanceMethod ({ cls := "BridgeNet$Port", name := "letOut", desc := "(LBridgeNet$Frame;)Z" } : Jvm.MethodName)) ∈ bn_all := bn_t3 (i := 150) rfl rfl
theorem k_631 : (Jvm.Cond.selects "BridgeNet$Port" ({ cls := "BridgeNet$Port", name := "letOut", desc := "(LBridgeNet$Frame;)Z" } : Jvm.MethodName) ({ cls := "BridgeNet$Port", name := "letOut", desc := "(LBridgeNet$Frame;)Z" } : Jvm.MethodName)) ∈ bn_all := bn_t3 (i := 151) rfl rfl
theorem k_632 : (Jvm.Cond.code ({ cls := "BridgeNet$Port", name := "letOut", desc := "(LBridgeNet$Frame;)Z" } : Jvm.MethodName) prog_6_method_15_code (2 : Nat) (Option.some Jvm.ClassFile.FieldType.boolean)) ∈ bn_all := bn_t3 (i := 152) rfl rfl
theorem k_633 : (Jvm.Cond.methodLink "BridgeNet$Port" (96 : Nat) ({ cls := "BridgeNet$Port", name := "carries", desc := "(I)Z" } : Jvm.MethodName)) ∈ bn_all := bn_t3 (i := 153) rfl rfl
theorem k_634 : (Jvm.Cond.methodLink "BridgeNet$Port" (100 : Nat) ({ cls := "BridgeNet$Line", name := "putFrame", desc := "(LBridgeNet$Frame;)V" } : Jvm.MethodName)) ∈ bn_all := bn_t3 (i := 154) rfl rfl
theorem k_635 : (Jvm.Cond.instanceMethod ({ cls := "BridgeNet$Line", name := "putFrame", desc := "(LBridgeNet$Frame;)V" } : Jvm.MethodName)) ∈ bn_all := bn_t3 (i := 155) rfl rfl
theorem k_636 : (Jvm.Cond.selects "BridgeNet$Line" ({ cls := "BridgeNet$Line", name := "putFrame", desc := "(LBridgeNet$Frame;)V" } : Jvm.MethodName) ({ cls := "BridgeNet$Line", name := "putFrame", desc := "(LBridgeNet$Frame;)V" } : Jvm.MethodName)) ∈ bn_all := bn_t3 (i := 156) rfl rfl
theorem k_637 : (Jvm.Cond.code ({ cls := "BridgeNet$Line", name := "putFrame", desc := "(LBridgeNet$Frame;)V" } : Jvm.MethodName) prog_4_method_7_code (2 : Nat) (Option.none : Option Jvm.ClassFile.FieldType)) ∈ bn_all := bn_t3 (i := 157) rfl rfl
theorem k_638 : (Jvm.Cond.methodLink "BridgeNet$Port" (107 : Nat) ({ cls := "BridgeNet$Station", name := "keep", desc := "(LBridgeNet$Frame;)V" } : Jvm.MethodName)) ∈ bn_all := bn_t3 (i := 158) rfl rfl
theorem k_639 : (Jvm.Cond.instanceMethod ({ cls := "BridgeNet$Station", name := "keep", desc := "(LBridgeNet$Frame;)V" } : Jvm.MethodName)) ∈ bn_all := bn_t3 (i := 159) rfl rfl
theorem k_640 : (Jvm.Cond.selects "BridgeNet$Station" ({ cls := "BridgeNet$Station", name := "keep", desc := "(LBridgeNet$Frame;)V" } : Jvm.MethodName) ({ cls := "BridgeNet$Station", name := "keep", desc := "(LBridgeNet$Frame;)V" } : Jvm.MethodName)) ∈ bn_all := bn_t3 (i := 160) rfl rfl
theorem k_641 : (Jvm.Cond.code ({ cls := "BridgeNet$Station", name := "keep", desc := "(LBridgeNet$Frame;)V" } : Jvm.MethodName) prog_7_method_4_code (2 : Nat) (Option.none : Option Jvm.ClassFile.FieldType)) ∈ bn_all := bn_t3 (i := 161) rfl rfl
theorem k_642 : (Jvm.Cond.methodLink "BridgeNet$Station" (41 : Nat) ({ cls := "BridgeNet$Frame", name := "inboxEntry", desc := "()J" } : Jvm.MethodName)) ∈ bn_all := bn_t3 (i := 162) rfl rfl
theorem k_643 : (Jvm.Cond.instanceMethod ({ cls := "BridgeNet$Frame", name := "inboxEntry", desc := "()J" } : Jvm.MethodName)) ∈ bn_all := bn_t3 (i := 163) rfl rfl
theorem k_644 : (Jvm.Cond.selects "BridgeNet$Frame" ({ cls := "BridgeNet$Frame", name := "inboxEntry", desc := "()J" } : Jvm.MethodName) ({ cls := "BridgeNet$Frame", name := "inboxEntry", desc := "()J" } : Jvm.MethodName)) ∈ bn_all := bn_t3 (i := 164) rfl rfl
theorem k_645 : (Jvm.Cond.code ({ cls := "BridgeNet$Frame", name := "inboxEntry", desc := "()J" } : Jvm.MethodName) prog_3_method_2_code (1 : Nat) (Option.some Jvm.ClassFile.FieldType.long)) ∈ bn_all := bn_t3 (i := 165) rfl rfl
theorem k_646 : (Jvm.Cond.constantLong "BridgeNet$Frame" (22 : Nat) (4294967295 : Int64)) ∈ bn_all := bn_t3 (i := 166) rfl rfl
theorem k_647 : (Jvm.Cond.methodLink "BridgeNet$Bridge" (195 : Nat) ({ cls := "BridgeNet$Bridge", name := "passTo", desc := "(ILBridgeNet$Port;LBridgeNet$Frame;)I" } : Jvm.MethodName)) ∈ bn_all := bn_t3 (i := 167) rfl rfl
theorem k_649 : (Jvm.Cond.instanceMethod ({ cls := "BridgeNet$Bridge", name := "passTo", desc := "(ILBridgeNet$Port;LBridgeNet$Frame;)I" } : Jvm.MethodName)) ∈ bn_all := bn_t3 (i := 169) rfl rfl
theorem k_650 : (Jvm.Cond.code ({ cls := "BridgeNet$Bridge", name := "passTo", desc := "(ILBridgeNet$Port;LBridgeNet$Frame;)I" } : Jvm.MethodName) prog_2_method_18_code (4 : Nat) (Option.some Jvm.ClassFile.FieldType.int)) ∈ bn_all := bn_t3 (i := 170) rfl rfl
theorem k_651 : (Jvm.Cond.methodLink "BridgeNetLaw" (63 : Nat) ({ cls := "BridgeNetLaw", name := "deliver", desc := "(LBridgeNet;II[J)I" } : Jvm.MethodName)) ∈ bn_all := bn_t3 (i := 171) rfl rfl
theorem k_652 : (Jvm.Cond.static ({ cls := "BridgeNetLaw", name := "deliver", desc := "(LBridgeNet;II[J)I" } : Jvm.MethodName)) ∈ bn_all := bn_t3 (i := 172) rfl rfl
theorem k_653 : (Jvm.Cond.codeWith ({ cls := "BridgeNetLaw", name := "deliver", desc := "(LBridgeNet;II[J)I" } : Jvm.MethodName) method_5_code (5 : Nat) (Option.some Jvm.ClassFile.FieldType.int) [((0 : Nat), (10 : Nat), (13 : Nat), (13 : Nat))]) ∈ bn_all := bn_t3 (i := 173) rfl rfl
theorem k_654 : (Jvm.Cond.methodLink "BridgeNetLaw" (23 : Nat) ({ cls := "BridgeNet", name := "deliver", desc := "(II)I" } : Jvm.MethodName)) ∈ bn_all := bn_t3 (i := 174) rfl rfl
theorem k_655 : (Jvm.Cond.instanceMethod ({ cls := "BridgeNet", name := "deliver", desc := "(II)I" } : Jvm.MethodName)) ∈ bn_all := bn_t3 (i := 175) rfl rfl
theorem k_656 : (Jvm.Cond.selects "BridgeNet" ({ cls := "BridgeNet", name := "deliver", desc := "(II)I" } : Jvm.MethodName) ({ cls := "BridgeNet", name := "deliver", desc := "(II)I" } : Jvm.MethodName)) ∈ bn_all := bn_t3 (i := 176) rfl rfl
theorem k_657 : (Jvm.Cond.code ({ cls := "BridgeNet", name := "deliver", desc := "(II)I" } : Jvm.MethodName) prog_1_method_8_code (5 : Nat) (Option.some Jvm.ClassFile.FieldType.int)) ∈ bn_all := bn_t3 (i := 177) rfl rfl
theorem k_659 : (Jvm.Cond.methodLink "BridgeNet" (143 : Nat) ({ cls := "BridgeNet$Bridge", name := "hearTell", desc := "(LBridgeNet$Port;LBridgeNet$Message;)V" } : Jvm.MethodName)) ∈ bn_all := bn_t3 (i := 179) rfl rfl
theorem k_660 : (Jvm.Cond.instanceMethod ({ cls := "BridgeNet$Bridge", name := "hearTell", desc := "(LBridgeNet$Port;LBridgeNet$Message;)V" } : Jvm.MethodName)) ∈ bn_all := bn_t3 (i := 180) rfl rfl
theorem k_661 : (Jvm.Cond.selects "BridgeNet$Bridge" ({ cls := "BridgeNet$Bridge", name := "hearTell", desc := "(LBridgeNet$Port;LBridgeNet$Message;)V" } : Jvm.MethodName) ({ cls := "BridgeNet$Bridge", name := "hearTell", desc := "(LBridgeNet$Port;LBridgeNet$Message;)V" } : Jvm.MethodName)) ∈ bn_all := bn_t3 (i := 181) rfl rfl
theorem k_662 : (Jvm.Cond.code ({ cls := "BridgeNet$Bridge", name := "hearTell", desc := "(LBridgeNet$Port;LBridgeNet$Message;)V" } : Jvm.MethodName) prog_2_method_13_code (3 : Nat) (Option.none : Option Jvm.ClassFile.FieldType)) ∈ bn_all := bn_t3 (i := 182) rfl rfl
theorem k_663 : (Jvm.Cond.methodLink "BridgeNet$Bridge" (142 : Nat) ({ cls := "BridgeNet$Port", name := "hold", desc := "(JI)V" } : Jvm.MethodName)) ∈ bn_all := bn_t3 (i := 183) rfl rfl
theorem k_664 : (Jvm.Cond.instanceMethod ({ cls := "BridgeNet$Port", name := "hold", desc := "(JI)V" } : Jvm.MethodName)) ∈ bn_all := bn_t3 (i := 184) rfl rfl
theorem k_665 : (Jvm.Cond.selects "BridgeNet$Port" ({ cls := "BridgeNet$Port", name := "hold", desc := "(JI)V" } : Jvm.MethodName) ({ cls := "BridgeNet$Port", name := "hold", desc := "(JI)V" } : Jvm.MethodName)) ∈ bn_all := bn_t3 (i := 185) rfl rfl
theorem k_666 : (Jvm.Cond.code ({ cls := "BridgeNet$Port", name := "hold", desc := "(JI)V" } : Jvm.MethodName) prog_6_method_10_code (4 : Nat) (Option.none : Option Jvm.ClassFile.FieldType)) ∈ bn_all := bn_t3 (i := 186) rfl rfl
theorem k_667 : (Jvm.Cond.methodLink "BridgeNet$Bridge" (150 : Nat) ({ cls := "BridgeNet$Bridge", name := "answerProposal", desc := "(LBridgeNet$Port;)V" } : Jvm.MethodName)) ∈ bn_all := bn_t3 (i := 187) rfl rfl
theorem k_669 : (Jvm.Cond.instanceMethod ({ cls := "BridgeNet$Bridge", name := "answerProposal", desc := "(LBridgeNet$Port;)V" } : Jvm.MethodName)) ∈ bn_all := bn_t3 (i := 189) rfl rfl
theorem k_670 : (Jvm.Cond.code ({ cls := "BridgeNet$Bridge", name := "answerProposal", desc := "(LBridgeNet$Port;)V" } : Jvm.MethodName) prog_2_method_14_code (2 : Nat) (Option.none : Option Jvm.ClassFile.FieldType)) ∈ bn_all := bn_t3 (i := 190) rfl rfl
theorem k_671 : (Jvm.Cond.methodLink "BridgeNet$Bridge" (153 : Nat) ({ cls := "BridgeNet$Bridge", name := "proposeOnOthers", desc := "(LBridgeNet$Port;)V" } : Jvm.MethodName)) ∈ bn_all := bn_t3 (i := 191) rfl rfl
theorem k_673 : (Jvm.Cond.instanceMethod ({ cls := "BridgeNet$Bridge", name := "proposeOnOthers", desc := "(LBridgeNet$Port;)V" } : Jvm.MethodName)) ∈ bn_all := bn_t3 (i := 193) rfl rfl
theorem k_674 : (Jvm.Cond.code ({ cls := "BridgeNet$Bridge", name := "proposeOnOthers", desc := "(LBridgeNet$Port;)V" } : Jvm.MethodName) prog_2_method_15_code (6 : Nat) (Option.none : Option Jvm.ClassFile.FieldType)) ∈ bn_all := bn_t3 (i := 194) rfl rfl
theorem k_675 : (Jvm.Cond.methodLink "BridgeNet$Bridge" (159 : Nat) ({ cls := "BridgeNet$Port", name := "proposeUnlessAgreed", desc := "()Z" } : Jvm.MethodName)) ∈ bn_all := bn_t3 (i := 195) rfl rfl
theorem k_676 : (Jvm.Cond.instanceMethod ({ cls := "BridgeNet$Port", name := "proposeUnlessAgreed", desc := "()Z" } : Jvm.MethodName)) ∈ bn_all := bn_t3 (i := 196) rfl rfl
theorem k_677 : (Jvm.Cond.selects "BridgeNet$Port" ({ cls := "BridgeNet$Port", name := "proposeUnlessAgreed", desc := "()Z" } : Jvm.MethodName) ({ cls := "BridgeNet$Port", name := "proposeUnlessAgreed", desc := "()Z" } : Jvm.MethodName)) ∈ bn_all := bn_t3 (i := 197) rfl rfl
theorem k_678 : (Jvm.Cond.code ({ cls := "BridgeNet$Port", name := "proposeUnlessAgreed", desc := "()Z" } : Jvm.MethodName) prog_6_method_11_code (1 : Nat) (Option.some Jvm.ClassFile.FieldType.boolean)) ∈ bn_all := bn_t3 (i := 198) rfl rfl
theorem k_679 : (Jvm.Cond.methodLink "BridgeNet$Bridge" (156 : Nat) ({ cls := "BridgeNet$Line", name := "putAgree", desc := "(I)V" } : Jvm.MethodName)) ∈ bn_all := bn_t3 (i := 199) rfl rfl
theorem k_680 : (Jvm.Cond.instanceMethod ({ cls := "BridgeNet$Line", name := "putAgree", desc := "(I)V" } : Jvm.MethodName)) ∈ bn_all := bn_t3 (i := 200) rfl rfl
theorem k_681 : (Jvm.Cond.selects "BridgeNet$Line" ({ cls := "BridgeNet$Line", name := "putAgree", desc := "(I)V" } : Jvm.MethodName) ({ cls := "BridgeNet$Line", name := "putAgree", desc := "(I)V" } : Jvm.MethodName)) ∈ bn_all := bn_t3 (i := 201) rfl rfl
theorem k_682 : (Jvm.Cond.code ({ cls := "BridgeNet$Line", name := "putAgree", desc := "(I)V" } : Jvm.MethodName) prog_4_method_6_code (2 : Nat) (Option.none : Option Jvm.ClassFile.FieldType)) ∈ bn_all := bn_t3 (i := 202) rfl rfl
theorem k_683 : (Jvm.Cond.methodLink "BridgeNet" (150 : Nat) ({ cls := "BridgeNet$Bridge", name := "hearAgree", desc := "(LBridgeNet$Port;I)V" } : Jvm.MethodName)) ∈ bn_all := bn_t3 (i := 203) rfl rfl
theorem k_684 : (Jvm.Cond.instanceMethod ({ cls := "BridgeNet$Bridge", name := "hearAgree", desc := "(LBridgeNet$Port;I)V" } : Jvm.MethodName)) ∈ bn_all := bn_t3 (i := 204) rfl rfl
theorem k_685 : (Jvm.Cond.selects "BridgeNet$Bridge" ({ cls := "BridgeNet$Bridge", name := "hearAgree", desc := "(LBridgeNet$Port;I)V" } : Jvm.MethodName) ({ cls := "BridgeNet$Bridge", name := "hearAgree", desc := "(LBridgeNet$Port;I)V" } : Jvm.MethodName)) ∈ bn_all := bn_t3 (i := 205) rfl rfl
theorem k_686 : (Jvm.Cond.code ({ cls := "BridgeNet$Bridge", name := "hearAgree", desc := "(LBridgeNet$Port;I)V" } : Jvm.MethodName) prog_2_method_16_code (3 : Nat) (Option.none : Option Jvm.ClassFile.FieldType)) ∈ bn_all := bn_t3 (i := 206) rfl rfl
theorem k_687 : (Jvm.Cond.methodLink "BridgeNet$Bridge" (162 : Nat) ({ cls := "BridgeNet$Port", name := "takeAgreement", desc := "()V" } : Jvm.MethodName)) ∈ bn_all := bn_t3 (i := 207) rfl rfl
theorem k_688 : (Jvm.Cond.instanceMethod ({ cls := "BridgeNet$Port", name := "takeAgreement", desc := "()V" } : Jvm.MethodName)) ∈ bn_all := bn_t3 (i := 208) rfl rfl
theorem k_689 : (Jvm.Cond.selects "BridgeNet$Port" ({ cls := "BridgeNet$Port", name := "takeAgreement", desc := "()V" } : Jvm.MethodName) ({ cls := "BridgeNet$Port", name := "takeAgreement", desc := "()V" } : Jvm.MethodName)) ∈ bn_all := bn_t3 (i := 209) rfl rfl
theorem k_690 : (Jvm.Cond.code ({ cls := "BridgeNet$Port", name := "takeAgreement", desc := "()V" } : Jvm.MethodName) prog_6_method_12_code (1 : Nat) (Option.none : Option Jvm.ClassFile.FieldType)) ∈ bn_all := bn_t3 (i := 210) rfl rfl
theorem k_691 : (Jvm.Cond.classLink "BridgeNetLaw" (28 : Nat) "BridgeNetModel") ∈ bn_all := bn_t3 (i := 211) rfl rfl
theorem k_692 : (Jvm.Cond.instantiable "BridgeNetModel" (32 : Nat)) ∈ bn_all := bn_t3 (i := 212) rfl rfl
theorem k_693 : (Jvm.Cond.methodLink "BridgeNetLaw" (30 : Nat) ({ cls := "BridgeNetModel", name := "<init>", desc := "()V" } : Jvm.MethodName)) ∈ bn_all := bn_t3 (i := 213) rfl rfl
theorem k_694 : (Jvm.Cond.instanceMethod ({ cls := "BridgeNetModel", name := "<init>", desc := "()V" } : Jvm.MethodName)) ∈ bn_all := bn_t3 (i := 214) rfl rfl
theorem k_695 : (Jvm.Cond.code ({ cls := "BridgeNetModel", name := "<init>", desc := "()V" } : Jvm.MethodName) prog_10_method_1_code (2 : Nat) (Option.none : Option Jvm.ClassFile.FieldType)) ∈ bn_all := bn_t3 (i := 215) rfl rfl
theorem k_696 : (Jvm.Cond.methodLink "BridgeNetModel" (1 : Nat) ({ cls := "java/lang/Object", name := "<init>", desc := "()V" } : Jvm.MethodName)) ∈ bn_all := bn_t3 (i := 216) rfl rfl
theorem k_697 : (Jvm.Cond.constantLong "BridgeNetModel" (102 : Nat) (64 : Int64)) ∈ bn_all := bn_t3 (i := 217) rfl rfl
theorem k_698 : (Jvm.Cond.methodLink "BridgeNetModel" (104 : Nat) ({ cls := "BridgeNetModel", name := "vector", desc := "(JJJJ)J" } : Jvm.MethodName)) ∈ bn_all := bn_t3 (i := 218) rfl rfl
theorem k_699 : (Jvm.Cond.static ({ cls := "BridgeNetModel", name := "vector", desc := "(JJJJ)J" } : Jvm.MethodName)) ∈ bn_all := bn_t3 (i := 219) rfl rfl
theorem k_700 : (Jvm.Cond.code ({ cls := "BridgeNetModel", name := "vector", desc := "(JJJJ)J" } : Jvm.MethodName) prog_10_method_8_code (8 : Nat) (Option.some Jvm.ClassFile.FieldType.long)) ∈ bn_all := bn_t3 (i := 220) rfl rfl
theorem k_701 : (Jvm.Cond.fieldLink "BridgeNetModel" (108 : Nat) "BridgeNetModel" "thrown" "I") ∈ bn_all := bn_t3 (i := 221) rfl rfl
theorem k_702 : (Jvm.Cond.fieldLink "BridgeNetModel" (196 : Nat) "BridgeNetModel" "ticks" "I") ∈ bn_all := bn_t3 (i := 222) rfl rfl
theorem k_703 : (Jvm.Cond.fieldLink "BridgeNetModel" (7 : Nat) "BridgeNetModel" "priority" "[I") ∈ bn_all := bn_t3 (i := 223) rfl rfl
theorem k_704 : (Jvm.Cond.fieldLink "BridgeNetModel" (13 : Nat) "BridgeNetModel" "cost" "[I") ∈ bn_all := bn_t3 (i := 224) rfl rfl
theorem k_705 : (Jvm.Cond.fieldLink "BridgeNetModel" (16 : Nat) "BridgeNetModel" "vlans" "[I") ∈ bn_all := bn_t3 (i := 225) rfl rfl
theorem k_706 : (Jvm.Cond.fieldLink "BridgeNetModel" (19 : Nat) "BridgeNetModel" "joined" "[I") ∈ bn_all := bn_t3 (i := 226) rfl rfl
theorem k_707 : (Jvm.Cond.fieldLink "BridgeNetModel" (22 : Nat) "BridgeNetModel" "role" "[I") ∈ bn_all := bn_t3 (i := 227) rfl rfl
theorem k_708 : (Jvm.Cond.fieldLink "BridgeNetModel" (25 : Nat) "BridgeNetModel" "state" "[I") ∈ bn_all := bn_t3 (i := 228) rfl rfl
theorem k_709 : (Jvm.Cond.fieldLink "BridgeNetModel" (28 : Nat) "BridgeNetModel" "proposing" "[Z") ∈ bn_all := bn_t3 (i := 229) rfl rfl
theorem k_710 : (Jvm.Cond.fieldLink "BridgeNetModel" (32 : Nat) "BridgeNetModel" "agreed" "[Z") ∈ bn_all := bn_t3 (i := 230) rfl rfl
theorem k_711 : (Jvm.Cond.fieldLink "BridgeNetModel" (35 : Nat) "BridgeNetModel" "waits" "[I") ∈ bn_all := bn_t3 (i := 231) rfl rfl
theorem k_712 : (Jvm.Cond.fieldLink "BridgeNetModel" (38 : Nat) "BridgeNetModel" "info" "[J") ∈ bn_all := bn_t3 (i := 232) rfl rfl
theorem k_713 : (Jvm.Cond.fieldLink "BridgeNetModel" (42 : Nat) "BridgeNetModel" "infoHops" "[I") ∈ bn_all := bn_t3 (i := 233) rfl rfl
theorem k_714 : (Jvm.Cond.fieldLink "BridgeNetModel" (45 : Nat) "BridgeNetModel" "life" "[I") ∈ bn_all := bn_t3 (i := 234) rfl rfl
theorem k_715 : (Jvm.Cond.fieldLink "BridgeNetModel" (48 : Nat) "BridgeNetModel" "lines" "[I") ∈ bn_all := bn_t3 (i := 235) rfl rfl
theorem k_716 : (Jvm.Cond.fieldLink "BridgeNetModel" (51 : Nat) "BridgeNetModel" "kind" "[I") ∈ bn_all := bn_t3 (i := 236) rfl rfl
theorem k_717 : (Jvm.Cond.fieldLink "BridgeNetModel" (54 : Nat) "BridgeNetModel" "told" "[J") ∈ bn_all := bn_t3 (i := 237) rfl rfl
theorem k_718 : (Jvm.Cond.fieldLink "BridgeNetModel" (57 : Nat) "BridgeNetModel" "hop" "[I") ∈ bn_all := bn_t3 (i := 238) rfl rfl
theorem k_719 : (Jvm.Cond.fieldLink "BridgeNetModel" (60 : Nat) "BridgeNetModel" "asks" "[Z") ∈ bn_all := bn_t3 (i := 239) rfl rfl
theorem k_720 : (Jvm.Cond.fieldLink "BridgeNetModel" (63 : Nat) "BridgeNetModel" "source" "[I") ∈ bn_all := bn_t4 (i := 0) rfl rfl
theorem k_721 : (Jvm.Cond.fieldLink "BridgeNetModel" (66 : Nat) "BridgeNetModel" "destination" "[I") ∈ bn_all := bn_t4 (i := 1) rfl rfl
theorem k_722 : (Jvm.Cond.fieldLink "BridgeNetModel" (69 : Nat) "BridgeNetModel" "vlan" "[I") ∈ bn_all := bn_t4 (i := 2) rfl rfl
theorem k_723 : (Jvm.Cond.fieldLink "BridgeNetModel" (72 : Nat) "BridgeNetModel" "value" "[I") ∈ bn_all := bn_t4 (i := 3) rfl rfl
theorem k_724 : (Jvm.Cond.fieldLink "BridgeNetModel" (75 : Nat) "BridgeNetModel" "best" "[J") ∈ bn_all := bn_t4 (i := 4) rfl rfl
theorem k_725 : (Jvm.Cond.fieldLink "BridgeNetModel" (78 : Nat) "BridgeNetModel" "hops" "[I") ∈ bn_all := bn_t4 (i := 5) rfl rfl
theorem k_726 : (Jvm.Cond.fieldLink "BridgeNetModel" (81 : Nat) "BridgeNetModel" "rootPort" "[I") ∈ bn_all := bn_t4 (i := 6) rfl rfl
theorem k_727 : (Jvm.Cond.fieldLink "BridgeNetModel" (84 : Nat) "BridgeNetModel" "known" "[I") ∈ bn_all := bn_t4 (i := 7) rfl rfl
theorem k_728 : (Jvm.Cond.fieldLink "BridgeNetModel" (87 : Nat) "BridgeNetModel" "behind" "[I") ∈ bn_all := bn_t4 (i := 8) rfl rfl
theorem k_729 : (Jvm.Cond.fieldLink "BridgeNetModel" (90 : Nat) "BridgeNetModel" "at" "[I") ∈ bn_all := bn_t4 (i := 9) rfl rfl
theorem k_730 : (Jvm.Cond.fieldLink "BridgeNetModel" (93 : Nat) "BridgeNetModel" "in" "[I") ∈ bn_all := bn_t4 (i := 10) rfl rfl
theorem k_731 : (Jvm.Cond.fieldLink "BridgeNetModel" (96 : Nat) "BridgeNetModel" "got" "[I") ∈ bn_all := bn_t4 (i := 11) rfl rfl
theorem k_732 : (Jvm.Cond.fieldLink "BridgeNetModel" (99 : Nat) "BridgeNetModel" "inbox" "[J") ∈ bn_all := bn_t4 (i := 12) rfl rfl
theorem k_733 : (Jvm.Cond.lays "BridgeNetModel" "BridgeNetModel" "thrown" "I") ∈ bn_all := bn_t4 (i := 13) rfl rfl
theorem k_735 : (Jvm.Cond.lays "BridgeNetModel" "BridgeNetModel" "ticks" "I") ∈ bn_all := bn_t4 (i := 15) rfl rfl
theorem k_737 : (Jvm.Cond.laysFinal "BridgeNetModel" "BridgeNetModel" "priority" "[I") ∈ bn_all := bn_t4 (i := 17) rfl rfl
theorem k_739 : (Jvm.Cond.laysFinal "BridgeNetModel" "BridgeNetModel" "cost" "[I") ∈ bn_all := bn_t4 (i := 19) rfl rfl
theorem k_741 : (Jvm.Cond.laysFinal "BridgeNetModel" "BridgeNetModel" "vlans" "[I") ∈ bn_all := bn_t4 (i := 21) rfl rfl
theorem k_743 : (Jvm.Cond.laysFinal "BridgeNetModel" "BridgeNetModel" "joined" "[I") ∈ bn_all := bn_t4 (i := 23) rfl rfl
theorem k_745 : (Jvm.Cond.laysFinal "BridgeNetModel" "BridgeNetModel" "role" "[I") ∈ bn_all := bn_t4 (i := 25) rfl rfl
theorem k_747 : (Jvm.Cond.laysFinal "BridgeNetModel" "BridgeNetModel" "state" "[I") ∈ bn_all := bn_t4 (i := 27) rfl rfl
theorem k_749 : (Jvm.Cond.laysFinal "BridgeNetModel" "BridgeNetModel" "proposing" "[Z") ∈ bn_all := bn_t4 (i := 29) rfl rfl
theorem k_751 : (Jvm.Cond.laysFinal "BridgeNetModel" "BridgeNetModel" "agreed" "[Z") ∈ bn_all := bn_t4 (i := 31) rfl rfl
theorem k_753 : (Jvm.Cond.laysFinal "BridgeNetModel" "BridgeNetModel" "waits" "[I") ∈ bn_all := bn_t4 (i := 33) rfl rfl
theorem k_755 : (Jvm.Cond.laysFinal "BridgeNetModel" "BridgeNetModel" "info" "[J") ∈ bn_all := bn_t4 (i := 35) rfl rfl
theorem k_757 : (Jvm.Cond.laysFinal "BridgeNetModel" "BridgeNetModel" "infoHops" "[I") ∈ bn_all := bn_t4 (i := 37) rfl rfl
theorem k_759 : (Jvm.Cond.laysFinal "BridgeNetModel" "BridgeNetModel" "life" "[I") ∈ bn_all := bn_t4 (i := 39) rfl rfl
theorem k_761 : (Jvm.Cond.laysFinal "BridgeNetModel" "BridgeNetModel" "lines" "[I") ∈ bn_all := bn_t4 (i := 41) rfl rfl
theorem k_763 : (Jvm.Cond.laysFinal "BridgeNetModel" "BridgeNetModel" "kind" "[I") ∈ bn_all := bn_t4 (i := 43) rfl rfl
theorem k_765 : (Jvm.Cond.laysFinal "BridgeNetModel" "BridgeNetModel" "told" "[J") ∈ bn_all := bn_t4 (i := 45) rfl rfl
theorem k_767 : (Jvm.Cond.laysFinal "BridgeNetModel" "BridgeNetModel" "hop" "[I") ∈ bn_all := bn_t4 (i := 47) rfl rfl
theorem k_769 : (Jvm.Cond.laysFinal "BridgeNetModel" "BridgeNetModel" "asks" "[Z") ∈ bn_all := bn_t4 (i := 49) rfl rfl
theorem k_771 : (Jvm.Cond.laysFinal "BridgeNetModel" "BridgeNetModel" "source" "[I") ∈ bn_all := bn_t4 (i := 51) rfl rfl
theorem k_773 : (Jvm.Cond.laysFinal "BridgeNetModel" "BridgeNetModel" "destination" "[I") ∈ bn_all := bn_t4 (i := 53) rfl rfl
theorem k_775 : (Jvm.Cond.laysFinal "BridgeNetModel" "BridgeNetModel" "vlan" "[I") ∈ bn_all := bn_t4 (i := 55) rfl rfl
theorem k_777 : (Jvm.Cond.laysFinal "BridgeNetModel" "BridgeNetModel" "value" "[I") ∈ bn_all := bn_t4 (i := 57) rfl rfl
theorem k_779 : (Jvm.Cond.laysFinal "BridgeNetModel" "BridgeNetModel" "best" "[J") ∈ bn_all := bn_t4 (i := 59) rfl rfl
theorem k_781 : (Jvm.Cond.laysFinal "BridgeNetModel" "BridgeNetModel" "hops" "[I") ∈ bn_all := bn_t4 (i := 61) rfl rfl
theorem k_783 : (Jvm.Cond.laysFinal "BridgeNetModel" "BridgeNetModel" "rootPort" "[I") ∈ bn_all := bn_t4 (i := 63) rfl rfl
theorem k_785 : (Jvm.Cond.laysFinal "BridgeNetModel" "BridgeNetModel" "known" "[I") ∈ bn_all := bn_t4 (i := 65) rfl rfl
theorem k_787 : (Jvm.Cond.laysFinal "BridgeNetModel" "BridgeNetModel" "behind" "[I") ∈ bn_all := bn_t4 (i := 67) rfl rfl
theorem k_789 : (Jvm.Cond.laysFinal "BridgeNetModel" "BridgeNetModel" "at" "[I") ∈ bn_all := bn_t4 (i := 69) rfl rfl
theorem k_791 : (Jvm.Cond.laysFinal "BridgeNetModel" "BridgeNetModel" "in" "[I") ∈ bn_all := bn_t4 (i := 71) rfl rfl
theorem k_793 : (Jvm.Cond.laysFinal "BridgeNetModel" "BridgeNetModel" "got" "[I") ∈ bn_all := bn_t4 (i := 73) rfl rfl
theorem k_795 : (Jvm.Cond.laysFinal "BridgeNetModel" "BridgeNetModel" "inbox" "[J") ∈ bn_all := bn_t4 (i := 75) rfl rfl
theorem k_798 : (Jvm.Cond.arrayClass Jvm.ClassFile.FieldType.boolean) ∈ bn_all := bn_t4 (i := 78) rfl rfl
theorem k_799 : (Jvm.Cond.methodLink "BridgeNetLaw" (55 : Nat) ({ cls := "BridgeNetModel", name := "thrown", desc := "()I" } : Jvm.MethodName)) ∈ bn_all := bn_t4 (i := 79) rfl rfl
theorem k_800 : (Jvm.Cond.instanceMethod ({ cls := "BridgeNetModel", name := "thrown", desc := "()I" } : Jvm.MethodName)) ∈ bn_all := bn_t4 (i := 80) rfl rfl
theorem k_801 : (Jvm.Cond.selects "BridgeNetModel" ({ cls := "BridgeNetModel", name := "thrown", desc := "()I" } : Jvm.MethodName) ({ cls := "BridgeNetModel", name := "thrown", desc := "()I" } : Jvm.MethodName)) ∈ bn_all := bn_t4 (i := 81) rfl rfl
theorem k_802 : (Jvm.Cond.code ({ cls := "BridgeNetModel", name := "thrown", desc := "()I" } : Jvm.MethodName) prog_10_method_2_code (1 : Nat) (Option.some Jvm.ClassFile.FieldType.int)) ∈ bn_all := bn_t4 (i := 82) rfl rfl
theorem k_803 : (Jvm.Cond.methodLink "BridgeNetLaw" (66 : Nat) ({ cls := "BridgeNetModel", name := "deliver", desc := "(II)I" } : Jvm.MethodName)) ∈ bn_all := bn_t4 (i := 83) rfl rfl
theorem k_804 : (Jvm.Cond.instanceMethod ({ cls := "BridgeNetModel", name := "deliver", desc := "(II)I" } : Jvm.MethodName)) ∈ bn_all := bn_t4 (i := 84) rfl rfl
theorem k_805 : (Jvm.Cond.selects "BridgeNetModel" ({ cls := "BridgeNetModel", name := "deliver", desc := "(II)I" } : Jvm.MethodName) ({ cls := "BridgeNetModel", name := "deliver", desc := "(II)I" } : Jvm.MethodName)) ∈ bn_all := bn_t4 (i := 85) rfl rfl
theorem k_806 : (Jvm.Cond.code ({ cls := "BridgeNetModel", name := "deliver", desc := "(II)I" } : Jvm.MethodName) prog_10_method_29_code (6 : Nat) (Option.some Jvm.ClassFile.FieldType.int)) ∈ bn_all := bn_t4 (i := 86) rfl rfl
theorem k_807 : (Jvm.Cond.methodLink "BridgeNetModel" (178 : Nat) ({ cls := "BridgeNetModel", name := "isPort", desc := "(II)Z" } : Jvm.MethodName)) ∈ bn_all := bn_t4 (i := 87) rfl rfl
theorem k_808 : (Jvm.Cond.static ({ cls := "BridgeNetModel", name := "isPort", desc := "(II)Z" } : Jvm.MethodName)) ∈ bn_all := bn_t4 (i := 88) rfl rfl
theorem k_809 : (Jvm.Cond.code ({ cls := "BridgeNetModel", name := "isPort", desc := "(II)Z" } : Jvm.MethodName) prog_10_method_5_code (2 : Nat) (Option.some Jvm.ClassFile.FieldType.boolean)) ∈ bn_all := bn_t4 (i := 89) rfl rfl
theorem k_810 : (Jvm.Cond.methodLink "BridgeNetModel" (112 : Nat) ({ cls := "BridgeNetModel", name := "isBridge", desc := "(I)Z" } : Jvm.MethodName)) ∈ bn_all := bn_t4 (i := 90) rfl rfl
theorem k_811 : (Jvm.Cond.static ({ cls := "BridgeNetModel", name := "isBridge", desc := "(I)Z" } : Jvm.MethodName)) ∈ bn_all := bn_t4 (i := 91) rfl rfl
theorem k_812 : (Jvm.Cond.code ({ cls := "BridgeNetModel", name := "isBridge", desc := "(I)Z" } : Jvm.MethodName) prog_10_method_4_code (1 : Nat) (Option.some Jvm.ClassFile.FieldType.boolean)) ∈ bn_all := bn_t4 (i := 92) rfl rfl
theorem k_813 : (Jvm.Cond.methodLink "BridgeNetModel" (181 : Nat) ({ cls := "BridgeNetModel", name := "raise", desc := "(I)I" } : Jvm.MethodName)) ∈ bn_all := bn_t4 (i := 93) rfl rfl
theorem k_815 : (Jvm.Cond.instanceMethod ({ cls := "BridgeNetModel", name := "raise", desc := "(I)I" } : Jvm.MethodName)) ∈ bn_all := bn_t4 (i := 95) rfl rfl
theorem k_816 : (Jvm.Cond.code ({ cls := "BridgeNetModel", name := "raise", desc := "(I)I" } : Jvm.MethodName) prog_10_method_3_code (2 : Nat) (Option.some Jvm.ClassFile.FieldType.int)) ∈ bn_all := bn_t4 (i := 96) rfl rfl
theorem k_817 : (Jvm.Cond.methodLink "BridgeNetModel" (184 : Nat) ({ cls := "BridgeNetModel", name := "shift", desc := "(I)V" } : Jvm.MethodName)) ∈ bn_all := bn_t4 (i := 97) rfl rfl
theorem k_819 : (Jvm.Cond.instanceMethod ({ cls := "BridgeNetModel", name := "shift", desc := "(I)V" } : Jvm.MethodName)) ∈ bn_all := bn_t4 (i := 99) rfl rfl
theorem k_820 : (Jvm.Cond.code ({ cls := "BridgeNetModel", name := "shift", desc := "(I)V" } : Jvm.MethodName) prog_10_method_17_code (3 : Nat) (Option.none : Option Jvm.ClassFile.FieldType)) ∈ bn_all := bn_t4 (i := 100) rfl rfl
theorem k_821 : (Jvm.Cond.methodLink "BridgeNetModel" (144 : Nat) ({ cls := "BridgeNetModel", name := "copy", desc := "(II)V" } : Jvm.MethodName)) ∈ bn_all := bn_t4 (i := 101) rfl rfl
theorem k_823 : (Jvm.Cond.instanceMethod ({ cls := "BridgeNetModel", name := "copy", desc := "(II)V" } : Jvm.MethodName)) ∈ bn_all := bn_t4 (i := 103) rfl rfl
theorem k_824 : (Jvm.Cond.code ({ cls := "BridgeNetModel", name := "copy", desc := "(II)V" } : Jvm.MethodName) prog_10_method_16_code (3 : Nat) (Option.none : Option Jvm.ClassFile.FieldType)) ∈ bn_all := bn_t4 (i := 104) rfl rfl
theorem k_825 : (Jvm.Cond.methodLink "BridgeNetModel" (187 : Nat) ({ cls := "BridgeNetModel", name := "toldOn", desc := "(I)V" } : Jvm.MethodName)) ∈ bn_all := bn_t4 (i := 105) rfl rfl
theorem k_827 : (Jvm.Cond.instanceMethod ({ cls := "BridgeNetModel", name := "toldOn", desc := "(I)V" } : Jvm.MethodName)) ∈ bn_all := bn_t4 (i := 107) rfl rfl
theorem k_828 : (Jvm.Cond.code ({ cls := "BridgeNetModel", name := "toldOn", desc := "(I)V" } : Jvm.MethodName) prog_10_method_23_code (2 : Nat) (Option.none : Option Jvm.ClassFile.FieldType)) ∈ bn_all := bn_t4 (i := 108) rfl rfl
theorem k_829 : (Jvm.Cond.methodLink "BridgeNetModel" (163 : Nat) ({ cls := "BridgeNetModel", name := "compute", desc := "(I)V" } : Jvm.MethodName)) ∈ bn_all := bn_t4 (i := 109) rfl rfl
theorem k_831 : (Jvm.Cond.instanceMethod ({ cls := "BridgeNetModel", name := "compute", desc := "(I)V" } : Jvm.MethodName)) ∈ bn_all := bn_t4 (i := 111) rfl rfl
theorem k_832 : (Jvm.Cond.code ({ cls := "BridgeNetModel", name := "compute", desc := "(I)V" } : Jvm.MethodName) prog_10_method_21_code (8 : Nat) (Option.none : Option Jvm.ClassFile.FieldType)) ∈ bn_all := bn_t4 (i := 112) rfl rfl
theorem k_833 : (Jvm.Cond.methodLink "BridgeNetModel" (118 : Nat) ({ cls := "BridgeNetModel", name := "rootOf", desc := "(J)I" } : Jvm.MethodName)) ∈ bn_all := bn_t4 (i := 113) rfl rfl
theorem k_834 : (Jvm.Cond.static ({ cls := "BridgeNetModel", name := "rootOf", desc := "(J)I" } : Jvm.MethodName)) ∈ bn_all := bn_t4 (i := 114) rfl rfl
theorem k_835 : (Jvm.Cond.code ({ cls := "BridgeNetModel", name := "rootOf", desc := "(J)I" } : Jvm.MethodName) prog_10_method_9_code (2 : Nat) (Option.some Jvm.ClassFile.FieldType.int)) ∈ bn_all := bn_t4 (i := 115) rfl rfl
theorem k_836 : (Jvm.Cond.methodLink "BridgeNetModel" (122 : Nat) ({ cls := "BridgeNetModel", name := "costOf", desc := "(J)I" } : Jvm.MethodName)) ∈ bn_all := bn_t4 (i := 116) rfl rfl
theorem k_837 : (Jvm.Cond.static ({ cls := "BridgeNetModel", name := "costOf", desc := "(J)I" } : Jvm.MethodName)) ∈ bn_all := bn_t4 (i := 117) rfl rfl
theorem k_838 : (Jvm.Cond.code ({ cls := "BridgeNetModel", name := "costOf", desc := "(J)I" } : Jvm.MethodName) prog_10_method_10_code (2 : Nat) (Option.some Jvm.ClassFile.FieldType.int)) ∈ bn_all := bn_t4 (i := 118) rfl rfl
theorem k_839 : (Jvm.Cond.constant "BridgeNetModel" (116 : Nat) (65535 : Int32)) ∈ bn_all := bn_t4 (i := 119) rfl rfl
theorem k_840 : (Jvm.Cond.methodLink "BridgeNetModel" (151 : Nat) ({ cls := "BridgeNetModel", name := "choose", desc := "(I)V" } : Jvm.MethodName)) ∈ bn_all := bn_t4 (i := 120) rfl rfl
theorem k_842 : (Jvm.Cond.instanceMethod ({ cls := "BridgeNetModel", name := "choose", desc := "(I)V" } : Jvm.MethodName)) ∈ bn_all := bn_t4 (i := 122) rfl rfl
theorem k_843 : (Jvm.Cond.code ({ cls := "BridgeNetModel", name := "choose", desc := "(I)V" } : Jvm.MethodName) prog_10_method_18_code (5 : Nat) (Option.none : Option Jvm.ClassFile.FieldType)) ∈ bn_all := bn_t4 (i := 123) rfl rfl
theorem k_844 : (Jvm.Cond.methodLink "BridgeNetModel" (125 : Nat) ({ cls := "BridgeNetModel", name := "id", desc := "(I)I" } : Jvm.MethodName)) ∈ bn_all := bn_t4 (i := 124) rfl rfl
theorem k_846 : (Jvm.Cond.instanceMethod ({ cls := "BridgeNetModel", name := "id", desc := "(I)I" } : Jvm.MethodName)) ∈ bn_all := bn_t4 (i := 126) rfl rfl
theorem k_847 : (Jvm.Cond.code ({ cls := "BridgeNetModel", name := "id", desc := "(I)I" } : Jvm.MethodName) prog_10_method_6_code (2 : Nat) (Option.some Jvm.ClassFile.FieldType.int)) ∈ bn_all := bn_t4 (i := 127) rfl rfl
theorem k_848 : (Jvm.Cond.methodLink "BridgeNetModel" (148 : Nat) ({ cls := "BridgeNetModel", name := "teller", desc := "(J)I" } : Jvm.MethodName)) ∈ bn_all := bn_t4 (i := 128) rfl rfl
theorem k_849 : (Jvm.Cond.static ({ cls := "BridgeNetModel", name := "teller", desc := "(J)I" } : Jvm.MethodName)) ∈ bn_all := bn_t4 (i := 129) rfl rfl
theorem k_850 : (Jvm.Cond.code ({ cls := "BridgeNetModel", name := "teller", desc := "(J)I" } : Jvm.MethodName) prog_10_method_11_code (2 : Nat) (Option.some Jvm.ClassFile.FieldType.int)) ∈ bn_all := bn_t4 (i := 130) rfl rfl
theorem k_851 : (Jvm.Cond.constant "BridgeNetModel" (117 : Nat) (16777215 : Int32)) ∈ bn_all := bn_t4 (i := 131) rfl rfl
theorem k_852 : (Jvm.Cond.methodLink "BridgeNetModel" (154 : Nat) ({ cls := "BridgeNetModel", name := "roleOf", desc := "(I)I" } : Jvm.MethodName)) ∈ bn_all := bn_t4 (i := 132) rfl rfl
theorem k_854 : (Jvm.Cond.instanceMethod ({ cls := "BridgeNetModel", name := "roleOf", desc := "(I)I" } : Jvm.MethodName)) ∈ bn_all := bn_t4 (i := 134) rfl rfl
theorem k_855 : (Jvm.Cond.code ({ cls := "BridgeNetModel", name := "roleOf", desc := "(I)I" } : Jvm.MethodName) prog_10_method_19_code (2 : Nat) (Option.some Jvm.ClassFile.FieldType.int)) ∈ bn_all := bn_t4 (i := 135) rfl rfl
theorem k_856 : (Jvm.Cond.methodLink "BridgeNetModel" (133 : Nat) ({ cls := "BridgeNetModel", name := "wouldTell", desc := "(I)J" } : Jvm.MethodName)) ∈ bn_all := bn_t4 (i := 136) rfl rfl
theorem k_858 : (Jvm.Cond.instanceMethod ({ cls := "BridgeNetModel", name := "wouldTell", desc := "(I)J" } : Jvm.MethodName)) ∈ bn_all := bn_t4 (i := 138) rfl rfl
theorem k_859 : (Jvm.Cond.code ({ cls := "BridgeNetModel", name := "wouldTell", desc := "(I)J" } : Jvm.MethodName) prog_10_method_12_code (3 : Nat) (Option.some Jvm.ClassFile.FieldType.long)) ∈ bn_all := bn_t4 (i := 139) rfl rfl
theorem k_860 : (Jvm.Cond.methodLink "BridgeNetModel" (157 : Nat) ({ cls := "BridgeNetModel", name := "take", desc := "(II)V" } : Jvm.MethodName)) ∈ bn_all := bn_t4 (i := 140) rfl rfl
theorem k_862 : (Jvm.Cond.instanceMethod ({ cls := "BridgeNetModel", name := "take", desc := "(II)V" } : Jvm.MethodName)) ∈ bn_all := bn_t4 (i := 142) rfl rfl
theorem k_863 : (Jvm.Cond.code ({ cls := "BridgeNetModel", name := "take", desc := "(II)V" } : Jvm.MethodName) prog_10_method_20_code (3 : Nat) (Option.none : Option Jvm.ClassFile.FieldType)) ∈ bn_all := bn_t4 (i := 143) rfl rfl
theorem k_864 : (Jvm.Cond.methodLink "BridgeNetModel" (137 : Nat) ({ cls := "BridgeNetModel", name := "isLinked", desc := "(I)Z" } : Jvm.MethodName)) ∈ bn_all := bn_t4 (i := 144) rfl rfl
theorem k_866 : (Jvm.Cond.instanceMethod ({ cls := "BridgeNetModel", name := "isLinked", desc := "(I)Z" } : Jvm.MethodName)) ∈ bn_all := bn_t4 (i := 146) rfl rfl
theorem k_867 : (Jvm.Cond.code ({ cls := "BridgeNetModel", name := "isLinked", desc := "(I)Z" } : Jvm.MethodName) prog_10_method_7_code (2 : Nat) (Option.some Jvm.ClassFile.FieldType.boolean)) ∈ bn_all := bn_t4 (i := 147) rfl rfl
theorem k_868 : (Jvm.Cond.methodLink "BridgeNetModel" (160 : Nat) ({ cls := "BridgeNetModel", name := "tellAll", desc := "(I)V" } : Jvm.MethodName)) ∈ bn_all := bn_t4 (i := 148) rfl rfl
theorem k_870 : (Jvm.Cond.instanceMethod ({ cls := "BridgeNetModel", name := "tellAll", desc := "(I)V" } : Jvm.MethodName)) ∈ bn_all := bn_t4 (i := 150) rfl rfl
theorem k_871 : (Jvm.Cond.code ({ cls := "BridgeNetModel", name := "tellAll", desc := "(I)V" } : Jvm.MethodName) prog_10_method_15_code (3 : Nat) (Option.none : Option Jvm.ClassFile.FieldType)) ∈ bn_all := bn_t4 (i := 151) rfl rfl
theorem k_872 : (Jvm.Cond.methodLink "BridgeNetModel" (140 : Nat) ({ cls := "BridgeNetModel", name := "tell", desc := "(I)V" } : Jvm.MethodName)) ∈ bn_all := bn_t4 (i := 152) rfl rfl
theorem k_874 : (Jvm.Cond.instanceMethod ({ cls := "BridgeNetModel", name := "tell", desc := "(I)V" } : Jvm.MethodName)) ∈ bn_all := bn_t4 (i := 154) rfl rfl
theorem k_875 : (Jvm.Cond.code ({ cls := "BridgeNetModel", name := "tell", desc := "(I)V" } : Jvm.MethodName) prog_10_method_14_code (3 : Nat) (Option.none : Option Jvm.ClassFile.FieldType)) ∈ bn_all := bn_t4 (i := 155) rfl rfl
theorem k_876 : (Jvm.Cond.methodLink "BridgeNetModel" (129 : Nat) ({ cls := "BridgeNetModel", name := "post", desc := "(II)I" } : Jvm.MethodName)) ∈ bn_all := bn_t4 (i := 156) rfl rfl
theorem k_878 : (Jvm.Cond.instanceMethod ({ cls := "BridgeNetModel", name := "post", desc := "(II)I" } : Jvm.MethodName)) ∈ bn_all := bn_t4 (i := 158) rfl rfl
theorem k_879 : (Jvm.Cond.code ({ cls := "BridgeNetModel", name := "post", desc := "(II)I" } : Jvm.MethodName) prog_10_method_13_code (5 : Nat) (Option.some Jvm.ClassFile.FieldType.int)) ∈ bn_all := bn_t4 (i := 159) rfl rfl
theorem k_880 : (Jvm.Cond.methodLink "BridgeNetModel" (166 : Nat) ({ cls := "BridgeNetModel", name := "agree", desc := "(I)V" } : Jvm.MethodName)) ∈ bn_all := bn_t4 (i := 160) rfl rfl
theorem k_882 : (Jvm.Cond.instanceMethod ({ cls := "BridgeNetModel", name := "agree", desc := "(I)V" } : Jvm.MethodName)) ∈ bn_all := bn_t4 (i := 162) rfl rfl
theorem k_883 : (Jvm.Cond.code ({ cls := "BridgeNetModel", name := "agree", desc := "(I)V" } : Jvm.MethodName) prog_10_method_24_code (4 : Nat) (Option.none : Option Jvm.ClassFile.FieldType)) ∈ bn_all := bn_t4 (i := 163) rfl rfl
theorem k_884 : (Jvm.Cond.methodLink "BridgeNetModel" (190 : Nat) ({ cls := "BridgeNetModel", name := "agreedOn", desc := "(I)V" } : Jvm.MethodName)) ∈ bn_all := bn_t4 (i := 164) rfl rfl
theorem k_886 : (Jvm.Cond.instanceMethod ({ cls := "BridgeNetModel", name := "agreedOn", desc := "(I)V" } : Jvm.MethodName)) ∈ bn_all := bn_t4 (i := 166) rfl rfl
theorem k_887 : (Jvm.Cond.code ({ cls := "BridgeNetModel", name := "agreedOn", desc := "(I)V" } : Jvm.MethodName) prog_10_method_25_code (2 : Nat) (Option.none : Option Jvm.ClassFile.FieldType)) ∈ bn_all := bn_t4 (i := 167) rfl rfl
theorem k_888 : (Jvm.Cond.methodLink "BridgeNetModel" (193 : Nat) ({ cls := "BridgeNetModel", name := "frame", desc := "(I)I" } : Jvm.MethodName)) ∈ bn_all := bn_t4 (i := 168) rfl rfl
theorem k_890 : (Jvm.Cond.instanceMethod ({ cls := "BridgeNetModel", name := "frame", desc := "(I)I" } : Jvm.MethodName)) ∈ bn_all := bn_t4 (i := 170) rfl rfl
theorem k_891 : (Jvm.Cond.code ({ cls := "BridgeNetModel", name := "frame", desc := "(I)I" } : Jvm.MethodName) prog_10_method_28_code (11 : Nat) (Option.some Jvm.ClassFile.FieldType.int)) ∈ bn_all := bn_t4 (i := 171) rfl rfl
theorem k_892 : (Jvm.Cond.methodLink "BridgeNetModel" (169 : Nat) ({ cls := "BridgeNetModel", name := "has", desc := "(II)Z" } : Jvm.MethodName)) ∈ bn_all := bn_t4 (i := 172) rfl rfl
theorem k_894 : (Jvm.Cond.instanceMethod ({ cls := "BridgeNetModel", name := "has", desc := "(II)Z" } : Jvm.MethodName)) ∈ bn_all := bn_t4 (i := 174) rfl rfl
theorem k_895 : (Jvm.Cond.code ({ cls := "BridgeNetModel", name := "has", desc := "(II)Z" } : Jvm.MethodName) prog_10_method_26_code (3 : Nat) (Option.some Jvm.ClassFile.FieldType.boolean)) ∈ bn_all := bn_t4 (i := 175) rfl rfl
theorem k_896 : (Jvm.Cond.methodLink "BridgeNetModel" (175 : Nat) ({ cls := "BridgeNetModel", name := "out", desc := "(I)I" } : Jvm.MethodName)) ∈ bn_all := bn_t4 (i := 176) rfl rfl
theorem k_898 : (Jvm.Cond.instanceMethod ({ cls := "BridgeNetModel", name := "out", desc := "(I)I" } : Jvm.MethodName)) ∈ bn_all := bn_t4 (i := 178) rfl rfl
theorem k_899 : (Jvm.Cond.code ({ cls := "BridgeNetModel", name := "out", desc := "(I)I" } : Jvm.MethodName) prog_10_method_27_code (4 : Nat) (Option.some Jvm.ClassFile.FieldType.int)) ∈ bn_all := bn_t4 (i := 179) rfl rfl
theorem k_900 : (Jvm.Cond.constantLong "BridgeNetModel" (173 : Nat) (4294967295 : Int64)) ∈ bn_all := bn_t4 (i := 180) rfl rfl
theorem k_901 : (Jvm.Cond.methodLink "BridgeNetLaw" (70 : Nat) ({ cls := "BridgeNetModel", name := "lose", desc := "(II)Z" } : Jvm.MethodName)) ∈ bn_all := bn_t4 (i := 181) rfl rfl
theorem k_902 : (Jvm.Cond.instanceMethod ({ cls := "BridgeNetModel", name := "lose", desc := "(II)Z" } : Jvm.MethodName)) ∈ bn_all := bn_t4 (i := 182) rfl rfl
theorem k_903 : (Jvm.Cond.selects "BridgeNetModel" ({ cls := "BridgeNetModel", name := "lose", desc := "(II)Z" } : Jvm.MethodName) ({ cls := "BridgeNetModel", name := "lose", desc := "(II)Z" } : Jvm.MethodName)) ∈ bn_all := bn_t4 (i := 183) rfl rfl
theorem k_904 : (Jvm.Cond.code ({ cls := "BridgeNetModel", name := "lose", desc := "(II)Z" } : Jvm.MethodName) prog_10_method_30_code (3 : Nat) (Option.some Jvm.ClassFile.FieldType.boolean)) ∈ bn_all := bn_t4 (i := 184) rfl rfl
theorem k_905 : (Jvm.Cond.methodLink "BridgeNetLaw" (74 : Nat) ({ cls := "BridgeNetModel", name := "tick", desc := "()V" } : Jvm.MethodName)) ∈ bn_all := bn_t4 (i := 185) rfl rfl
theorem k_906 : (Jvm.Cond.instanceMethod ({ cls := "BridgeNetModel", name := "tick", desc := "()V" } : Jvm.MethodName)) ∈ bn_all := bn_t4 (i := 186) rfl rfl
theorem k_907 : (Jvm.Cond.selects "BridgeNetModel" ({ cls := "BridgeNetModel", name := "tick", desc := "()V" } : Jvm.MethodName) ({ cls := "BridgeNetModel", name := "tick", desc := "()V" } : Jvm.MethodName)) ∈ bn_all := bn_t4 (i := 187) rfl rfl
theorem k_908 : (Jvm.Cond.code ({ cls := "BridgeNetModel", name := "tick", desc := "()V" } : Jvm.MethodName) prog_10_method_32_code (2 : Nat) (Option.none : Option Jvm.ClassFile.FieldType)) ∈ bn_all := bn_t4 (i := 188) rfl rfl
theorem k_909 : (Jvm.Cond.methodLink "BridgeNetModel" (199 : Nat) ({ cls := "BridgeNetModel", name := "ageOf", desc := "(I)V" } : Jvm.MethodName)) ∈ bn_all := bn_t4 (i := 189) rfl rfl
theorem k_911 : (Jvm.Cond.instanceMethod ({ cls := "BridgeNetModel", name := "ageOf", desc := "(I)V" } : Jvm.MethodName)) ∈ bn_all := bn_t4 (i := 191) rfl rfl
theorem k_912 : (Jvm.Cond.code ({ cls := "BridgeNetModel", name := "ageOf", desc := "(I)V" } : Jvm.MethodName) prog_10_method_31_code (3 : Nat) (Option.none : Option Jvm.ClassFile.FieldType)) ∈ bn_all := bn_t4 (i := 192) rfl rfl
theorem k_913 : (Jvm.Cond.methodLink "BridgeNetLaw" (35 : Nat) ({ cls := "BridgeNetModel", name := "priority", desc := "(II)Z" } : Jvm.MethodName)) ∈ bn_all := bn_t4 (i := 193) rfl rfl
theorem k_914 : (Jvm.Cond.instanceMethod ({ cls := "BridgeNetModel", name := "priority", desc := "(II)Z" } : Jvm.MethodName)) ∈ bn_all := bn_t4 (i := 194) rfl rfl
theorem k_915 : (Jvm.Cond.selects "BridgeNetModel" ({ cls := "BridgeNetModel", name := "priority", desc := "(II)Z" } : Jvm.MethodName) ({ cls := "BridgeNetModel", name := "priority", desc := "(II)Z" } : Jvm.MethodName)) ∈ bn_all := bn_t4 (i := 195) rfl rfl
theorem k_916 : (Jvm.Cond.code ({ cls := "BridgeNetModel", name := "priority", desc := "(II)Z" } : Jvm.MethodName) prog_10_method_33_code (4 : Nat) (Option.some Jvm.ClassFile.FieldType.boolean)) ∈ bn_all := bn_t4 (i := 196) rfl rfl
theorem k_917 : (Jvm.Cond.methodLink "BridgeNetLaw" (40 : Nat) ({ cls := "BridgeNetModel", name := "set", desc := "(IIII)Z" } : Jvm.MethodName)) ∈ bn_all := bn_t4 (i := 197) rfl rfl
theorem k_918 : (Jvm.Cond.instanceMethod ({ cls := "BridgeNetModel", name := "set", desc := "(IIII)Z" } : Jvm.MethodName)) ∈ bn_all := bn_t4 (i := 198) rfl rfl
theorem k_919 : (Jvm.Cond.selects "BridgeNetModel" ({ cls := "BridgeNetModel", name := "set", desc := "(IIII)Z" } : Jvm.MethodName) ({ cls := "BridgeNetModel", name := "set", desc := "(IIII)Z" } : Jvm.MethodName)) ∈ bn_all := bn_t4 (i := 199) rfl rfl
theorem k_920 : (Jvm.Cond.code ({ cls := "BridgeNetModel", name := "set", desc := "(IIII)Z" } : Jvm.MethodName) prog_10_method_34_code (5 : Nat) (Option.some Jvm.ClassFile.FieldType.boolean)) ∈ bn_all := bn_t4 (i := 200) rfl rfl
theorem k_921 : (Jvm.Cond.methodLink "BridgeNetLaw" (44 : Nat) ({ cls := "BridgeNetModel", name := "link", desc := "(IIII)Z" } : Jvm.MethodName)) ∈ bn_all := bn_t4 (i := 201) rfl rfl
theorem k_922 : (Jvm.Cond.instanceMethod ({ cls := "BridgeNetModel", name := "link", desc := "(IIII)Z" } : Jvm.MethodName)) ∈ bn_all := bn_t4 (i := 202) rfl rfl
theorem k_923 : (Jvm.Cond.selects "BridgeNetModel" ({ cls := "BridgeNetModel", name := "link", desc := "(IIII)Z" } : Jvm.MethodName) ({ cls := "BridgeNetModel", name := "link", desc := "(IIII)Z" } : Jvm.MethodName)) ∈ bn_all := bn_t4 (i := 203) rfl rfl
theorem k_924 : (Jvm.Cond.code ({ cls := "BridgeNetModel", name := "link", desc := "(IIII)Z" } : Jvm.MethodName) prog_10_method_35_code (5 : Nat) (Option.some Jvm.ClassFile.FieldType.boolean)) ∈ bn_all := bn_t4 (i := 204) rfl rfl
theorem k_925 : (Jvm.Cond.methodLink "BridgeNetModel" (202 : Nat) ({ cls := "BridgeNetModel", name := "clear", desc := "(I)V" } : Jvm.MethodName)) ∈ bn_all := bn_t4 (i := 205) rfl rfl
theorem k_927 : (Jvm.Cond.instanceMethod ({ cls := "BridgeNetModel", name := "clear", desc := "(I)V" } : Jvm.MethodName)) ∈ bn_all := bn_t4 (i := 207) rfl rfl
theorem k_928 : (Jvm.Cond.code ({ cls := "BridgeNetModel", name := "clear", desc := "(I)V" } : Jvm.MethodName) prog_10_method_22_code (3 : Nat) (Option.none : Option Jvm.ClassFile.FieldType)) ∈ bn_all := bn_t4 (i := 208) rfl rfl
theorem k_929 : (Jvm.Cond.methodLink "BridgeNetLaw" (48 : Nat) ({ cls := "BridgeNetModel", name := "cut", desc := "(II)Z" } : Jvm.MethodName)) ∈ bn_all := bn_t4 (i := 209) rfl rfl
theorem k_930 : (Jvm.Cond.instanceMethod ({ cls := "BridgeNetModel", name := "cut", desc := "(II)Z" } : Jvm.MethodName)) ∈ bn_all := bn_t4 (i := 210) rfl rfl
theorem k_931 : (Jvm.Cond.selects "BridgeNetModel" ({ cls := "BridgeNetModel", name := "cut", desc := "(II)Z" } : Jvm.MethodName) ({ cls := "BridgeNetModel", name := "cut", desc := "(II)Z" } : Jvm.MethodName)) ∈ bn_all := bn_t4 (i := 211) rfl rfl
theorem k_932 : (Jvm.Cond.code ({ cls := "BridgeNetModel", name := "cut", desc := "(II)Z" } : Jvm.MethodName) prog_10_method_36_code (5 : Nat) (Option.some Jvm.ClassFile.FieldType.boolean)) ∈ bn_all := bn_t4 (i := 212) rfl rfl
theorem k_933 : (Jvm.Cond.methodLink "BridgeNetLaw" (54 : Nat) ({ cls := "BridgeNetModel", name := "attach", desc := "(IIII)V" } : Jvm.MethodName)) ∈ bn_all := bn_t4 (i := 213) rfl rfl
theorem k_934 : (Jvm.Cond.instanceMethod ({ cls := "BridgeNetModel", name := "attach", desc := "(IIII)V" } : Jvm.MethodName)) ∈ bn_all := bn_t4 (i := 214) rfl rfl
theorem k_935 : (Jvm.Cond.selects "BridgeNetModel" ({ cls := "BridgeNetModel", name := "attach", desc := "(IIII)V" } : Jvm.MethodName) ({ cls := "BridgeNetModel", name := "attach", desc := "(IIII)V" } : Jvm.MethodName)) ∈ bn_all := bn_t4 (i := 215) rfl rfl
theorem k_936 : (Jvm.Cond.code ({ cls := "BridgeNetModel", name := "attach", desc := "(IIII)V" } : Jvm.MethodName) prog_10_method_37_code (7 : Nat) (Option.none : Option Jvm.ClassFile.FieldType)) ∈ bn_all := bn_t4 (i := 216) rfl rfl
theorem k_937 : (Jvm.Cond.methodLink "BridgeNetLaw" (62 : Nat) ({ cls := "BridgeNetModel", name := "send", desc := "(III)I" } : Jvm.MethodName)) ∈ bn_all := bn_t4 (i := 217) rfl rfl
theorem k_938 : (Jvm.Cond.instanceMethod ({ cls := "BridgeNetModel", name := "send", desc := "(III)I" } : Jvm.MethodName)) ∈ bn_all := bn_t4 (i := 218) rfl rfl
theorem k_939 : (Jvm.Cond.selects "BridgeNetModel" ({ cls := "BridgeNetModel", name := "send", desc := "(III)I" } : Jvm.MethodName) ({ cls := "BridgeNetModel", name := "send", desc := "(III)I" } : Jvm.MethodName)) ∈ bn_all := bn_t4 (i := 219) rfl rfl
theorem k_940 : (Jvm.Cond.code ({ cls := "BridgeNetModel", name := "send", desc := "(III)I" } : Jvm.MethodName) prog_10_method_38_code (4 : Nat) (Option.some Jvm.ClassFile.FieldType.int)) ∈ bn_all := bn_t4 (i := 220) rfl rfl
theorem k_941 : (Jvm.Cond.methodLink "BridgeNetLaw" (78 : Nat) ({ cls := "BridgeNetModel", name := "port", desc := "(II)I" } : Jvm.MethodName)) ∈ bn_all := bn_t4 (i := 221) rfl rfl
theorem k_942 : (Jvm.Cond.instanceMethod ({ cls := "BridgeNetModel", name := "port", desc := "(II)I" } : Jvm.MethodName)) ∈ bn_all := bn_t4 (i := 222) rfl rfl
theorem k_943 : (Jvm.Cond.selects "BridgeNetModel" ({ cls := "BridgeNetModel", name := "port", desc := "(II)I" } : Jvm.MethodName) ({ cls := "BridgeNetModel", name := "port", desc := "(II)I" } : Jvm.MethodName)) ∈ bn_all := bn_t4 (i := 223) rfl rfl
theorem k_944 : (Jvm.Cond.code ({ cls := "BridgeNetModel", name := "port", desc := "(II)I" } : Jvm.MethodName) prog_10_method_39_code (4 : Nat) (Option.some Jvm.ClassFile.FieldType.int)) ∈ bn_all := bn_t4 (i := 224) rfl rfl
theorem k_945 : (Jvm.Cond.methodLink "BridgeNetLaw" (83 : Nat) ({ cls := "BridgeNetModel", name := "root", desc := "(I)J" } : Jvm.MethodName)) ∈ bn_all := bn_t4 (i := 225) rfl rfl
theorem k_946 : (Jvm.Cond.instanceMethod ({ cls := "BridgeNetModel", name := "root", desc := "(I)J" } : Jvm.MethodName)) ∈ bn_all := bn_t4 (i := 226) rfl rfl
theorem k_947 : (Jvm.Cond.selects "BridgeNetModel" ({ cls := "BridgeNetModel", name := "root", desc := "(I)J" } : Jvm.MethodName) ({ cls := "BridgeNetModel", name := "root", desc := "(I)J" } : Jvm.MethodName)) ∈ bn_all := bn_t4 (i := 227) rfl rfl
theorem k_948 : (Jvm.Cond.code ({ cls := "BridgeNetModel", name := "root", desc := "(I)J" } : Jvm.MethodName) prog_10_method_40_code (2 : Nat) (Option.some Jvm.ClassFile.FieldType.long)) ∈ bn_all := bn_t4 (i := 228) rfl rfl
theorem k_949 : (Jvm.Cond.constantLong "BridgeNetModel" (205 : Nat) (256 : Int64)) ∈ bn_all := bn_t4 (i := 229) rfl rfl
theorem k_950 : (Jvm.Cond.constantLong "BridgeNetModel" (207 : Nat) (16777216 : Int64)) ∈ bn_all := bn_t4 (i := 230) rfl rfl
theorem k_951 : (Jvm.Cond.constantLong "BridgeNetModel" (209 : Nat) (-1 : Int64)) ∈ bn_all := bn_t4 (i := 231) rfl rfl
theorem k_952 : (Jvm.Cond.methodLink "BridgeNetLaw" (88 : Nat) ({ cls := "BridgeNetModel", name := "info", desc := "(II)J" } : Jvm.MethodName)) ∈ bn_all := bn_t4 (i := 232) rfl rfl
theorem k_953 : (Jvm.Cond.instanceMethod ({ cls := "BridgeNetModel", name := "info", desc := "(II)J" } : Jvm.MethodName)) ∈ bn_all := bn_t4 (i := 233) rfl rfl
theorem k_954 : (Jvm.Cond.selects "BridgeNetModel" ({ cls := "BridgeNetModel", name := "info", desc := "(II)J" } : Jvm.MethodName) ({ cls := "BridgeNetModel", name := "info", desc := "(II)J" } : Jvm.MethodName)) ∈ bn_all := bn_t4 (i := 234) rfl rfl
theorem k_955 : (Jvm.Cond.code ({ cls := "BridgeNetModel", name := "info", desc := "(II)J" } : Jvm.MethodName) prog_10_method_41_code (8 : Nat) (Option.some Jvm.ClassFile.FieldType.long)) ∈ bn_all := bn_t4 (i := 235) rfl rfl
theorem k_956 : (Jvm.Cond.constantLong "BridgeNetModel" (211 : Nat) (255 : Int64)) ∈ bn_all := bn_t4 (i := 236) rfl rfl
theorem k_957 : (Jvm.Cond.methodLink "BridgeNetLaw" (92 : Nat) ({ cls := "BridgeNetModel", name := "learned", desc := "(III)I" } : Jvm.MethodName)) ∈ bn_all := bn_t4 (i := 237) rfl rfl
theorem k_958 : (Jvm.Cond.instanceMethod ({ cls := "BridgeNetModel", name := "learned", desc := "(III)I" } : Jvm.MethodName)) ∈ bn_all := bn_t4 (i := 238) rfl rfl
theorem k_959 : (Jvm.Cond.selects "BridgeNetModel" ({ cls := "BridgeNetModel", name := "learned", desc := "(III)I" } : Jvm.MethodName) ({ cls := "BridgeNetModel", name := "learned", desc := "(III)I" } : Jvm.MethodName)) ∈ bn_all := bn_t4 (i := 239) rfl rfl
theorem k_960 : (Jvm.Cond.code ({ cls := "BridgeNetModel", name := "learned", desc := "(III)I" } : Jvm.MethodName) prog_10_method_42_code (5 : Nat) (Option.some Jvm.ClassFile.FieldType.int)) ∈ bn_all := bn_t5 (i := 0) rfl rfl
theorem k_961 : (Jvm.Cond.methodLink "BridgeNetLaw" (96 : Nat) ({ cls := "BridgeNetModel", name := "inbox", desc := "(II)J" } : Jvm.MethodName)) ∈ bn_all := bn_t5 (i := 1) rfl rfl
theorem k_962 : (Jvm.Cond.instanceMethod ({ cls := "BridgeNetModel", name := "inbox", desc := "(II)J" } : Jvm.MethodName)) ∈ bn_all := bn_t5 (i := 2) rfl rfl
theorem k_963 : (Jvm.Cond.selects "BridgeNetModel" ({ cls := "BridgeNetModel", name := "inbox", desc := "(II)J" } : Jvm.MethodName) ({ cls := "BridgeNetModel", name := "inbox", desc := "(II)J" } : Jvm.MethodName)) ∈ bn_all := bn_t5 (i := 3) rfl rfl
theorem k_964 : (Jvm.Cond.code ({ cls := "BridgeNetModel", name := "inbox", desc := "(II)J" } : Jvm.MethodName) prog_10_method_43_code (3 : Nat) (Option.some Jvm.ClassFile.FieldType.long)) ∈ bn_all := bn_t5 (i := 4) rfl rfl
theorem k_965 : (Jvm.Cond.methodLink "BridgeNetLaw" (100 : Nat) ({ cls := "BridgeNetModel", name := "line", desc := "(II)I" } : Jvm.MethodName)) ∈ bn_all := bn_t5 (i := 5) rfl rfl
theorem k_966 : (Jvm.Cond.instanceMethod ({ cls := "BridgeNetModel", name := "line", desc := "(II)I" } : Jvm.MethodName)) ∈ bn_all := bn_t5 (i := 6) rfl rfl
theorem k_967 : (Jvm.Cond.selects "BridgeNetModel" ({ cls := "BridgeNetModel", name := "line", desc := "(II)I" } : Jvm.MethodName) ({ cls := "BridgeNetModel", name := "line", desc := "(II)I" } : Jvm.MethodName)) ∈ bn_all := bn_t5 (i := 7) rfl rfl
theorem k_968 : (Jvm.Cond.code ({ cls := "BridgeNetModel", name := "line", desc := "(II)I" } : Jvm.MethodName) prog_10_method_44_code (3 : Nat) (Option.some Jvm.ClassFile.FieldType.int)) ∈ bn_all := bn_t5 (i := 8) rfl rfl
theorem k_969 : (Jvm.Cond.methodLink "BridgeNetLaw" (105 : Nat) ({ cls := "BridgeNetModel", name := "message", desc := "(III)J" } : Jvm.MethodName)) ∈ bn_all := bn_t5 (i := 9) rfl rfl
theorem k_970 : (Jvm.Cond.instanceMethod ({ cls := "BridgeNetModel", name := "message", desc := "(III)J" } : Jvm.MethodName)) ∈ bn_all := bn_t5 (i := 10) rfl rfl
theorem k_971 : (Jvm.Cond.selects "BridgeNetModel" ({ cls := "BridgeNetModel", name := "message", desc := "(III)J" } : Jvm.MethodName) ({ cls := "BridgeNetModel", name := "message", desc := "(III)J" } : Jvm.MethodName)) ∈ bn_all := bn_t5 (i := 11) rfl rfl
theorem k_972 : (Jvm.Cond.code ({ cls := "BridgeNetModel", name := "message", desc := "(III)J" } : Jvm.MethodName) prog_10_method_45_code (5 : Nat) (Option.some Jvm.ClassFile.FieldType.long)) ∈ bn_all := bn_t5 (i := 12) rfl rfl
theorem k_973 : (Jvm.Cond.constantLong "BridgeNetModel" (213 : Nat) (3 : Int64)) ∈ bn_all := bn_t5 (i := 13) rfl rfl
theorem k_974 : (Jvm.Cond.constantLong "BridgeNetModel" (215 : Nat) (16 : Int64)) ∈ bn_all := bn_t5 (i := 14) rfl rfl
