/-! names: classes and methods: written by wip/whole/emit_names.py -/
abbrev R_Ne : String := "BridgeNet"
def T_Ne : u_T := fun k => match k with
  | 0 => ("BridgeNet", "bridges", "[LBridgeNet$Bridge;", true)
  | 1 => ("BridgeNet", "stations", "[LBridgeNet$Station;", true)
  | _ => ("BridgeNet", "tellsAtNextTick", "Z", false)
def t_Ne : Nat → FieldType := fun k => match k with
  | 0 => .array (.object "BridgeNet$Bridge")
  | 1 => .array (.object "BridgeNet$Station")
  | _ => .boolean
theorem n_Ne : ∀ a, a < 3 → ∀ b, b < 3 → a ≠ b → (T_Ne a).2.1 ≠ (T_Ne b).2.1 := by decide +kernel
theorem t_Ne_ok : ∀ k, k < 3 → parseFieldDescriptor (T_Ne k).2.2.1 = some (t_Ne k) := by decide +kernel
theorem i_Ne : ∀ w ∈ u_ws R_Ne T_Ne 3, w ∈ bn_all := List.forall_mem_cons.mpr ⟨k_222, List.forall_mem_cons.mpr ⟨k_224, List.forall_mem_cons.mpr ⟨k_226, fun _ h => absurd h List.not_mem_nil⟩⟩⟩
abbrev R_Br : String := "BridgeNet$Bridge"
def T_Br : u_T := fun k => match k with
  | 0 => ("BridgeNet$Bridge", "number", "I", true)
  | 1 => ("BridgeNet$Bridge", "id", "I", false)
  | 2 => ("BridgeNet$Bridge", "ports", "[LBridgeNet$Port;", true)
  | 3 => ("BridgeNet$Bridge", "root", "I", false)
  | 4 => ("BridgeNet$Bridge", "cost", "I", false)
  | 5 => ("BridgeNet$Bridge", "hops", "I", false)
  | 6 => ("BridgeNet$Bridge", "rootPort", "LBridgeNet$Port;", false)
  | 7 => ("BridgeNet$Bridge", "places", "[I", true)
  | _ => ("BridgeNet$Bridge", "placeLives", "[I", true)
def t_Br : Nat → FieldType := fun k => match k with
  | 0 => .int
  | 1 => .int
  | 2 => .array (.object "BridgeNet$Port")
  | 3 => .int
  | 4 => .int
  | 5 => .int
  | 6 => .object "BridgeNet$Port"
  | 7 => .array .int
  | _ => .array .int
theorem n_Br : ∀ a, a < 9 → ∀ b, b < 9 → a ≠ b → (T_Br a).2.1 ≠ (T_Br b).2.1 := by decide +kernel
theorem t_Br_ok : ∀ k, k < 9 → parseFieldDescriptor (T_Br k).2.2.1 = some (t_Br k) := by decide +kernel
theorem i_Br : ∀ w ∈ u_ws R_Br T_Br 9, w ∈ bn_all := List.forall_mem_cons.mpr ⟨k_46, List.forall_mem_cons.mpr ⟨k_48, List.forall_mem_cons.mpr ⟨k_50, List.forall_mem_cons.mpr ⟨k_52, List.forall_mem_cons.mpr ⟨k_54, List.forall_mem_cons.mpr ⟨k_56, List.forall_mem_cons.mpr ⟨k_58, List.forall_mem_cons.mpr ⟨k_60, List.forall_mem_cons.mpr ⟨k_62, fun _ h => absurd h List.not_mem_nil⟩⟩⟩⟩⟩⟩⟩⟩⟩
abbrev R_Po : String := "BridgeNet$Port"
def T_Po : u_T := fun k => match k with
  | 0 => ("BridgeNet$Port", "owner", "LBridgeNet$Bridge;", true)
  | 1 => ("BridgeNet$Port", "number", "I", true)
  | 2 => ("BridgeNet$Port", "line", "LBridgeNet$Line;", true)
  | 3 => ("BridgeNet$Port", "cost", "I", false)
  | 4 => ("BridgeNet$Port", "vlans", "I", false)
  | 5 => ("BridgeNet$Port", "peer", "LBridgeNet$Port;", false)
  | 6 => ("BridgeNet$Port", "station", "LBridgeNet$Station;", false)
  | 7 => ("BridgeNet$Port", "hasInfo", "Z", false)
  | 8 => ("BridgeNet$Port", "info", "J", false)
  | 9 => ("BridgeNet$Port", "infoHops", "I", false)
  | 10 => ("BridgeNet$Port", "infoLife", "I", false)
  | 11 => ("BridgeNet$Port", "role", "I", false)
  | 12 => ("BridgeNet$Port", "state", "I", false)
  | 13 => ("BridgeNet$Port", "proposing", "Z", false)
  | 14 => ("BridgeNet$Port", "agreed", "Z", false)
  | _ => ("BridgeNet$Port", "waits", "I", false)
def t_Po : Nat → FieldType := fun k => match k with
  | 0 => .object "BridgeNet$Bridge"
  | 1 => .int
  | 2 => .object "BridgeNet$Line"
  | 3 => .int
  | 4 => .int
  | 5 => .object "BridgeNet$Port"
  | 6 => .object "BridgeNet$Station"
  | 7 => .boolean
  | 8 => .long
  | 9 => .int
  | 10 => .int
  | 11 => .int
  | 12 => .int
  | 13 => .boolean
  | 14 => .boolean
  | _ => .int
theorem n_Po : ∀ a, a < 16 → ∀ b, b < 16 → a ≠ b → (T_Po a).2.1 ≠ (T_Po b).2.1 := by decide +kernel
theorem t_Po_ok : ∀ k, k < 16 → parseFieldDescriptor (T_Po k).2.2.1 = some (t_Po k) := by decide +kernel
theorem i_Po : ∀ w ∈ u_ws R_Po T_Po 16, w ∈ bn_all := List.forall_mem_cons.mpr ⟨k_163, List.forall_mem_cons.mpr ⟨k_165, List.forall_mem_cons.mpr ⟨k_167, List.forall_mem_cons.mpr ⟨k_169, List.forall_mem_cons.mpr ⟨k_171, List.forall_mem_cons.mpr ⟨k_173, List.forall_mem_cons.mpr ⟨k_175, List.forall_mem_cons.mpr ⟨k_177, List.forall_mem_cons.mpr ⟨k_179, List.forall_mem_cons.mpr ⟨k_181, List.forall_mem_cons.mpr ⟨k_183, List.forall_mem_cons.mpr ⟨k_185, List.forall_mem_cons.mpr ⟨k_187, List.forall_mem_cons.mpr ⟨k_189, List.forall_mem_cons.mpr ⟨k_191, List.forall_mem_cons.mpr ⟨k_193, fun _ h => absurd h List.not_mem_nil⟩⟩⟩⟩⟩⟩⟩⟩⟩⟩⟩⟩⟩⟩⟩⟩
abbrev R_Li : String := "BridgeNet$Line"
def T_Li : u_T := fun k => match k with
  | 0 => ("BridgeNet$Line", "ring", "[LBridgeNet$Message;", true)
  | 1 => ("BridgeNet$Line", "first", "I", false)
  | _ => ("BridgeNet$Line", "count", "I", false)
def t_Li : Nat → FieldType := fun k => match k with
  | 0 => .array (.object "BridgeNet$Message")
  | 1 => .int
  | _ => .int
theorem n_Li : ∀ a, a < 3 → ∀ b, b < 3 → a ≠ b → (T_Li a).2.1 ≠ (T_Li b).2.1 := by decide +kernel
theorem t_Li_ok : ∀ k, k < 3 → parseFieldDescriptor (T_Li k).2.2.1 = some (t_Li k) := by decide +kernel
theorem i_Li : ∀ w ∈ u_ws R_Li T_Li 3, w ∈ bn_all := List.forall_mem_cons.mpr ⟨k_123, List.forall_mem_cons.mpr ⟨k_125, List.forall_mem_cons.mpr ⟨k_127, fun _ h => absurd h List.not_mem_nil⟩⟩⟩
abbrev R_Ms : String := "BridgeNet$Message"
def T_Ms : u_T := fun k => match k with
  | 0 => ("BridgeNet$Message", "kind", "I", false)
  | 1 => ("BridgeNet$Message", "root", "I", false)
  | 2 => ("BridgeNet$Message", "vector", "J", false)
  | 3 => ("BridgeNet$Message", "hops", "I", false)
  | 4 => ("BridgeNet$Message", "proposing", "Z", false)
  | _ => ("BridgeNet$Message", "frame", "LBridgeNet$Frame;", false)
def t_Ms : Nat → FieldType := fun k => match k with
  | 0 => .int
  | 1 => .int
  | 2 => .long
  | 3 => .int
  | 4 => .boolean
  | _ => .object "BridgeNet$Frame"
theorem n_Ms : ∀ a, a < 6 → ∀ b, b < 6 → a ≠ b → (T_Ms a).2.1 ≠ (T_Ms b).2.1 := by decide +kernel
theorem t_Ms_ok : ∀ k, k < 6 → parseFieldDescriptor (T_Ms k).2.2.1 = some (t_Ms k) := by decide +kernel
theorem i_Ms : ∀ w ∈ u_ws R_Ms T_Ms 6, w ∈ bn_all := List.forall_mem_cons.mpr ⟨k_106, List.forall_mem_cons.mpr ⟨k_108, List.forall_mem_cons.mpr ⟨k_110, List.forall_mem_cons.mpr ⟨k_112, List.forall_mem_cons.mpr ⟨k_114, List.forall_mem_cons.mpr ⟨k_116, fun _ h => absurd h List.not_mem_nil⟩⟩⟩⟩⟩⟩
abbrev R_St : String := "BridgeNet$Station"
def T_St : u_T := fun k => match k with
  | 0 => ("BridgeNet$Station", "place", "LBridgeNet$Port;", false)
  | 1 => ("BridgeNet$Station", "vlan", "I", false)
  | 2 => ("BridgeNet$Station", "inbox", "[J", true)
  | _ => ("BridgeNet$Station", "count", "I", false)
def t_St : Nat → FieldType := fun k => match k with
  | 0 => .object "BridgeNet$Port"
  | 1 => .int
  | 2 => .array .long
  | _ => .int
theorem n_St : ∀ a, a < 4 → ∀ b, b < 4 → a ≠ b → (T_St a).2.1 ≠ (T_St b).2.1 := by decide +kernel
theorem t_St_ok : ∀ k, k < 4 → parseFieldDescriptor (T_St k).2.2.1 = some (t_St k) := by decide +kernel
theorem i_St : ∀ w ∈ u_ws R_St T_St 4, w ∈ bn_all := List.forall_mem_cons.mpr ⟨k_209, List.forall_mem_cons.mpr ⟨k_211, List.forall_mem_cons.mpr ⟨k_213, List.forall_mem_cons.mpr ⟨k_215, fun _ h => absurd h List.not_mem_nil⟩⟩⟩⟩
abbrev R_Fr : String := "BridgeNet$Frame"
def T_Fr : u_T := fun k => match k with
  | 0 => ("BridgeNet$Frame", "source", "I", true)
  | 1 => ("BridgeNet$Frame", "destination", "I", true)
  | 2 => ("BridgeNet$Frame", "vlan", "I", true)
  | _ => ("BridgeNet$Frame", "value", "I", true)
def t_Fr : Nat → FieldType := fun k => match k with
  | 0 => .int
  | 1 => .int
  | 2 => .int
  | _ => .int
theorem n_Fr : ∀ a, a < 4 → ∀ b, b < 4 → a ≠ b → (T_Fr a).2.1 ≠ (T_Fr b).2.1 := by decide +kernel
theorem t_Fr_ok : ∀ k, k < 4 → parseFieldDescriptor (T_Fr k).2.2.1 = some (t_Fr k) := by decide +kernel
theorem i_Fr : ∀ w ∈ u_ws R_Fr T_Fr 4, w ∈ bn_all := List.forall_mem_cons.mpr ⟨k_603, List.forall_mem_cons.mpr ⟨k_605, List.forall_mem_cons.mpr ⟨k_607, List.forall_mem_cons.mpr ⟨k_609, fun _ h => absurd h List.not_mem_nil⟩⟩⟩⟩
abbrev R_Mo : String := "BridgeNetModel"
def T_Mo : u_T := fun k => match k with
  | 0 => ("BridgeNetModel", "thrown", "I", false)
  | 1 => ("BridgeNetModel", "ticks", "I", false)
  | 2 => ("BridgeNetModel", "priority", "[I", true)
  | 3 => ("BridgeNetModel", "cost", "[I", true)
  | 4 => ("BridgeNetModel", "vlans", "[I", true)
  | 5 => ("BridgeNetModel", "joined", "[I", true)
  | 6 => ("BridgeNetModel", "role", "[I", true)
  | 7 => ("BridgeNetModel", "state", "[I", true)
  | 8 => ("BridgeNetModel", "proposing", "[Z", true)
  | 9 => ("BridgeNetModel", "agreed", "[Z", true)
  | 10 => ("BridgeNetModel", "waits", "[I", true)
  | 11 => ("BridgeNetModel", "info", "[J", true)
  | 12 => ("BridgeNetModel", "infoHops", "[I", true)
  | 13 => ("BridgeNetModel", "life", "[I", true)
  | 14 => ("BridgeNetModel", "lines", "[I", true)
  | 15 => ("BridgeNetModel", "kind", "[I", true)
  | 16 => ("BridgeNetModel", "told", "[J", true)
  | 17 => ("BridgeNetModel", "hop", "[I", true)
  | 18 => ("BridgeNetModel", "asks", "[Z", true)
  | 19 => ("BridgeNetModel", "source", "[I", true)
  | 20 => ("BridgeNetModel", "destination", "[I", true)
  | 21 => ("BridgeNetModel", "vlan", "[I", true)
  | 22 => ("BridgeNetModel", "value", "[I", true)
  | 23 => ("BridgeNetModel", "best", "[J", true)
  | 24 => ("BridgeNetModel", "hops", "[I", true)
  | 25 => ("BridgeNetModel", "rootPort", "[I", true)
  | 26 => ("BridgeNetModel", "known", "[I", true)
  | 27 => ("BridgeNetModel", "behind", "[I", true)
  | 28 => ("BridgeNetModel", "at", "[I", true)
  | 29 => ("BridgeNetModel", "in", "[I", true)
  | 30 => ("BridgeNetModel", "got", "[I", true)
  | _ => ("BridgeNetModel", "inbox", "[J", true)
def t_Mo : Nat → FieldType := fun k => match k with
  | 0 => .int
  | 1 => .int
  | 2 => .array .int
  | 3 => .array .int
  | 4 => .array .int
  | 5 => .array .int
  | 6 => .array .int
  | 7 => .array .int
  | 8 => .array .boolean
  | 9 => .array .boolean
  | 10 => .array .int
  | 11 => .array .long
  | 12 => .array .int
  | 13 => .array .int
  | 14 => .array .int
  | 15 => .array .int
  | 16 => .array .long
  | 17 => .array .int
  | 18 => .array .boolean
  | 19 => .array .int
  | 20 => .array .int
  | 21 => .array .int
  | 22 => .array .int
  | 23 => .array .long
  | 24 => .array .int
  | 25 => .array .int
  | 26 => .array .int
  | 27 => .array .int
  | 28 => .array .int
  | 29 => .array .int
  | 30 => .array .int
  | _ => .array .long
theorem n_Mo : ∀ a, a < 32 → ∀ b, b < 32 → a ≠ b → (T_Mo a).2.1 ≠ (T_Mo b).2.1 := by decide +kernel
theorem t_Mo_ok : ∀ k, k < 32 → parseFieldDescriptor (T_Mo k).2.2.1 = some (t_Mo k) := by decide +kernel
theorem i_Mo : ∀ w ∈ u_ws R_Mo T_Mo 32, w ∈ bn_all := List.forall_mem_cons.mpr ⟨k_733, List.forall_mem_cons.mpr ⟨k_735, List.forall_mem_cons.mpr ⟨k_737, List.forall_mem_cons.mpr ⟨k_739, List.forall_mem_cons.mpr ⟨k_741, List.forall_mem_cons.mpr ⟨k_743, List.forall_mem_cons.mpr ⟨k_745, List.forall_mem_cons.mpr ⟨k_747, List.forall_mem_cons.mpr ⟨k_749, List.forall_mem_cons.mpr ⟨k_751, List.forall_mem_cons.mpr ⟨k_753, List.forall_mem_cons.mpr ⟨k_755, List.forall_mem_cons.mpr ⟨k_757, List.forall_mem_cons.mpr ⟨k_759, List.forall_mem_cons.mpr ⟨k_761, List.forall_mem_cons.mpr ⟨k_763, List.forall_mem_cons.mpr ⟨k_765, List.forall_mem_cons.mpr ⟨k_767, List.forall_mem_cons.mpr ⟨k_769, List.forall_mem_cons.mpr ⟨k_771, List.forall_mem_cons.mpr ⟨k_773, List.forall_mem_cons.mpr ⟨k_775, List.forall_mem_cons.mpr ⟨k_777, List.forall_mem_cons.mpr ⟨k_779, List.forall_mem_cons.mpr ⟨k_781, List.forall_mem_cons.mpr ⟨k_783, List.forall_mem_cons.mpr ⟨k_785, List.forall_mem_cons.mpr ⟨k_787, List.forall_mem_cons.mpr ⟨k_789, List.forall_mem_cons.mpr ⟨k_791, List.forall_mem_cons.mpr ⟨k_793, List.forall_mem_cons.mpr ⟨k_795, fun _ h => absurd h List.not_mem_nil⟩⟩⟩⟩⟩⟩⟩⟩⟩⟩⟩⟩⟩⟩⟩⟩⟩⟩⟩⟩⟩⟩⟩⟩⟩⟩⟩⟩⟩⟩⟩⟩
abbrev bn_cl : List vw_C := [(R_Ne, T_Ne, 3), (R_Br, T_Br, 9), (R_Po, T_Po, 16), (R_Li, T_Li, 3), (R_Ms, T_Ms, 6), (R_St, T_St, 4), (R_Fr, T_Fr, 4), (R_Mo, T_Mo, 32)]
abbrev y_Ne_init : MethodName := { cls := "BridgeNet", name := "<init>", desc := "()V" }
abbrev b_Ne_init : ByteArray := prog_1_method_1_code
abbrev w_Ne_init : List Cond := Jvm.Cond.code y_Ne_init b_Ne_init 2 (Option.none : Option Jvm.ClassFile.FieldType) :: bn_all
abbrev y_Br_init : MethodName := { cls := "BridgeNet$Bridge", name := "<init>", desc := "(I)V" }
abbrev b_Br_init : ByteArray := prog_2_method_1_code
abbrev w_Br_init : List Cond := Jvm.Cond.code y_Br_init b_Br_init 2 (Option.none : Option Jvm.ClassFile.FieldType) :: bn_all
abbrev y_Br_addPorts : MethodName := { cls := "BridgeNet$Bridge", name := "addPorts", desc := "()V" }
abbrev b_Br_addPorts : ByteArray := prog_2_method_2_code
abbrev w_Br_addPorts : List Cond := Jvm.Cond.code y_Br_addPorts b_Br_addPorts 2 (Option.none : Option Jvm.ClassFile.FieldType) :: bn_all
abbrev y_Po_init : MethodName := { cls := "BridgeNet$Port", name := "<init>", desc := "(LBridgeNet$Bridge;I)V" }
abbrev b_Po_init : ByteArray := prog_6_method_1_code
abbrev w_Po_init : List Cond := Jvm.Cond.code y_Po_init b_Po_init 3 (Option.none : Option Jvm.ClassFile.FieldType) :: bn_all
abbrev y_Li_init : MethodName := { cls := "BridgeNet$Line", name := "<init>", desc := "()V" }
abbrev b_Li_init : ByteArray := prog_4_method_1_code
abbrev w_Li_init : List Cond := Jvm.Cond.code y_Li_init b_Li_init 2 (Option.none : Option Jvm.ClassFile.FieldType) :: bn_all
abbrev y_Ms_init : MethodName := { cls := "BridgeNet$Message", name := "<init>", desc := "()V" }
abbrev b_Ms_init : ByteArray := prog_5_method_1_code
abbrev w_Ms_init : List Cond := Jvm.Cond.code y_Ms_init b_Ms_init 1 (Option.none : Option Jvm.ClassFile.FieldType) :: bn_all
abbrev y_St_init : MethodName := { cls := "BridgeNet$Station", name := "<init>", desc := "()V" }
abbrev b_St_init : ByteArray := prog_7_method_1_code
abbrev w_St_init : List Cond := Jvm.Cond.code y_St_init b_St_init 1 (Option.none : Option Jvm.ClassFile.FieldType) :: bn_all
abbrev y_Ne_priority : MethodName := { cls := "BridgeNet", name := "priority", desc := "(II)Z" }
abbrev b_Ne_priority : ByteArray := prog_1_method_2_code
abbrev w_Ne_priority : List Cond := Jvm.Cond.code y_Ne_priority b_Ne_priority 3 (Option.some Jvm.ClassFile.FieldType.boolean) :: bn_all
abbrev y_Ne_isBridge : MethodName := { cls := "BridgeNet", name := "isBridge", desc := "(I)Z" }
abbrev b_Ne_isBridge : ByteArray := prog_1_method_18_code
abbrev w_Ne_isBridge : List Cond := Jvm.Cond.code y_Ne_isBridge b_Ne_isBridge 1 (Option.some Jvm.ClassFile.FieldType.boolean) :: bn_all
abbrev y_Br_isUnused : MethodName := { cls := "BridgeNet$Bridge", name := "isUnused", desc := "()Z" }
abbrev b_Br_isUnused : ByteArray := prog_2_method_3_code
abbrev w_Br_isUnused : List Cond := Jvm.Cond.code y_Br_isUnused b_Br_isUnused 5 (Option.some Jvm.ClassFile.FieldType.boolean) :: bn_all
abbrev y_Po_isFree : MethodName := { cls := "BridgeNet$Port", name := "isFree", desc := "()Z" }
abbrev b_Po_isFree : ByteArray := prog_6_method_2_code
abbrev w_Po_isFree : List Cond := Jvm.Cond.code y_Po_isFree b_Po_isFree 1 (Option.some Jvm.ClassFile.FieldType.boolean) :: bn_all
abbrev y_Br_rank : MethodName := { cls := "BridgeNet$Bridge", name := "rank", desc := "(I)V" }
abbrev b_Br_rank : ByteArray := prog_2_method_4_code
abbrev w_Br_rank : List Cond := Jvm.Cond.code y_Br_rank b_Br_rank 2 (Option.none : Option Jvm.ClassFile.FieldType) :: bn_all
abbrev y_Br_compute : MethodName := { cls := "BridgeNet$Bridge", name := "compute", desc := "()V" }
abbrev b_Br_compute : ByteArray := prog_2_method_6_code
abbrev w_Br_compute : List Cond := Jvm.Cond.code y_Br_compute b_Br_compute 5 (Option.none : Option Jvm.ClassFile.FieldType) :: bn_all
abbrev y_Br_chooseRoot : MethodName := { cls := "BridgeNet$Bridge", name := "chooseRoot", desc := "()V" }
abbrev b_Br_chooseRoot : ByteArray := prog_2_method_7_code
abbrev w_Br_chooseRoot : List Cond := Jvm.Cond.code y_Br_chooseRoot b_Br_chooseRoot 9 (Option.none : Option Jvm.ClassFile.FieldType) :: bn_all
abbrev y_Ve_of : MethodName := { cls := "BridgeNet$Vector", name := "of", desc := "(IIII)J" }
abbrev b_Ve_of : ByteArray := prog_8_method_2_code
abbrev w_Ve_of : List Cond := Jvm.Cond.code y_Ve_of b_Ve_of 4 (Option.some Jvm.ClassFile.FieldType.long) :: bn_all
abbrev y_Ve_bridgeOf : MethodName := { cls := "BridgeNet$Vector", name := "bridgeOf", desc := "(J)I" }
abbrev b_Ve_bridgeOf : ByteArray := prog_8_method_6_code
abbrev w_Ve_bridgeOf : List Cond := Jvm.Cond.code y_Ve_bridgeOf b_Ve_bridgeOf 2 (Option.some Jvm.ClassFile.FieldType.int) :: bn_all
abbrev y_Ve_farther : MethodName := { cls := "BridgeNet$Vector", name := "farther", desc := "(JI)J" }
abbrev b_Ve_farther : ByteArray := prog_8_method_3_code
abbrev w_Ve_farther : List Cond := Jvm.Cond.code y_Ve_farther b_Ve_farther 3 (Option.some Jvm.ClassFile.FieldType.long) :: bn_all
abbrev y_Po_hopsThrough : MethodName := { cls := "BridgeNet$Port", name := "hopsThrough", desc := "()I" }
abbrev b_Po_hopsThrough : ByteArray := prog_6_method_5_code
abbrev w_Po_hopsThrough : List Cond := Jvm.Cond.code y_Po_hopsThrough b_Po_hopsThrough 1 (Option.some Jvm.ClassFile.FieldType.int) :: bn_all
abbrev y_Ve_rootOf : MethodName := { cls := "BridgeNet$Vector", name := "rootOf", desc := "(J)I" }
abbrev b_Ve_rootOf : ByteArray := prog_8_method_4_code
abbrev w_Ve_rootOf : List Cond := Jvm.Cond.code y_Ve_rootOf b_Ve_rootOf 2 (Option.some Jvm.ClassFile.FieldType.int) :: bn_all
abbrev y_Ve_costOf : MethodName := { cls := "BridgeNet$Vector", name := "costOf", desc := "(J)I" }
abbrev b_Ve_costOf : ByteArray := prog_8_method_5_code
abbrev w_Ve_costOf : List Cond := Jvm.Cond.code y_Ve_costOf b_Ve_costOf 2 (Option.some Jvm.ClassFile.FieldType.int) :: bn_all
abbrev y_Br_giveRoles : MethodName := { cls := "BridgeNet$Bridge", name := "giveRoles", desc := "()Z" }
abbrev b_Br_giveRoles : ByteArray := prog_2_method_8_code
abbrev w_Br_giveRoles : List Cond := Jvm.Cond.code y_Br_giveRoles b_Br_giveRoles 7 (Option.some Jvm.ClassFile.FieldType.boolean) :: bn_all
abbrev y_Br_dueRole : MethodName := { cls := "BridgeNet$Bridge", name := "dueRole", desc := "(LBridgeNet$Port;)I" }
abbrev b_Br_dueRole : ByteArray := prog_2_method_9_code
abbrev w_Br_dueRole : List Cond := Jvm.Cond.code y_Br_dueRole b_Br_dueRole 2 (Option.some Jvm.ClassFile.FieldType.int) :: bn_all
abbrev y_Br_ownVector : MethodName := { cls := "BridgeNet$Bridge", name := "ownVector", desc := "(LBridgeNet$Port;)J" }
abbrev b_Br_ownVector : ByteArray := prog_2_method_10_code
abbrev w_Br_ownVector : List Cond := Jvm.Cond.code y_Br_ownVector b_Br_ownVector 2 (Option.some Jvm.ClassFile.FieldType.long) :: bn_all
abbrev y_Po_become : MethodName := { cls := "BridgeNet$Port", name := "become", desc := "(I)V" }
abbrev b_Po_become : ByteArray := prog_6_method_7_code
abbrev w_Po_become : List Cond := Jvm.Cond.code y_Po_become b_Po_become 2 (Option.none : Option Jvm.ClassFile.FieldType) :: bn_all
abbrev y_Po_propose : MethodName := { cls := "BridgeNet$Port", name := "propose", desc := "()V" }
abbrev b_Po_propose : ByteArray := prog_6_method_8_code
abbrev w_Po_propose : List Cond := Jvm.Cond.code y_Po_propose b_Po_propose 1 (Option.none : Option Jvm.ClassFile.FieldType) :: bn_all
abbrev y_Br_tellOnAll : MethodName := { cls := "BridgeNet$Bridge", name := "tellOnAll", desc := "()V" }
abbrev b_Br_tellOnAll : ByteArray := prog_2_method_11_code
abbrev w_Br_tellOnAll : List Cond := Jvm.Cond.code y_Br_tellOnAll b_Br_tellOnAll 5 (Option.none : Option Jvm.ClassFile.FieldType) :: bn_all
abbrev y_Po_isLinkedDesignated : MethodName := { cls := "BridgeNet$Port", name := "isLinkedDesignated", desc := "()Z" }
abbrev b_Po_isLinkedDesignated : ByteArray := prog_6_method_3_code
abbrev w_Po_isLinkedDesignated : List Cond := Jvm.Cond.code y_Po_isLinkedDesignated b_Po_isLinkedDesignated 1 (Option.some Jvm.ClassFile.FieldType.boolean) :: bn_all
abbrev y_Br_tellOn : MethodName := { cls := "BridgeNet$Bridge", name := "tellOn", desc := "(LBridgeNet$Port;)V" }
abbrev b_Br_tellOn : ByteArray := prog_2_method_12_code
abbrev w_Br_tellOn : List Cond := Jvm.Cond.code y_Br_tellOn b_Br_tellOn 2 (Option.none : Option Jvm.ClassFile.FieldType) :: bn_all
abbrev y_Li_putTell : MethodName := { cls := "BridgeNet$Line", name := "putTell", desc := "(JIZ)V" }
abbrev b_Li_putTell : ByteArray := prog_4_method_5_code
abbrev w_Li_putTell : List Cond := Jvm.Cond.code y_Li_putTell b_Li_putTell 6 (Option.none : Option Jvm.ClassFile.FieldType) :: bn_all
abbrev y_Li_put : MethodName := { cls := "BridgeNet$Line", name := "put", desc := "(IILBridgeNet$Frame;)LBridgeNet$Message;" }
abbrev b_Li_put : ByteArray := prog_4_method_8_code
abbrev w_Li_put : List Cond := Jvm.Cond.code y_Li_put b_Li_put 5 (Option.some (Jvm.ClassFile.FieldType.object "BridgeNet$Message")) :: bn_all
abbrev y_Ne_set : MethodName := { cls := "BridgeNet", name := "set", desc := "(IIII)Z" }
abbrev b_Ne_set : ByteArray := prog_1_method_3_code
abbrev w_Ne_set : List Cond := Jvm.Cond.code y_Ne_set b_Ne_set 6 (Option.some Jvm.ClassFile.FieldType.boolean) :: bn_all
abbrev y_Ne_findPort : MethodName := { cls := "BridgeNet", name := "findPort", desc := "(II)LBridgeNet$Port;" }
abbrev b_Ne_findPort : ByteArray := prog_1_method_20_code
abbrev w_Ne_findPort : List Cond := Jvm.Cond.code y_Ne_findPort b_Ne_findPort 3 (Option.some (Jvm.ClassFile.FieldType.object "BridgeNet$Port")) :: bn_all
abbrev y_Ne_link : MethodName := { cls := "BridgeNet", name := "link", desc := "(IIII)Z" }
abbrev b_Ne_link : ByteArray := prog_1_method_4_code
abbrev w_Ne_link : List Cond := Jvm.Cond.code y_Ne_link b_Ne_link 7 (Option.some Jvm.ClassFile.FieldType.boolean) :: bn_all
abbrev y_Po_join : MethodName := { cls := "BridgeNet$Port", name := "join", desc := "(LBridgeNet$Port;LBridgeNet$Station;)V" }
abbrev b_Po_join : ByteArray := prog_6_method_6_code
abbrev w_Po_join : List Cond := Jvm.Cond.code y_Po_join b_Po_join 3 (Option.none : Option Jvm.ClassFile.FieldType) :: bn_all
abbrev y_Li_empty : MethodName := { cls := "BridgeNet$Line", name := "empty", desc := "()V" }
abbrev b_Li_empty : ByteArray := prog_4_method_2_code
abbrev w_Li_empty : List Cond := Jvm.Cond.code y_Li_empty b_Li_empty 1 (Option.none : Option Jvm.ClassFile.FieldType) :: bn_all
abbrev y_Br_forgetBehind : MethodName := { cls := "BridgeNet$Bridge", name := "forgetBehind", desc := "(I)V" }
abbrev b_Br_forgetBehind : ByteArray := prog_2_method_23_code
abbrev w_Br_forgetBehind : List Cond := Jvm.Cond.code y_Br_forgetBehind b_Br_forgetBehind 3 (Option.none : Option Jvm.ClassFile.FieldType) :: bn_all
abbrev y_Ne_cut : MethodName := { cls := "BridgeNet", name := "cut", desc := "(II)Z" }
abbrev b_Ne_cut : ByteArray := prog_1_method_5_code
abbrev w_Ne_cut : List Cond := Jvm.Cond.code y_Ne_cut b_Ne_cut 5 (Option.some Jvm.ClassFile.FieldType.boolean) :: bn_all
abbrev y_Ne_lose : MethodName := { cls := "BridgeNet", name := "lose", desc := "(II)Z" }
abbrev b_Ne_lose : ByteArray := prog_1_method_9_code
abbrev w_Ne_lose : List Cond := Jvm.Cond.code y_Ne_lose b_Ne_lose 4 (Option.some Jvm.ClassFile.FieldType.boolean) :: bn_all
abbrev y_Li_takeFirst : MethodName := { cls := "BridgeNet$Line", name := "takeFirst", desc := "()LBridgeNet$Message;" }
abbrev b_Li_takeFirst : ByteArray := prog_4_method_4_code
abbrev w_Li_takeFirst : List Cond := Jvm.Cond.code y_Li_takeFirst b_Li_takeFirst 2 (Option.some (Jvm.ClassFile.FieldType.object "BridgeNet$Message")) :: bn_all
abbrev y_Ne_tick : MethodName := { cls := "BridgeNet", name := "tick", desc := "()V" }
abbrev b_Ne_tick : ByteArray := prog_1_method_10_code
abbrev w_Ne_tick : List Cond := Jvm.Cond.code y_Ne_tick b_Ne_tick 2 (Option.none : Option Jvm.ClassFile.FieldType) :: bn_all
abbrev y_Br_age : MethodName := { cls := "BridgeNet$Bridge", name := "age", desc := "()V" }
abbrev b_Br_age : ByteArray := prog_2_method_24_code
abbrev w_Br_age : List Cond := Jvm.Cond.code y_Br_age b_Br_age 5 (Option.none : Option Jvm.ClassFile.FieldType) :: bn_all
abbrev y_Po_ageInfo : MethodName := { cls := "BridgeNet$Port", name := "ageInfo", desc := "()V" }
abbrev b_Po_ageInfo : ByteArray := prog_6_method_13_code
abbrev w_Po_ageInfo : List Cond := Jvm.Cond.code y_Po_ageInfo b_Po_ageInfo 1 (Option.none : Option Jvm.ClassFile.FieldType) :: bn_all
abbrev y_Po_ageWait : MethodName := { cls := "BridgeNet$Port", name := "ageWait", desc := "()V" }
abbrev b_Po_ageWait : ByteArray := prog_6_method_14_code
abbrev w_Po_ageWait : List Cond := Jvm.Cond.code y_Po_ageWait b_Po_ageWait 1 (Option.none : Option Jvm.ClassFile.FieldType) :: bn_all
abbrev y_Po_forward : MethodName := { cls := "BridgeNet$Port", name := "forward", desc := "()V" }
abbrev b_Po_forward : ByteArray := prog_6_method_9_code
abbrev w_Po_forward : List Cond := Jvm.Cond.code y_Po_forward b_Po_forward 1 (Option.none : Option Jvm.ClassFile.FieldType) :: bn_all
abbrev y_Ne_port : MethodName := { cls := "BridgeNet", name := "port", desc := "(II)I" }
abbrev b_Ne_port : ByteArray := prog_1_method_11_code
abbrev w_Ne_port : List Cond := Jvm.Cond.code y_Ne_port b_Ne_port 4 (Option.some Jvm.ClassFile.FieldType.int) :: bn_all
abbrev y_Po_summary : MethodName := { cls := "BridgeNet$Port", name := "summary", desc := "()I" }
abbrev b_Po_summary : ByteArray := prog_6_method_16_code
abbrev w_Po_summary : List Cond := Jvm.Cond.code y_Po_summary b_Po_summary 1 (Option.some Jvm.ClassFile.FieldType.int) :: bn_all
abbrev y_Ne_root : MethodName := { cls := "BridgeNet", name := "root", desc := "(I)J" }
abbrev b_Ne_root : ByteArray := prog_1_method_12_code
abbrev w_Ne_root : List Cond := Jvm.Cond.code y_Ne_root b_Ne_root 2 (Option.some Jvm.ClassFile.FieldType.long) :: bn_all
abbrev y_Br_summary : MethodName := { cls := "BridgeNet$Bridge", name := "summary", desc := "()J" }
abbrev b_Br_summary : ByteArray := prog_2_method_5_code
abbrev w_Br_summary : List Cond := Jvm.Cond.code y_Br_summary b_Br_summary 1 (Option.some Jvm.ClassFile.FieldType.long) :: bn_all
abbrev y_Ne_info : MethodName := { cls := "BridgeNet", name := "info", desc := "(II)J" }
abbrev b_Ne_info : ByteArray := prog_1_method_13_code
abbrev w_Ne_info : List Cond := Jvm.Cond.code y_Ne_info b_Ne_info 4 (Option.some Jvm.ClassFile.FieldType.long) :: bn_all
abbrev y_Po_infoSummary : MethodName := { cls := "BridgeNet$Port", name := "infoSummary", desc := "()J" }
abbrev b_Po_infoSummary : ByteArray := prog_6_method_17_code
abbrev w_Po_infoSummary : List Cond := Jvm.Cond.code y_Po_infoSummary b_Po_infoSummary 1 (Option.some Jvm.ClassFile.FieldType.long) :: bn_all
abbrev y_Ve_portOf : MethodName := { cls := "BridgeNet$Vector", name := "portOf", desc := "(J)I" }
abbrev b_Ve_portOf : ByteArray := prog_8_method_7_code
abbrev w_Ve_portOf : List Cond := Jvm.Cond.code y_Ve_portOf b_Ve_portOf 2 (Option.some Jvm.ClassFile.FieldType.int) :: bn_all
abbrev y_Ne_learned : MethodName := { cls := "BridgeNet", name := "learned", desc := "(III)I" }
abbrev b_Ne_learned : ByteArray := prog_1_method_14_code
abbrev w_Ne_learned : List Cond := Jvm.Cond.code y_Ne_learned b_Ne_learned 4 (Option.some Jvm.ClassFile.FieldType.int) :: bn_all
abbrev y_Ne_findStation : MethodName := { cls := "BridgeNet", name := "findStation", desc := "(I)LBridgeNet$Station;" }
abbrev b_Ne_findStation : ByteArray := prog_1_method_21_code
abbrev w_Ne_findStation : List Cond := Jvm.Cond.code y_Ne_findStation b_Ne_findStation 2 (Option.some (Jvm.ClassFile.FieldType.object "BridgeNet$Station")) :: bn_all
abbrev y_Ne_isVlan : MethodName := { cls := "BridgeNet", name := "isVlan", desc := "(I)Z" }
abbrev b_Ne_isVlan : ByteArray := prog_1_method_19_code
abbrev w_Ne_isVlan : List Cond := Jvm.Cond.code y_Ne_isVlan b_Ne_isVlan 1 (Option.some Jvm.ClassFile.FieldType.boolean) :: bn_all
abbrev y_Br_placeOf : MethodName := { cls := "BridgeNet$Bridge", name := "placeOf", desc := "(II)I" }
abbrev b_Br_placeOf : ByteArray := prog_2_method_22_code
abbrev w_Br_placeOf : List Cond := Jvm.Cond.code y_Br_placeOf b_Br_placeOf 4 (Option.some Jvm.ClassFile.FieldType.int) :: bn_all
abbrev y_Br_placeIndex : MethodName := { cls := "BridgeNet$Bridge", name := "placeIndex", desc := "(II)I" }
abbrev b_Br_placeIndex : ByteArray := prog_2_method_20_code
abbrev w_Br_placeIndex : List Cond := Jvm.Cond.code y_Br_placeIndex b_Br_placeIndex 2 (Option.some Jvm.ClassFile.FieldType.int) :: bn_all
abbrev y_Ne_inbox : MethodName := { cls := "BridgeNet", name := "inbox", desc := "(II)J" }
abbrev b_Ne_inbox : ByteArray := prog_1_method_15_code
abbrev w_Ne_inbox : List Cond := Jvm.Cond.code y_Ne_inbox b_Ne_inbox 4 (Option.some Jvm.ClassFile.FieldType.long) :: bn_all
abbrev y_St_kept : MethodName := { cls := "BridgeNet$Station", name := "kept", desc := "(I)J" }
abbrev b_St_kept : ByteArray := prog_7_method_5_code
abbrev w_St_kept : List Cond := Jvm.Cond.code y_St_kept b_St_kept 2 (Option.some Jvm.ClassFile.FieldType.long) :: bn_all
abbrev y_Ne_line : MethodName := { cls := "BridgeNet", name := "line", desc := "(II)I" }
abbrev b_Ne_line : ByteArray := prog_1_method_16_code
abbrev w_Ne_line : List Cond := Jvm.Cond.code y_Ne_line b_Ne_line 4 (Option.some Jvm.ClassFile.FieldType.int) :: bn_all
abbrev y_Ne_message : MethodName := { cls := "BridgeNet", name := "message", desc := "(III)J" }
abbrev b_Ne_message : ByteArray := prog_1_method_17_code
abbrev w_Ne_message : List Cond := Jvm.Cond.code y_Ne_message b_Ne_message 6 (Option.some Jvm.ClassFile.FieldType.long) :: bn_all
abbrev y_Li_at : MethodName := { cls := "BridgeNet$Line", name := "at", desc := "(I)LBridgeNet$Message;" }
abbrev b_Li_at : ByteArray := prog_4_method_3_code
abbrev w_Li_at : List Cond := Jvm.Cond.code y_Li_at b_Li_at 2 (Option.some (Jvm.ClassFile.FieldType.object "BridgeNet$Message")) :: bn_all
abbrev y_Ms_summary : MethodName := { cls := "BridgeNet$Message", name := "summary", desc := "()J" }
abbrev b_Ms_summary : ByteArray := prog_5_method_2_code
abbrev w_Ms_summary : List Cond := Jvm.Cond.code y_Ms_summary b_Ms_summary 1 (Option.some Jvm.ClassFile.FieldType.long) :: bn_all
abbrev y_La_attach : MethodName := { cls := "BridgeNetLaw", name := "attach", desc := "(LBridgeNet;IIII)I" }
abbrev b_La_attach : ByteArray := method_3_code
abbrev y_Ne_attach : MethodName := { cls := "BridgeNet", name := "attach", desc := "(IIII)V" }
abbrev b_Ne_attach : ByteArray := prog_1_method_6_code
abbrev w_Ne_attach : List Cond := Jvm.Cond.code y_Ne_attach b_Ne_attach 7 (Option.none : Option Jvm.ClassFile.FieldType) :: bn_all
abbrev y_St_leave : MethodName := { cls := "BridgeNet$Station", name := "leave", desc := "()V" }
abbrev b_St_leave : ByteArray := prog_7_method_2_code
abbrev w_St_leave : List Cond := Jvm.Cond.code y_St_leave b_St_leave 1 (Option.none : Option Jvm.ClassFile.FieldType) :: bn_all
abbrev y_St_settle : MethodName := { cls := "BridgeNet$Station", name := "settle", desc := "(LBridgeNet$Port;I)V" }
abbrev b_St_settle : ByteArray := prog_7_method_3_code
abbrev w_St_settle : List Cond := Jvm.Cond.code y_St_settle b_St_settle 3 (Option.none : Option Jvm.ClassFile.FieldType) :: bn_all
abbrev y_La_send : MethodName := { cls := "BridgeNetLaw", name := "send", desc := "(LBridgeNet;III[J)I" }
abbrev b_La_send : ByteArray := method_4_code
abbrev y_Ne_send : MethodName := { cls := "BridgeNet", name := "send", desc := "(III)I" }
abbrev b_Ne_send : ByteArray := prog_1_method_7_code
abbrev w_Ne_send : List Cond := Jvm.Cond.code y_Ne_send b_Ne_send 6 (Option.some Jvm.ClassFile.FieldType.int) :: bn_all
abbrev y_Fr_init : MethodName := { cls := "BridgeNet$Frame", name := "<init>", desc := "(IIII)V" }
abbrev b_Fr_init : ByteArray := prog_3_method_1_code
abbrev w_Fr_init : List Cond := Jvm.Cond.code y_Fr_init b_Fr_init 5 (Option.none : Option Jvm.ClassFile.FieldType) :: bn_all
abbrev y_Br_hearFrame : MethodName := { cls := "BridgeNet$Bridge", name := "hearFrame", desc := "(LBridgeNet$Port;LBridgeNet$Frame;)I" }
abbrev b_Br_hearFrame : ByteArray := prog_2_method_17_code
abbrev w_Br_hearFrame : List Cond := Jvm.Cond.code y_Br_hearFrame b_Br_hearFrame 4 (Option.some Jvm.ClassFile.FieldType.int) :: bn_all
abbrev y_Po_carries : MethodName := { cls := "BridgeNet$Port", name := "carries", desc := "(I)Z" }
abbrev b_Po_carries : ByteArray := prog_6_method_4_code
abbrev w_Po_carries : List Cond := Jvm.Cond.code y_Po_carries b_Po_carries 2 (Option.some Jvm.ClassFile.FieldType.boolean) :: bn_all
abbrev y_Br_learn : MethodName := { cls := "BridgeNet$Bridge", name := "learn", desc := "(III)V" }
abbrev b_Br_learn : ByteArray := prog_2_method_21_code
abbrev w_Br_learn : List Cond := Jvm.Cond.code y_Br_learn b_Br_learn 5 (Option.none : Option Jvm.ClassFile.FieldType) :: bn_all
abbrev y_Br_flood : MethodName := { cls := "BridgeNet$Bridge", name := "flood", desc := "(LBridgeNet$Port;LBridgeNet$Frame;)I" }
abbrev b_Br_flood : ByteArray := prog_2_method_19_code
abbrev w_Br_flood : List Cond := Jvm.Cond.code y_Br_flood b_Br_flood 8 (Option.some Jvm.ClassFile.FieldType.int) :: bn_all
abbrev y_Po_letOut : MethodName := { cls := "BridgeNet$Port", name := "letOut", desc := "(LBridgeNet$Frame;)Z" }
abbrev b_Po_letOut : ByteArray := prog_6_method_15_code
abbrev w_Po_letOut : List Cond := Jvm.Cond.code y_Po_letOut b_Po_letOut 2 (Option.some Jvm.ClassFile.FieldType.boolean) :: bn_all
abbrev y_Li_putFrame : MethodName := { cls := "BridgeNet$Line", name := "putFrame", desc := "(LBridgeNet$Frame;)V" }
abbrev b_Li_putFrame : ByteArray := prog_4_method_7_code
abbrev w_Li_putFrame : List Cond := Jvm.Cond.code y_Li_putFrame b_Li_putFrame 2 (Option.none : Option Jvm.ClassFile.FieldType) :: bn_all
abbrev y_St_keep : MethodName := { cls := "BridgeNet$Station", name := "keep", desc := "(LBridgeNet$Frame;)V" }
abbrev b_St_keep : ByteArray := prog_7_method_4_code
abbrev w_St_keep : List Cond := Jvm.Cond.code y_St_keep b_St_keep 2 (Option.none : Option Jvm.ClassFile.FieldType) :: bn_all
abbrev y_Fr_inboxEntry : MethodName := { cls := "BridgeNet$Frame", name := "inboxEntry", desc := "()J" }
abbrev b_Fr_inboxEntry : ByteArray := prog_3_method_2_code
abbrev w_Fr_inboxEntry : List Cond := Jvm.Cond.code y_Fr_inboxEntry b_Fr_inboxEntry 1 (Option.some Jvm.ClassFile.FieldType.long) :: bn_all
abbrev y_Br_passTo : MethodName := { cls := "BridgeNet$Bridge", name := "passTo", desc := "(ILBridgeNet$Port;LBridgeNet$Frame;)I" }
abbrev b_Br_passTo : ByteArray := prog_2_method_18_code
abbrev w_Br_passTo : List Cond := Jvm.Cond.code y_Br_passTo b_Br_passTo 4 (Option.some Jvm.ClassFile.FieldType.int) :: bn_all
abbrev y_La_deliver : MethodName := { cls := "BridgeNetLaw", name := "deliver", desc := "(LBridgeNet;II[J)I" }
abbrev b_La_deliver : ByteArray := method_5_code
abbrev y_Ne_deliver : MethodName := { cls := "BridgeNet", name := "deliver", desc := "(II)I" }
abbrev b_Ne_deliver : ByteArray := prog_1_method_8_code
abbrev w_Ne_deliver : List Cond := Jvm.Cond.code y_Ne_deliver b_Ne_deliver 5 (Option.some Jvm.ClassFile.FieldType.int) :: bn_all
abbrev y_Br_hearTell : MethodName := { cls := "BridgeNet$Bridge", name := "hearTell", desc := "(LBridgeNet$Port;LBridgeNet$Message;)V" }
abbrev b_Br_hearTell : ByteArray := prog_2_method_13_code
abbrev w_Br_hearTell : List Cond := Jvm.Cond.code y_Br_hearTell b_Br_hearTell 3 (Option.none : Option Jvm.ClassFile.FieldType) :: bn_all
abbrev y_Po_hold : MethodName := { cls := "BridgeNet$Port", name := "hold", desc := "(JI)V" }
abbrev b_Po_hold : ByteArray := prog_6_method_10_code
abbrev w_Po_hold : List Cond := Jvm.Cond.code y_Po_hold b_Po_hold 4 (Option.none : Option Jvm.ClassFile.FieldType) :: bn_all
abbrev y_Br_answerProposal : MethodName := { cls := "BridgeNet$Bridge", name := "answerProposal", desc := "(LBridgeNet$Port;)V" }
abbrev b_Br_answerProposal : ByteArray := prog_2_method_14_code
abbrev w_Br_answerProposal : List Cond := Jvm.Cond.code y_Br_answerProposal b_Br_answerProposal 2 (Option.none : Option Jvm.ClassFile.FieldType) :: bn_all
abbrev y_Br_proposeOnOthers : MethodName := { cls := "BridgeNet$Bridge", name := "proposeOnOthers", desc := "(LBridgeNet$Port;)V" }
abbrev b_Br_proposeOnOthers : ByteArray := prog_2_method_15_code
abbrev w_Br_proposeOnOthers : List Cond := Jvm.Cond.code y_Br_proposeOnOthers b_Br_proposeOnOthers 6 (Option.none : Option Jvm.ClassFile.FieldType) :: bn_all
abbrev y_Po_proposeUnlessAgreed : MethodName := { cls := "BridgeNet$Port", name := "proposeUnlessAgreed", desc := "()Z" }
abbrev b_Po_proposeUnlessAgreed : ByteArray := prog_6_method_11_code
abbrev w_Po_proposeUnlessAgreed : List Cond := Jvm.Cond.code y_Po_proposeUnlessAgreed b_Po_proposeUnlessAgreed 1 (Option.some Jvm.ClassFile.FieldType.boolean) :: bn_all
abbrev y_Li_putAgree : MethodName := { cls := "BridgeNet$Line", name := "putAgree", desc := "(I)V" }
abbrev b_Li_putAgree : ByteArray := prog_4_method_6_code
abbrev w_Li_putAgree : List Cond := Jvm.Cond.code y_Li_putAgree b_Li_putAgree 2 (Option.none : Option Jvm.ClassFile.FieldType) :: bn_all
abbrev y_Br_hearAgree : MethodName := { cls := "BridgeNet$Bridge", name := "hearAgree", desc := "(LBridgeNet$Port;I)V" }
abbrev b_Br_hearAgree : ByteArray := prog_2_method_16_code
abbrev w_Br_hearAgree : List Cond := Jvm.Cond.code y_Br_hearAgree b_Br_hearAgree 3 (Option.none : Option Jvm.ClassFile.FieldType) :: bn_all
abbrev y_Po_takeAgreement : MethodName := { cls := "BridgeNet$Port", name := "takeAgreement", desc := "()V" }
abbrev b_Po_takeAgreement : ByteArray := prog_6_method_12_code
abbrev w_Po_takeAgreement : List Cond := Jvm.Cond.code y_Po_takeAgreement b_Po_takeAgreement 1 (Option.none : Option Jvm.ClassFile.FieldType) :: bn_all
abbrev y_Mo_init : MethodName := { cls := "BridgeNetModel", name := "<init>", desc := "()V" }
abbrev b_Mo_init : ByteArray := prog_10_method_1_code
abbrev w_Mo_init : List Cond := Jvm.Cond.code y_Mo_init b_Mo_init 2 (Option.none : Option Jvm.ClassFile.FieldType) :: bn_all
abbrev y_Mo_vector : MethodName := { cls := "BridgeNetModel", name := "vector", desc := "(JJJJ)J" }
abbrev b_Mo_vector : ByteArray := prog_10_method_8_code
abbrev w_Mo_vector : List Cond := Jvm.Cond.code y_Mo_vector b_Mo_vector 8 (Option.some Jvm.ClassFile.FieldType.long) :: bn_all
abbrev y_Mo_thrown : MethodName := { cls := "BridgeNetModel", name := "thrown", desc := "()I" }
abbrev b_Mo_thrown : ByteArray := prog_10_method_2_code
abbrev w_Mo_thrown : List Cond := Jvm.Cond.code y_Mo_thrown b_Mo_thrown 1 (Option.some Jvm.ClassFile.FieldType.int) :: bn_all
abbrev y_Mo_deliver : MethodName := { cls := "BridgeNetModel", name := "deliver", desc := "(II)I" }
abbrev b_Mo_deliver : ByteArray := prog_10_method_29_code
abbrev w_Mo_deliver : List Cond := Jvm.Cond.code y_Mo_deliver b_Mo_deliver 6 (Option.some Jvm.ClassFile.FieldType.int) :: bn_all
abbrev y_Mo_isPort : MethodName := { cls := "BridgeNetModel", name := "isPort", desc := "(II)Z" }
abbrev b_Mo_isPort : ByteArray := prog_10_method_5_code
abbrev w_Mo_isPort : List Cond := Jvm.Cond.code y_Mo_isPort b_Mo_isPort 2 (Option.some Jvm.ClassFile.FieldType.boolean) :: bn_all
abbrev y_Mo_isBridge : MethodName := { cls := "BridgeNetModel", name := "isBridge", desc := "(I)Z" }
abbrev b_Mo_isBridge : ByteArray := prog_10_method_4_code
abbrev w_Mo_isBridge : List Cond := Jvm.Cond.code y_Mo_isBridge b_Mo_isBridge 1 (Option.some Jvm.ClassFile.FieldType.boolean) :: bn_all
abbrev y_Mo_raise : MethodName := { cls := "BridgeNetModel", name := "raise", desc := "(I)I" }
abbrev b_Mo_raise : ByteArray := prog_10_method_3_code
abbrev w_Mo_raise : List Cond := Jvm.Cond.code y_Mo_raise b_Mo_raise 2 (Option.some Jvm.ClassFile.FieldType.int) :: bn_all
abbrev y_Mo_shift : MethodName := { cls := "BridgeNetModel", name := "shift", desc := "(I)V" }
abbrev b_Mo_shift : ByteArray := prog_10_method_17_code
abbrev w_Mo_shift : List Cond := Jvm.Cond.code y_Mo_shift b_Mo_shift 3 (Option.none : Option Jvm.ClassFile.FieldType) :: bn_all
abbrev y_Mo_copy : MethodName := { cls := "BridgeNetModel", name := "copy", desc := "(II)V" }
abbrev b_Mo_copy : ByteArray := prog_10_method_16_code
abbrev w_Mo_copy : List Cond := Jvm.Cond.code y_Mo_copy b_Mo_copy 3 (Option.none : Option Jvm.ClassFile.FieldType) :: bn_all
abbrev y_Mo_toldOn : MethodName := { cls := "BridgeNetModel", name := "toldOn", desc := "(I)V" }
abbrev b_Mo_toldOn : ByteArray := prog_10_method_23_code
abbrev w_Mo_toldOn : List Cond := Jvm.Cond.code y_Mo_toldOn b_Mo_toldOn 2 (Option.none : Option Jvm.ClassFile.FieldType) :: bn_all
abbrev y_Mo_compute : MethodName := { cls := "BridgeNetModel", name := "compute", desc := "(I)V" }
abbrev b_Mo_compute : ByteArray := prog_10_method_21_code
abbrev w_Mo_compute : List Cond := Jvm.Cond.code y_Mo_compute b_Mo_compute 8 (Option.none : Option Jvm.ClassFile.FieldType) :: bn_all
abbrev y_Mo_rootOf : MethodName := { cls := "BridgeNetModel", name := "rootOf", desc := "(J)I" }
abbrev b_Mo_rootOf : ByteArray := prog_10_method_9_code
abbrev w_Mo_rootOf : List Cond := Jvm.Cond.code y_Mo_rootOf b_Mo_rootOf 2 (Option.some Jvm.ClassFile.FieldType.int) :: bn_all
abbrev y_Mo_costOf : MethodName := { cls := "BridgeNetModel", name := "costOf", desc := "(J)I" }
abbrev b_Mo_costOf : ByteArray := prog_10_method_10_code
abbrev w_Mo_costOf : List Cond := Jvm.Cond.code y_Mo_costOf b_Mo_costOf 2 (Option.some Jvm.ClassFile.FieldType.int) :: bn_all
abbrev y_Mo_choose : MethodName := { cls := "BridgeNetModel", name := "choose", desc := "(I)V" }
abbrev b_Mo_choose : ByteArray := prog_10_method_18_code
abbrev w_Mo_choose : List Cond := Jvm.Cond.code y_Mo_choose b_Mo_choose 5 (Option.none : Option Jvm.ClassFile.FieldType) :: bn_all
abbrev y_Mo_id : MethodName := { cls := "BridgeNetModel", name := "id", desc := "(I)I" }
abbrev b_Mo_id : ByteArray := prog_10_method_6_code
abbrev w_Mo_id : List Cond := Jvm.Cond.code y_Mo_id b_Mo_id 2 (Option.some Jvm.ClassFile.FieldType.int) :: bn_all
abbrev y_Mo_teller : MethodName := { cls := "BridgeNetModel", name := "teller", desc := "(J)I" }
abbrev b_Mo_teller : ByteArray := prog_10_method_11_code
abbrev w_Mo_teller : List Cond := Jvm.Cond.code y_Mo_teller b_Mo_teller 2 (Option.some Jvm.ClassFile.FieldType.int) :: bn_all
abbrev y_Mo_roleOf : MethodName := { cls := "BridgeNetModel", name := "roleOf", desc := "(I)I" }
abbrev b_Mo_roleOf : ByteArray := prog_10_method_19_code
abbrev w_Mo_roleOf : List Cond := Jvm.Cond.code y_Mo_roleOf b_Mo_roleOf 2 (Option.some Jvm.ClassFile.FieldType.int) :: bn_all
abbrev y_Mo_wouldTell : MethodName := { cls := "BridgeNetModel", name := "wouldTell", desc := "(I)J" }
abbrev b_Mo_wouldTell : ByteArray := prog_10_method_12_code
abbrev w_Mo_wouldTell : List Cond := Jvm.Cond.code y_Mo_wouldTell b_Mo_wouldTell 3 (Option.some Jvm.ClassFile.FieldType.long) :: bn_all
abbrev y_Mo_take : MethodName := { cls := "BridgeNetModel", name := "take", desc := "(II)V" }
abbrev b_Mo_take : ByteArray := prog_10_method_20_code
abbrev w_Mo_take : List Cond := Jvm.Cond.code y_Mo_take b_Mo_take 3 (Option.none : Option Jvm.ClassFile.FieldType) :: bn_all
abbrev y_Mo_isLinked : MethodName := { cls := "BridgeNetModel", name := "isLinked", desc := "(I)Z" }
abbrev b_Mo_isLinked : ByteArray := prog_10_method_7_code
abbrev w_Mo_isLinked : List Cond := Jvm.Cond.code y_Mo_isLinked b_Mo_isLinked 2 (Option.some Jvm.ClassFile.FieldType.boolean) :: bn_all
abbrev y_Mo_tellAll : MethodName := { cls := "BridgeNetModel", name := "tellAll", desc := "(I)V" }
abbrev b_Mo_tellAll : ByteArray := prog_10_method_15_code
abbrev w_Mo_tellAll : List Cond := Jvm.Cond.code y_Mo_tellAll b_Mo_tellAll 3 (Option.none : Option Jvm.ClassFile.FieldType) :: bn_all
abbrev y_Mo_tell : MethodName := { cls := "BridgeNetModel", name := "tell", desc := "(I)V" }
abbrev b_Mo_tell : ByteArray := prog_10_method_14_code
abbrev w_Mo_tell : List Cond := Jvm.Cond.code y_Mo_tell b_Mo_tell 3 (Option.none : Option Jvm.ClassFile.FieldType) :: bn_all
abbrev y_Mo_post : MethodName := { cls := "BridgeNetModel", name := "post", desc := "(II)I" }
abbrev b_Mo_post : ByteArray := prog_10_method_13_code
abbrev w_Mo_post : List Cond := Jvm.Cond.code y_Mo_post b_Mo_post 5 (Option.some Jvm.ClassFile.FieldType.int) :: bn_all
abbrev y_Mo_agree : MethodName := { cls := "BridgeNetModel", name := "agree", desc := "(I)V" }
abbrev b_Mo_agree : ByteArray := prog_10_method_24_code
abbrev w_Mo_agree : List Cond := Jvm.Cond.code y_Mo_agree b_Mo_agree 4 (Option.none : Option Jvm.ClassFile.FieldType) :: bn_all
abbrev y_Mo_agreedOn : MethodName := { cls := "BridgeNetModel", name := "agreedOn", desc := "(I)V" }
abbrev b_Mo_agreedOn : ByteArray := prog_10_method_25_code
abbrev w_Mo_agreedOn : List Cond := Jvm.Cond.code y_Mo_agreedOn b_Mo_agreedOn 2 (Option.none : Option Jvm.ClassFile.FieldType) :: bn_all
abbrev y_Mo_frame : MethodName := { cls := "BridgeNetModel", name := "frame", desc := "(I)I" }
abbrev b_Mo_frame : ByteArray := prog_10_method_28_code
abbrev w_Mo_frame : List Cond := Jvm.Cond.code y_Mo_frame b_Mo_frame 11 (Option.some Jvm.ClassFile.FieldType.int) :: bn_all
abbrev y_Mo_has : MethodName := { cls := "BridgeNetModel", name := "has", desc := "(II)Z" }
abbrev b_Mo_has : ByteArray := prog_10_method_26_code
abbrev w_Mo_has : List Cond := Jvm.Cond.code y_Mo_has b_Mo_has 3 (Option.some Jvm.ClassFile.FieldType.boolean) :: bn_all
abbrev y_Mo_out : MethodName := { cls := "BridgeNetModel", name := "out", desc := "(I)I" }
abbrev b_Mo_out : ByteArray := prog_10_method_27_code
abbrev w_Mo_out : List Cond := Jvm.Cond.code y_Mo_out b_Mo_out 4 (Option.some Jvm.ClassFile.FieldType.int) :: bn_all
abbrev y_Mo_lose : MethodName := { cls := "BridgeNetModel", name := "lose", desc := "(II)Z" }
abbrev b_Mo_lose : ByteArray := prog_10_method_30_code
abbrev w_Mo_lose : List Cond := Jvm.Cond.code y_Mo_lose b_Mo_lose 3 (Option.some Jvm.ClassFile.FieldType.boolean) :: bn_all
abbrev y_Mo_tick : MethodName := { cls := "BridgeNetModel", name := "tick", desc := "()V" }
abbrev b_Mo_tick : ByteArray := prog_10_method_32_code
abbrev w_Mo_tick : List Cond := Jvm.Cond.code y_Mo_tick b_Mo_tick 2 (Option.none : Option Jvm.ClassFile.FieldType) :: bn_all
abbrev y_Mo_ageOf : MethodName := { cls := "BridgeNetModel", name := "ageOf", desc := "(I)V" }
abbrev b_Mo_ageOf : ByteArray := prog_10_method_31_code
abbrev w_Mo_ageOf : List Cond := Jvm.Cond.code y_Mo_ageOf b_Mo_ageOf 3 (Option.none : Option Jvm.ClassFile.FieldType) :: bn_all
abbrev y_Mo_priority : MethodName := { cls := "BridgeNetModel", name := "priority", desc := "(II)Z" }
abbrev b_Mo_priority : ByteArray := prog_10_method_33_code
abbrev w_Mo_priority : List Cond := Jvm.Cond.code y_Mo_priority b_Mo_priority 4 (Option.some Jvm.ClassFile.FieldType.boolean) :: bn_all
abbrev y_Mo_set : MethodName := { cls := "BridgeNetModel", name := "set", desc := "(IIII)Z" }
abbrev b_Mo_set : ByteArray := prog_10_method_34_code
abbrev w_Mo_set : List Cond := Jvm.Cond.code y_Mo_set b_Mo_set 5 (Option.some Jvm.ClassFile.FieldType.boolean) :: bn_all
abbrev y_Mo_link : MethodName := { cls := "BridgeNetModel", name := "link", desc := "(IIII)Z" }
abbrev b_Mo_link : ByteArray := prog_10_method_35_code
abbrev w_Mo_link : List Cond := Jvm.Cond.code y_Mo_link b_Mo_link 5 (Option.some Jvm.ClassFile.FieldType.boolean) :: bn_all
abbrev y_Mo_clear : MethodName := { cls := "BridgeNetModel", name := "clear", desc := "(I)V" }
abbrev b_Mo_clear : ByteArray := prog_10_method_22_code
abbrev w_Mo_clear : List Cond := Jvm.Cond.code y_Mo_clear b_Mo_clear 3 (Option.none : Option Jvm.ClassFile.FieldType) :: bn_all
abbrev y_Mo_cut : MethodName := { cls := "BridgeNetModel", name := "cut", desc := "(II)Z" }
abbrev b_Mo_cut : ByteArray := prog_10_method_36_code
abbrev w_Mo_cut : List Cond := Jvm.Cond.code y_Mo_cut b_Mo_cut 5 (Option.some Jvm.ClassFile.FieldType.boolean) :: bn_all
abbrev y_Mo_attach : MethodName := { cls := "BridgeNetModel", name := "attach", desc := "(IIII)V" }
abbrev b_Mo_attach : ByteArray := prog_10_method_37_code
abbrev w_Mo_attach : List Cond := Jvm.Cond.code y_Mo_attach b_Mo_attach 7 (Option.none : Option Jvm.ClassFile.FieldType) :: bn_all
abbrev y_Mo_send : MethodName := { cls := "BridgeNetModel", name := "send", desc := "(III)I" }
abbrev b_Mo_send : ByteArray := prog_10_method_38_code
abbrev w_Mo_send : List Cond := Jvm.Cond.code y_Mo_send b_Mo_send 4 (Option.some Jvm.ClassFile.FieldType.int) :: bn_all
abbrev y_Mo_port : MethodName := { cls := "BridgeNetModel", name := "port", desc := "(II)I" }
abbrev b_Mo_port : ByteArray := prog_10_method_39_code
abbrev w_Mo_port : List Cond := Jvm.Cond.code y_Mo_port b_Mo_port 4 (Option.some Jvm.ClassFile.FieldType.int) :: bn_all
abbrev y_Mo_root : MethodName := { cls := "BridgeNetModel", name := "root", desc := "(I)J" }
abbrev b_Mo_root : ByteArray := prog_10_method_40_code
abbrev w_Mo_root : List Cond := Jvm.Cond.code y_Mo_root b_Mo_root 2 (Option.some Jvm.ClassFile.FieldType.long) :: bn_all
abbrev y_Mo_info : MethodName := { cls := "BridgeNetModel", name := "info", desc := "(II)J" }
abbrev b_Mo_info : ByteArray := prog_10_method_41_code
abbrev w_Mo_info : List Cond := Jvm.Cond.code y_Mo_info b_Mo_info 8 (Option.some Jvm.ClassFile.FieldType.long) :: bn_all
abbrev y_Mo_learned : MethodName := { cls := "BridgeNetModel", name := "learned", desc := "(III)I" }
abbrev b_Mo_learned : ByteArray := prog_10_method_42_code
abbrev w_Mo_learned : List Cond := Jvm.Cond.code y_Mo_learned b_Mo_learned 5 (Option.some Jvm.ClassFile.FieldType.int) :: bn_all
abbrev y_Mo_inbox : MethodName := { cls := "BridgeNetModel", name := "inbox", desc := "(II)J" }
abbrev b_Mo_inbox : ByteArray := prog_10_method_43_code
abbrev w_Mo_inbox : List Cond := Jvm.Cond.code y_Mo_inbox b_Mo_inbox 3 (Option.some Jvm.ClassFile.FieldType.long) :: bn_all
abbrev y_Mo_line : MethodName := { cls := "BridgeNetModel", name := "line", desc := "(II)I" }
abbrev b_Mo_line : ByteArray := prog_10_method_44_code
abbrev w_Mo_line : List Cond := Jvm.Cond.code y_Mo_line b_Mo_line 3 (Option.some Jvm.ClassFile.FieldType.int) :: bn_all
abbrev y_Mo_message : MethodName := { cls := "BridgeNetModel", name := "message", desc := "(III)J" }
abbrev b_Mo_message : ByteArray := prog_10_method_45_code
abbrev w_Mo_message : List Cond := Jvm.Cond.code y_Mo_message b_Mo_message 5 (Option.some Jvm.ClassFile.FieldType.long) :: bn_all
abbrev y_La_law : MethodName := { cls := "BridgeNetLaw", name := "law", desc := "([I)Z" }
abbrev b_La_law : ByteArray := code
