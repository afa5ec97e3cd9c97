def RX10 : String := "SlackHallModel$Look"
def TX10 : u_T := fun k => match k with
  | 0 => ("SlackHallModel$Look", "corner", "I", true)
  | 1 => ("SlackHallModel$Look", "takes", "[[D", true)
  | 2 => ("SlackHallModel$Look", "lates", "[[[D", true)
  | 3 => ("SlackHallModel$Look", "earlies", "[[[D", true)
  | 4 => ("SlackHallModel$Look", "borrow", "[D", true)
  | _ => ("SlackHallModel$Look", "this$0", "LSlackHallModel;", true)
def tyX10 : Nat → FieldType := fun k => match k with
  | 0 => .int
  | 1 => .array (.array .double)
  | 2 => .array (.array (.array .double))
  | 3 => .array (.array (.array .double))
  | 4 => .array .double
  | _ => .object "SlackHallModel"
abbrev wsX100 : List Cond := u_ws RX10 TX10 6
theorem nmX10 : ∀ a, a < 6 → ∀ b, b < 6 → a ≠ b → (TX10 a).2.1 ≠ (TX10 b).2.1 := by decide +kernel
theorem tyX10_ok : ∀ k, k < 6 → parseFieldDescriptor (TX10 k).2.2.1 = some (tyX10 k) := by decide +kernel
def RX11 : String := "SlackHallModel"
def TX11 : u_T := fun k => match k with
  | 0 => ("SlackHallModel", "thrown", "I", false)
  | 1 => ("SlackHallModel", "clocks", "Ljava/util/ArrayList;", true)
  | 2 => ("SlackHallModel", "corners", "Ljava/util/ArrayList;", true)
  | 3 => ("SlackHallModel", "nodes", "Ljava/util/ArrayList;", true)
  | 4 => ("SlackHallModel", "exceptions", "Ljava/util/ArrayList;", true)
  | 5 => ("SlackHallModel", "isSigned", "Z", false)
  | _ => ("SlackHallModel", "refused", "I", false)
def tyX11 : Nat → FieldType := fun k => match k with
  | 0 => .int
  | 1 => .object "java/util/ArrayList"
  | 2 => .object "java/util/ArrayList"
  | 3 => .object "java/util/ArrayList"
  | 4 => .object "java/util/ArrayList"
  | 5 => .boolean
  | _ => .int
abbrev wsX110 : List Cond := u_ws RX11 TX11 7
theorem nmX11 : ∀ a, a < 7 → ∀ b, b < 7 → a ≠ b → (TX11 a).2.1 ≠ (TX11 b).2.1 := by decide +kernel
theorem tyX11_ok : ∀ k, k < 7 → parseFieldDescriptor (TX11 k).2.2.1 = some (tyX11 k) := by decide +kernel
def RJx4a65c : String := "java/util/ArrayList"
def TJx4a65c : u_T := fun k => match k with
  | 0 => ("java/util/AbstractList", "modCount", "I", false)
  | 1 => ("java/util/ArrayList", "elementData", "[Ljava/lang/Object;", false)
  | _ => ("java/util/ArrayList", "size", "I", false)
def tyJx4a65c : Nat → FieldType := fun k => match k with
  | 0 => .int
  | 1 => .array (.object "java/lang/Object")
  | _ => .int
abbrev wsJx4a65c0 : List Cond := u_ws RJx4a65c TJx4a65c 3
theorem nmJx4a65c : ∀ a, a < 3 → ∀ b, b < 3 → a ≠ b → (TJx4a65c a).2.1 ≠ (TJx4a65c b).2.1 := by decide +kernel
theorem tyJx4a65c_ok : ∀ k, k < 3 → parseFieldDescriptor (TJx4a65c k).2.2.1 = some (tyJx4a65c k) := by decide +kernel
def RJx35411 : String := "java/util/ArrayList$Itr"
def TJx35411 : u_T := fun k => match k with
  | 0 => ("java/util/ArrayList$Itr", "cursor", "I", false)
  | 1 => ("java/util/ArrayList$Itr", "lastRet", "I", false)
  | 2 => ("java/util/ArrayList$Itr", "expectedModCount", "I", false)
  | _ => ("java/util/ArrayList$Itr", "this$0", "Ljava/util/ArrayList;", true)
def tyJx35411 : Nat → FieldType := fun k => match k with
  | 0 => .int
  | 1 => .int
  | 2 => .int
  | _ => .object "java/util/ArrayList"
abbrev wsJx354110 : List Cond := u_ws RJx35411 TJx35411 4
theorem nmJx35411 : ∀ a, a < 4 → ∀ b, b < 4 → a ≠ b → (TJx35411 a).2.1 ≠ (TJx35411 b).2.1 := by decide +kernel
theorem tyJx35411_ok : ∀ k, k < 4 → parseFieldDescriptor (TJx35411 k).2.2.1 = some (tyJx35411 k) := by decide +kernel
def RJxa1e45 : String := "java/util/AbstractCollection"
def RJxc12de : String := "java/util/AbstractList"
abbrev cX10_init : ByteArray := prog_13_method_1_code
def yX10_init : MethodName := ⟨RX10, "<init>", "(LSlackHallModel;I)V"⟩
abbrev cX11_init : ByteArray := prog_12_method_1_code
def yX11_init : MethodName := ⟨RX11, "<init>", "()V"⟩
abbrev cX11_thrown : ByteArray := prog_12_method_2_code
def yX11_thrown : MethodName := ⟨RX11, "thrown", "()I"⟩
abbrev cX11_refuse : ByteArray := prog_12_method_3_code
def yX11_refuse : MethodName := ⟨RX11, "refuse", "(ZI)Z"⟩
abbrev cX11_start : ByteArray := prog_12_method_4_code
def yX11_start : MethodName := ⟨RX11, "start", "(ZI)Z"⟩
abbrev cX11_isIn : ByteArray := prog_12_method_5_code
def yX11_isIn : MethodName := ⟨RX11, "isIn", "(III)Z"⟩
abbrev cX11_one : ByteArray := prog_12_method_6_code
def yX11_one : MethodName := ⟨RX11, "one", "(Z)I"⟩
abbrev cX11_isNoClock : ByteArray := prog_12_method_7_code
def yX11_isNoClock : MethodName := ⟨RX11, "isNoClock", "(I)Z"⟩
abbrev cX11_isNoNode : ByteArray := prog_12_method_8_code
def yX11_isNoNode : MethodName := ⟨RX11, "isNoNode", "(I)Z"⟩
abbrev cX11_isNoCorner : ByteArray := prog_12_method_9_code
def yX11_isNoCorner : MethodName := ⟨RX11, "isNoCorner", "(I)Z"⟩
abbrev cX11_clock : ByteArray := prog_12_method_13_code
def yX11_clock : MethodName := ⟨RX11, "clock", "(IIII)I"⟩
abbrev cX11_divide : ByteArray := prog_12_method_14_code
def yX11_divide : MethodName := ⟨RX11, "divide", "(III)I"⟩
abbrev cX11_corner : ByteArray := prog_12_method_15_code
def yX11_corner : MethodName := ⟨RX11, "corner", "(II)I"⟩
abbrev cX11_node : ByteArray := prog_12_method_16_code
def yX11_node : MethodName := ⟨RX11, "node", "(IIII)I"⟩
abbrev cX11_feed : ByteArray := prog_12_method_17_code
def yX11_feed : MethodName := ⟨RX11, "feed", "(II)I"⟩
abbrev cX11_size : ByteArray := prog_12_method_19_code
def yX11_size : MethodName := ⟨RX11, "size", "(II)I"⟩
abbrev cX11_wire : ByteArray := prog_12_method_20_code
def yX11_wire : MethodName := ⟨RX11, "wire", "(II)I"⟩
abbrev cX11_skew : ByteArray := prog_12_method_21_code
def yX11_skew : MethodName := ⟨RX11, "skew", "(II)I"⟩
abbrev cX11_exception : ByteArray := prog_12_method_22_code
def yX11_exception : MethodName := ⟨RX11, "exception", "(III)I"⟩
abbrev cX11_sign : ByteArray := prog_12_method_23_code
def yX11_sign : MethodName := ⟨RX11, "sign", "(Z)Z"⟩
abbrev cX11_knock : ByteArray := prog_12_method_24_code
def yX11_knock : MethodName := ⟨RX11, "knock", "()I"⟩
abbrev cX11_leastOf : ByteArray := prog_12_method_39_code
def yX11_leastOf : MethodName := ⟨RX11, "leastOf", "(Z)D"⟩
abbrev cX11_ofClock : ByteArray := prog_12_method_40_code
def yX11_ofClock : MethodName := ⟨RX11, "ofClock", "(II)I"⟩
abbrev cX11_ofNode : ByteArray := prog_12_method_42_code
def yX11_ofNode : MethodName := ⟨RX11, "ofNode", "(II)I"⟩
abbrev cX11_load : ByteArray := prog_12_method_43_code
def yX11_load : MethodName := ⟨RX11, "load", "(I)D"⟩
abbrev cX11_takes : ByteArray := prog_12_method_44_code
def yX11_takes : MethodName := ⟨RX11, "takes", "(IZ)D"⟩
abbrev cX11_arrival : ByteArray := prog_12_method_45_code
def yX11_arrival : MethodName := ⟨RX11, "arrival", "(IIIZZ)D"⟩
abbrev cX11_isNoPair : ByteArray := prog_12_method_46_code
def yX11_isNoPair : MethodName := ⟨RX11, "isNoPair", "(II)Z"⟩
abbrev cX11_winner : ByteArray := prog_12_method_48_code
def yX11_winner : MethodName := ⟨RX11, "winner", "(II)I"⟩
abbrev cX11_left : ByteArray := prog_12_method_49_code
def yX11_left : MethodName := ⟨RX11, "left", "(IIIZ)D"⟩
abbrev cX11_leftAt : ByteArray := prog_12_method_50_code
def yX11_leftAt : MethodName := ⟨RX11, "leftAt", "(IIZ)D"⟩
abbrev cX11_borrow : ByteArray := prog_12_method_51_code
def yX11_borrow : MethodName := ⟨RX11, "borrow", "(II)D"⟩
abbrev cX11_ways : ByteArray := prog_12_method_53_code
def yX11_ways : MethodName := ⟨RX11, "ways", "(II)I"⟩
abbrev cX11_worst : ByteArray := prog_12_method_55_code
def yX11_worst : MethodName := ⟨RX11, "worst", "(II)I"⟩
abbrev cX11_pairs : ByteArray := prog_12_method_57_code
def yX11_pairs : MethodName := ⟨RX11, "pairs", "(I)I"⟩
abbrev cX11_lacking : ByteArray := prog_12_method_58_code
def yX11_lacking : MethodName := ⟨RX11, "lacking", "(Z)I"⟩
abbrev cX11_told : ByteArray := prog_12_method_59_code
def yX11_told : MethodName := ⟨RX11, "told", "(I)I"⟩
abbrev cX11_many : ByteArray := prog_12_method_60_code
def yX11_many : MethodName := ⟨RX11, "many", "(I)I"⟩
abbrev cX11_least : ByteArray := prog_12_method_61_code
def yX11_least : MethodName := ⟨RX11, "least", "(Z)D"⟩
abbrev cX11_wouldLeave : ByteArray := prog_12_method_63_code
def yX11_wouldLeave : MethodName := ⟨RX11, "wouldLeave", "(II)D"⟩
abbrev cX11_bestOf : ByteArray := prog_12_method_64_code
def yX11_bestOf : MethodName := ⟨RX11, "bestOf", "()I"⟩
abbrev cX11_best : ByteArray := prog_12_method_65_code
def yX11_best : MethodName := ⟨RX11, "best", "()I"⟩
abbrev cX11_isIdle : ByteArray := prog_12_method_67_code
def yX11_isIdle : MethodName := ⟨RX11, "isIdle", "(I)Z"⟩
abbrev cX11_add : ByteArray := prog_12_method_68_code
def yX11_add : MethodName := ⟨RX11, "add", "(JJ)J"⟩
abbrev cX11_digest : ByteArray := prog_12_method_69_code
def yX11_digest : MethodName := ⟨RX11, "digest", "()J"⟩
abbrev cJxa1e45_init_da8c8 : ByteArray := prog_32_method_1_code
def yJxa1e45_init_da8c8 : MethodName := ⟨RJxa1e45, "<init>", "()V"⟩
abbrev cJxc12de_init_da8c8 : ByteArray := prog_33_method_1_code
def yJxc12de_init_da8c8 : MethodName := ⟨RJxc12de, "<init>", "()V"⟩
abbrev cJx35411_init_45d68 : ByteArray := prog_35_method_1_code
def yJx35411_init_45d68 : MethodName := ⟨RJx35411, "<init>", "(Ljava/util/ArrayList;)V"⟩
abbrev cJx35411_hasNext_aae02 : ByteArray := prog_35_method_2_code
def yJx35411_hasNext_aae02 : MethodName := ⟨RJx35411, "hasNext", "()Z"⟩
abbrev cJx4a65c_init_da8c8 : ByteArray := prog_34_method_2_code
def yJx4a65c_init_da8c8 : MethodName := ⟨RJx4a65c, "<init>", "()V"⟩
abbrev cJx4a65c_grow_92f84 : ByteArray := prog_34_method_6_code
def yJx4a65c_grow_92f84 : MethodName := ⟨RJx4a65c, "grow", "(I)[Ljava/lang/Object;"⟩
abbrev cJx4a65c_grow_d5877 : ByteArray := prog_34_method_7_code
def yJx4a65c_grow_d5877 : MethodName := ⟨RJx4a65c, "grow", "()[Ljava/lang/Object;"⟩
abbrev cJx4a65c_size_8abf5 : ByteArray := prog_34_method_8_code
def yJx4a65c_size_8abf5 : MethodName := ⟨RJx4a65c, "size", "()I"⟩
abbrev cJx4a65c_add_72be8 : ByteArray := prog_34_method_24_code
def yJx4a65c_add_72be8 : MethodName := ⟨RJx4a65c, "add", "(Ljava/lang/Object;[Ljava/lang/Object;I)V"⟩
abbrev cJx4a65c_add_9ea2d : ByteArray := prog_34_method_25_code
def yJx4a65c_add_9ea2d : MethodName := ⟨RJx4a65c, "add", "(Ljava/lang/Object;)Z"⟩
abbrev cJx4a65c_iterator_32c93 : ByteArray := prog_34_method_55_code
def yJx4a65c_iterator_32c93 : MethodName := ⟨RJx4a65c, "iterator", "()Ljava/util/Iterator;"⟩
theorem dX10_init_0 : decode cX10_init 0 = .ok (.aload_n 0, 1) := by decide +kernel
theorem dX10_init_1 : decode cX10_init 1 = .ok (.aload_n 1, 1) := by decide +kernel
theorem dX10_init_2 : decode cX10_init 2 = .ok (.putfield 3, 3) := by decide +kernel
theorem dX10_init_5 : decode cX10_init 5 = .ok (.aload_n 0, 1) := by decide +kernel
theorem dX10_init_6 : decode cX10_init 6 = .ok (.invokespecial 9, 3) := by decide +kernel
theorem dX10_init_9 : decode cX10_init 9 = .ok (.aload_n 0, 1) := by decide +kernel
theorem dX10_init_10 : decode cX10_init 10 = .ok (.iconst 2, 1) := by decide +kernel
theorem dX10_init_11 : decode cX10_init 11 = .ok (.aload_n 0, 1) := by decide +kernel
theorem dX10_init_12 : decode cX10_init 12 = .ok (.getfield 3, 3) := by decide +kernel
theorem dX10_init_15 : decode cX10_init 15 = .ok (.getfield 15, 3) := by decide +kernel
theorem dX10_init_18 : decode cX10_init 18 = .ok (.invokevirtual 19, 3) := by decide +kernel
theorem dX10_init_21 : decode cX10_init 21 = .ok (.multianewarray 25 2, 4) := by decide +kernel
theorem dX10_init_25 : decode cX10_init 25 = .ok (.putfield 27, 3) := by decide +kernel
theorem dX10_init_28 : decode cX10_init 28 = .ok (.aload_n 0, 1) := by decide +kernel
theorem dX10_init_29 : decode cX10_init 29 = .ok (.aload_n 0, 1) := by decide +kernel
theorem dX10_init_30 : decode cX10_init 30 = .ok (.getfield 3, 3) := by decide +kernel
theorem dX10_init_33 : decode cX10_init 33 = .ok (.getfield 15, 3) := by decide +kernel
theorem dX10_init_36 : decode cX10_init 36 = .ok (.invokevirtual 19, 3) := by decide +kernel
theorem dX10_init_39 : decode cX10_init 39 = .ok (.anewarray 25, 3) := by decide +kernel
theorem dX10_init_42 : decode cX10_init 42 = .ok (.putfield 30, 3) := by decide +kernel
theorem dX10_init_45 : decode cX10_init 45 = .ok (.aload_n 0, 1) := by decide +kernel
theorem dX10_init_46 : decode cX10_init 46 = .ok (.aload_n 0, 1) := by decide +kernel
theorem dX10_init_47 : decode cX10_init 47 = .ok (.getfield 3, 3) := by decide +kernel
theorem dX10_init_50 : decode cX10_init 50 = .ok (.getfield 15, 3) := by decide +kernel
theorem dX10_init_53 : decode cX10_init 53 = .ok (.invokevirtual 19, 3) := by decide +kernel
theorem dX10_init_56 : decode cX10_init 56 = .ok (.anewarray 25, 3) := by decide +kernel
theorem dX10_init_59 : decode cX10_init 59 = .ok (.putfield 34, 3) := by decide +kernel
theorem dX10_init_62 : decode cX10_init 62 = .ok (.aload_n 0, 1) := by decide +kernel
theorem dX10_init_63 : decode cX10_init 63 = .ok (.aload_n 0, 1) := by decide +kernel
theorem dX10_init_64 : decode cX10_init 64 = .ok (.getfield 3, 3) := by decide +kernel
theorem dX10_init_67 : decode cX10_init 67 = .ok (.getfield 15, 3) := by decide +kernel
theorem dX10_init_70 : decode cX10_init 70 = .ok (.invokevirtual 19, 3) := by decide +kernel
theorem dX10_init_73 : decode cX10_init 73 = .ok (.newarray .double, 2) := by decide +kernel
theorem dX10_init_75 : decode cX10_init 75 = .ok (.putfield 37, 3) := by decide +kernel
theorem dX10_init_78 : decode cX10_init 78 = .ok (.aload_n 0, 1) := by decide +kernel
theorem dX10_init_79 : decode cX10_init 79 = .ok (.iload_n 2, 1) := by decide +kernel
theorem dX10_init_80 : decode cX10_init 80 = .ok (.putfield 41, 3) := by decide +kernel
theorem dX10_init_83 : decode cX10_init 83 = .ok (.iconst 0, 1) := by decide +kernel
theorem dX10_init_84 : decode cX10_init 84 = .ok (.istore_n 3, 1) := by decide +kernel
theorem dX10_init_85 : decode cX10_init 85 = .ok (.iload_n 3, 1) := by decide +kernel
theorem dX10_init_86 : decode cX10_init 86 = .ok (.iconst 2, 1) := by decide +kernel
theorem dX10_init_87 : decode cX10_init 87 = .ok (.if_icmp .ge 46, 3) := by decide +kernel
theorem dX10_init_90 : decode cX10_init 90 = .ok (.iconst 0, 1) := by decide +kernel
theorem dX10_init_91 : decode cX10_init 91 = .ok (.istore 4, 2) := by decide +kernel
theorem dX10_init_93 : decode cX10_init 93 = .ok (.iload 4, 2) := by decide +kernel
theorem dX10_init_95 : decode cX10_init 95 = .ok (.aload_n 1, 1) := by decide +kernel
theorem dX10_init_96 : decode cX10_init 96 = .ok (.getfield 15, 3) := by decide +kernel
theorem dX10_init_99 : decode cX10_init 99 = .ok (.invokevirtual 19, 3) := by decide +kernel
theorem dX10_init_102 : decode cX10_init 102 = .ok (.if_icmp .ge 25, 3) := by decide +kernel
theorem dX10_init_105 : decode cX10_init 105 = .ok (.aload_n 0, 1) := by decide +kernel
theorem dX10_init_106 : decode cX10_init 106 = .ok (.getfield 27, 3) := by decide +kernel
theorem dX10_init_109 : decode cX10_init 109 = .ok (.iload_n 3, 1) := by decide +kernel
theorem dX10_init_110 : decode cX10_init 110 = .ok (.aaload, 1) := by decide +kernel
theorem dX10_init_111 : decode cX10_init 111 = .ok (.iload 4, 2) := by decide +kernel
theorem dX10_init_113 : decode cX10_init 113 = .ok (.aload_n 1, 1) := by decide +kernel
theorem dX10_init_114 : decode cX10_init 114 = .ok (.iload 4, 2) := by decide +kernel
theorem dX10_init_116 : decode cX10_init 116 = .ok (.iload_n 3, 1) := by decide +kernel
theorem dX10_init_117 : decode cX10_init 117 = .ok (.invokevirtual 45, 3) := by decide +kernel
theorem dX10_init_120 : decode cX10_init 120 = .ok (.dastore, 1) := by decide +kernel
theorem dX10_init_121 : decode cX10_init 121 = .ok (.iinc 4 1, 3) := by decide +kernel
theorem dX10_init_124 : decode cX10_init 124 = .ok (.goto (-31), 3) := by decide +kernel
theorem dX10_init_127 : decode cX10_init 127 = .ok (.iinc 3 1, 3) := by decide +kernel
theorem dX10_init_130 : decode cX10_init 130 = .ok (.goto (-45), 3) := by decide +kernel
theorem dX10_init_133 : decode cX10_init 133 = .ok (.iconst 0, 1) := by decide +kernel
theorem dX10_init_134 : decode cX10_init 134 = .ok (.istore_n 3, 1) := by decide +kernel
theorem dX10_init_135 : decode cX10_init 135 = .ok (.iload_n 3, 1) := by decide +kernel
theorem dX10_init_136 : decode cX10_init 136 = .ok (.aload_n 1, 1) := by decide +kernel
theorem dX10_init_137 : decode cX10_init 137 = .ok (.getfield 15, 3) := by decide +kernel
theorem dX10_init_140 : decode cX10_init 140 = .ok (.invokevirtual 19, 3) := by decide +kernel
theorem dX10_init_143 : decode cX10_init 143 = .ok (.if_icmp .ge 30, 3) := by decide +kernel
theorem dX10_init_146 : decode cX10_init 146 = .ok (.aload_n 1, 1) := by decide +kernel
theorem dX10_init_147 : decode cX10_init 147 = .ok (.iload_n 3, 1) := by decide +kernel
theorem dX10_init_148 : decode cX10_init 148 = .ok (.invokevirtual 49, 3) := by decide +kernel
theorem dX10_init_151 : decode cX10_init 151 = .ok (.bipush 7, 2) := by decide +kernel
theorem dX10_init_153 : decode cX10_init 153 = .ok (.if_icmp .ne 14, 3) := by decide +kernel
theorem dX10_init_156 : decode cX10_init 156 = .ok (.aload_n 0, 1) := by decide +kernel
theorem dX10_init_157 : decode cX10_init 157 = .ok (.getfield 37, 3) := by decide +kernel
theorem dX10_init_160 : decode cX10_init 160 = .ok (.iload_n 3, 1) := by decide +kernel
theorem dX10_init_161 : decode cX10_init 161 = .ok (.aload_n 0, 1) := by decide +kernel
theorem dX10_init_162 : decode cX10_init 162 = .ok (.iload_n 3, 1) := by decide +kernel
theorem dX10_init_163 : decode cX10_init 163 = .ok (.invokevirtual 53, 3) := by decide +kernel
theorem dX10_init_166 : decode cX10_init 166 = .ok (.dastore, 1) := by decide +kernel
theorem dX10_init_167 : decode cX10_init 167 = .ok (.iinc 3 1, 3) := by decide +kernel
theorem dX10_init_170 : decode cX10_init 170 = .ok (.goto (-35), 3) := by decide +kernel
theorem dX10_init_173 : decode cX10_init 173 = .ok (.return_, 1) := by decide +kernel
theorem dX11_init_0 : decode cX11_init 0 = .ok (.aload_n 0, 1) := by decide +kernel
theorem dX11_init_1 : decode cX11_init 1 = .ok (.invokespecial 1, 3) := by decide +kernel
theorem dX11_init_4 : decode cX11_init 4 = .ok (.aload_n 0, 1) := by decide +kernel
theorem dX11_init_5 : decode cX11_init 5 = .ok (.new 7, 3) := by decide +kernel
theorem dX11_init_8 : decode cX11_init 8 = .ok (.dup, 1) := by decide +kernel
theorem dX11_init_9 : decode cX11_init 9 = .ok (.invokespecial 9, 3) := by decide +kernel
theorem dX11_init_12 : decode cX11_init 12 = .ok (.putfield 10, 3) := by decide +kernel
theorem dX11_init_15 : decode cX11_init 15 = .ok (.aload_n 0, 1) := by decide +kernel
theorem dX11_init_16 : decode cX11_init 16 = .ok (.new 7, 3) := by decide +kernel
theorem dX11_init_19 : decode cX11_init 19 = .ok (.dup, 1) := by decide +kernel
theorem dX11_init_20 : decode cX11_init 20 = .ok (.invokespecial 9, 3) := by decide +kernel
theorem dX11_init_23 : decode cX11_init 23 = .ok (.putfield 16, 3) := by decide +kernel
theorem dX11_init_26 : decode cX11_init 26 = .ok (.aload_n 0, 1) := by decide +kernel
theorem dX11_init_27 : decode cX11_init 27 = .ok (.new 7, 3) := by decide +kernel
theorem dX11_init_30 : decode cX11_init 30 = .ok (.dup, 1) := by decide +kernel
theorem dX11_init_31 : decode cX11_init 31 = .ok (.invokespecial 9, 3) := by decide +kernel
theorem dX11_init_34 : decode cX11_init 34 = .ok (.putfield 19, 3) := by decide +kernel
theorem dX11_init_37 : decode cX11_init 37 = .ok (.aload_n 0, 1) := by decide +kernel
theorem dX11_init_38 : decode cX11_init 38 = .ok (.new 7, 3) := by decide +kernel
theorem dX11_init_41 : decode cX11_init 41 = .ok (.dup, 1) := by decide +kernel
theorem dX11_init_42 : decode cX11_init 42 = .ok (.invokespecial 9, 3) := by decide +kernel
theorem dX11_init_45 : decode cX11_init 45 = .ok (.putfield 22, 3) := by decide +kernel
theorem dX11_init_48 : decode cX11_init 48 = .ok (.aload_n 0, 1) := by decide +kernel
theorem dX11_init_49 : decode cX11_init 49 = .ok (.getfield 16, 3) := by decide +kernel
theorem dX11_init_52 : decode cX11_init 52 = .ok (.iconst 2, 1) := by decide +kernel
theorem dX11_init_53 : decode cX11_init 53 = .ok (.newarray .int, 2) := by decide +kernel
theorem dX11_init_55 : decode cX11_init 55 = .ok (.dup, 1) := by decide +kernel
theorem dX11_init_56 : decode cX11_init 56 = .ok (.iconst 0, 1) := by decide +kernel
theorem dX11_init_57 : decode cX11_init 57 = .ok (.bipush 8, 2) := by decide +kernel
theorem dX11_init_59 : decode cX11_init 59 = .ok (.iastore, 1) := by decide +kernel
theorem dX11_init_60 : decode cX11_init 60 = .ok (.dup, 1) := by decide +kernel
theorem dX11_init_61 : decode cX11_init 61 = .ok (.iconst 1, 1) := by decide +kernel
theorem dX11_init_62 : decode cX11_init 62 = .ok (.bipush 8, 2) := by decide +kernel
theorem dX11_init_64 : decode cX11_init 64 = .ok (.iastore, 1) := by decide +kernel
theorem dX11_init_65 : decode cX11_init 65 = .ok (.invokevirtual 25, 3) := by decide +kernel
theorem dX11_init_68 : decode cX11_init 68 = .ok (.pop, 1) := by decide +kernel
theorem dX11_init_69 : decode cX11_init 69 = .ok (.return_, 1) := by decide +kernel
theorem dX11_thrown_0 : decode cX11_thrown 0 = .ok (.aload_n 0, 1) := by decide +kernel
theorem dX11_thrown_1 : decode cX11_thrown 1 = .ok (.getfield 29, 3) := by decide +kernel
theorem dX11_thrown_4 : decode cX11_thrown 4 = .ok (.ireturn, 1) := by decide +kernel
theorem dX11_refuse_0 : decode cX11_refuse 0 = .ok (.iload_n 1, 1) := by decide +kernel
theorem dX11_refuse_1 : decode cX11_refuse 1 = .ok (.ifCond .eq 15, 3) := by decide +kernel
theorem dX11_refuse_4 : decode cX11_refuse 4 = .ok (.aload_n 0, 1) := by decide +kernel
theorem dX11_refuse_5 : decode cX11_refuse 5 = .ok (.getfield 29, 3) := by decide +kernel
theorem dX11_refuse_8 : decode cX11_refuse 8 = .ok (.ifCond .ne 8, 3) := by decide +kernel
theorem dX11_refuse_11 : decode cX11_refuse 11 = .ok (.aload_n 0, 1) := by decide +kernel
theorem dX11_refuse_12 : decode cX11_refuse 12 = .ok (.iload_n 2, 1) := by decide +kernel
theorem dX11_refuse_13 : decode cX11_refuse 13 = .ok (.putfield 29, 3) := by decide +kernel
theorem dX11_refuse_16 : decode cX11_refuse 16 = .ok (.aload_n 0, 1) := by decide +kernel
theorem dX11_refuse_17 : decode cX11_refuse 17 = .ok (.getfield 29, 3) := by decide +kernel
theorem dX11_refuse_20 : decode cX11_refuse 20 = .ok (.ifCond .le 7, 3) := by decide +kernel
theorem dX11_refuse_23 : decode cX11_refuse 23 = .ok (.iconst 1, 1) := by decide +kernel
theorem dX11_refuse_24 : decode cX11_refuse 24 = .ok (.goto 4, 3) := by decide +kernel
theorem dX11_refuse_27 : decode cX11_refuse 27 = .ok (.iconst 0, 1) := by decide +kernel
theorem dX11_refuse_28 : decode cX11_refuse 28 = .ok (.ireturn, 1) := by decide +kernel
theorem dX11_start_0 : decode cX11_start 0 = .ok (.aload_n 0, 1) := by decide +kernel
theorem dX11_start_1 : decode cX11_start 1 = .ok (.iconst 0, 1) := by decide +kernel
theorem dX11_start_2 : decode cX11_start 2 = .ok (.putfield 29, 3) := by decide +kernel
theorem dX11_start_5 : decode cX11_start 5 = .ok (.aload_n 0, 1) := by decide +kernel
theorem dX11_start_6 : decode cX11_start 6 = .ok (.iload_n 1, 1) := by decide +kernel
theorem dX11_start_7 : decode cX11_start 7 = .ok (.iload_n 2, 1) := by decide +kernel
theorem dX11_start_8 : decode cX11_start 8 = .ok (.invokevirtual 33, 3) := by decide +kernel
theorem dX11_start_11 : decode cX11_start 11 = .ok (.ireturn, 1) := by decide +kernel
theorem dX11_isIn_0 : decode cX11_isIn 0 = .ok (.iload_n 0, 1) := by decide +kernel
theorem dX11_isIn_1 : decode cX11_isIn 1 = .ok (.iload_n 1, 1) := by decide +kernel
theorem dX11_isIn_2 : decode cX11_isIn 2 = .ok (.if_icmp .lt 12, 3) := by decide +kernel
theorem dX11_isIn_5 : decode cX11_isIn 5 = .ok (.iload_n 0, 1) := by decide +kernel
theorem dX11_isIn_6 : decode cX11_isIn 6 = .ok (.iload_n 2, 1) := by decide +kernel
theorem dX11_isIn_7 : decode cX11_isIn 7 = .ok (.if_icmp .gt 7, 3) := by decide +kernel
theorem dX11_isIn_10 : decode cX11_isIn 10 = .ok (.iconst 1, 1) := by decide +kernel
theorem dX11_isIn_11 : decode cX11_isIn 11 = .ok (.goto 4, 3) := by decide +kernel
theorem dX11_isIn_14 : decode cX11_isIn 14 = .ok (.iconst 0, 1) := by decide +kernel
theorem dX11_isIn_15 : decode cX11_isIn 15 = .ok (.ireturn, 1) := by decide +kernel
theorem dX11_one_0 : decode cX11_one 0 = .ok (.iload_n 0, 1) := by decide +kernel
theorem dX11_one_1 : decode cX11_one 1 = .ok (.ifCond .eq 7, 3) := by decide +kernel
theorem dX11_one_4 : decode cX11_one 4 = .ok (.iconst 1, 1) := by decide +kernel
theorem dX11_one_5 : decode cX11_one 5 = .ok (.goto 4, 3) := by decide +kernel
theorem dX11_one_8 : decode cX11_one 8 = .ok (.iconst 0, 1) := by decide +kernel
theorem dX11_one_9 : decode cX11_one 9 = .ok (.ireturn, 1) := by decide +kernel
theorem dX11_isNoClock_0 : decode cX11_isNoClock 0 = .ok (.iload_n 1, 1) := by decide +kernel
theorem dX11_isNoClock_1 : decode cX11_isNoClock 1 = .ok (.iconst 0, 1) := by decide +kernel
theorem dX11_isNoClock_2 : decode cX11_isNoClock 2 = .ok (.aload_n 0, 1) := by decide +kernel
theorem dX11_isNoClock_3 : decode cX11_isNoClock 3 = .ok (.getfield 10, 3) := by decide +kernel
theorem dX11_isNoClock_6 : decode cX11_isNoClock 6 = .ok (.invokevirtual 37, 3) := by decide +kernel
theorem dX11_isNoClock_9 : decode cX11_isNoClock 9 = .ok (.iconst 1, 1) := by decide +kernel
theorem dX11_isNoClock_10 : decode cX11_isNoClock 10 = .ok (.isub, 1) := by decide +kernel
theorem dX11_isNoClock_11 : decode cX11_isNoClock 11 = .ok (.invokestatic 41, 3) := by decide +kernel
theorem dX11_isNoClock_14 : decode cX11_isNoClock 14 = .ok (.ifCond .ne 7, 3) := by decide +kernel
theorem dX11_isNoClock_17 : decode cX11_isNoClock 17 = .ok (.iconst 1, 1) := by decide +kernel
theorem dX11_isNoClock_18 : decode cX11_isNoClock 18 = .ok (.goto 4, 3) := by decide +kernel
theorem dX11_isNoClock_21 : decode cX11_isNoClock 21 = .ok (.iconst 0, 1) := by decide +kernel
theorem dX11_isNoClock_22 : decode cX11_isNoClock 22 = .ok (.ireturn, 1) := by decide +kernel
theorem dX11_isNoNode_0 : decode cX11_isNoNode 0 = .ok (.iload_n 1, 1) := by decide +kernel
theorem dX11_isNoNode_1 : decode cX11_isNoNode 1 = .ok (.iconst 0, 1) := by decide +kernel
theorem dX11_isNoNode_2 : decode cX11_isNoNode 2 = .ok (.aload_n 0, 1) := by decide +kernel
theorem dX11_isNoNode_3 : decode cX11_isNoNode 3 = .ok (.getfield 19, 3) := by decide +kernel
theorem dX11_isNoNode_6 : decode cX11_isNoNode 6 = .ok (.invokevirtual 37, 3) := by decide +kernel
theorem dX11_isNoNode_9 : decode cX11_isNoNode 9 = .ok (.iconst 1, 1) := by decide +kernel
theorem dX11_isNoNode_10 : decode cX11_isNoNode 10 = .ok (.isub, 1) := by decide +kernel
theorem dX11_isNoNode_11 : decode cX11_isNoNode 11 = .ok (.invokestatic 41, 3) := by decide +kernel
theorem dX11_isNoNode_14 : decode cX11_isNoNode 14 = .ok (.ifCond .ne 7, 3) := by decide +kernel
theorem dX11_isNoNode_17 : decode cX11_isNoNode 17 = .ok (.iconst 1, 1) := by decide +kernel
theorem dX11_isNoNode_18 : decode cX11_isNoNode 18 = .ok (.goto 4, 3) := by decide +kernel
theorem dX11_isNoNode_21 : decode cX11_isNoNode 21 = .ok (.iconst 0, 1) := by decide +kernel
theorem dX11_isNoNode_22 : decode cX11_isNoNode 22 = .ok (.ireturn, 1) := by decide +kernel
theorem dX11_isNoCorner_0 : decode cX11_isNoCorner 0 = .ok (.iload_n 1, 1) := by decide +kernel
theorem dX11_isNoCorner_1 : decode cX11_isNoCorner 1 = .ok (.iconst 0, 1) := by decide +kernel
theorem dX11_isNoCorner_2 : decode cX11_isNoCorner 2 = .ok (.aload_n 0, 1) := by decide +kernel
theorem dX11_isNoCorner_3 : decode cX11_isNoCorner 3 = .ok (.getfield 16, 3) := by decide +kernel
theorem dX11_isNoCorner_6 : decode cX11_isNoCorner 6 = .ok (.invokevirtual 37, 3) := by decide +kernel
theorem dX11_isNoCorner_9 : decode cX11_isNoCorner 9 = .ok (.iconst 1, 1) := by decide +kernel
theorem dX11_isNoCorner_10 : decode cX11_isNoCorner 10 = .ok (.isub, 1) := by decide +kernel
theorem dX11_isNoCorner_11 : decode cX11_isNoCorner 11 = .ok (.invokestatic 41, 3) := by decide +kernel
theorem dX11_isNoCorner_14 : decode cX11_isNoCorner 14 = .ok (.ifCond .ne 7, 3) := by decide +kernel
theorem dX11_isNoCorner_17 : decode cX11_isNoCorner 17 = .ok (.iconst 1, 1) := by decide +kernel
theorem dX11_isNoCorner_18 : decode cX11_isNoCorner 18 = .ok (.goto 4, 3) := by decide +kernel
theorem dX11_isNoCorner_21 : decode cX11_isNoCorner 21 = .ok (.iconst 0, 1) := by decide +kernel
theorem dX11_isNoCorner_22 : decode cX11_isNoCorner 22 = .ok (.ireturn, 1) := by decide +kernel
theorem dX11_clock_0 : decode cX11_clock 0 = .ok (.aload_n 0, 1) := by decide +kernel
theorem dX11_clock_1 : decode cX11_clock 1 = .ok (.aload_n 0, 1) := by decide +kernel
theorem dX11_clock_2 : decode cX11_clock 2 = .ok (.getfield 55, 3) := by decide +kernel
theorem dX11_clock_5 : decode cX11_clock 5 = .ok (.ifCond .ne 14, 3) := by decide +kernel
theorem dX11_clock_8 : decode cX11_clock 8 = .ok (.aload_n 0, 1) := by decide +kernel
theorem dX11_clock_9 : decode cX11_clock 9 = .ok (.getfield 10, 3) := by decide +kernel
theorem dX11_clock_12 : decode cX11_clock 12 = .ok (.invokevirtual 37, 3) := by decide +kernel
theorem dX11_clock_15 : decode cX11_clock 15 = .ok (.iconst 4, 1) := by decide +kernel
theorem dX11_clock_16 : decode cX11_clock 16 = .ok (.if_icmp .ne 7, 3) := by decide +kernel
theorem dX11_clock_19 : decode cX11_clock 19 = .ok (.iconst 1, 1) := by decide +kernel
theorem dX11_clock_20 : decode cX11_clock 20 = .ok (.goto 4, 3) := by decide +kernel
theorem dX11_clock_23 : decode cX11_clock 23 = .ok (.iconst 0, 1) := by decide +kernel
theorem dX11_clock_24 : decode cX11_clock 24 = .ok (.iconst 1, 1) := by decide +kernel
theorem dX11_clock_25 : decode cX11_clock 25 = .ok (.invokevirtual 59, 3) := by decide +kernel
theorem dX11_clock_28 : decode cX11_clock 28 = .ok (.ifCond .ne 56, 3) := by decide +kernel
theorem dX11_clock_31 : decode cX11_clock 31 = .ok (.aload_n 0, 1) := by decide +kernel
theorem dX11_clock_32 : decode cX11_clock 32 = .ok (.iload_n 1, 1) := by decide +kernel
theorem dX11_clock_33 : decode cX11_clock 33 = .ok (.iconst 4, 1) := by decide +kernel
theorem dX11_clock_34 : decode cX11_clock 34 = .ok (.bipush 40, 2) := by decide +kernel
theorem dX11_clock_36 : decode cX11_clock 36 = .ok (.invokestatic 41, 3) := by decide +kernel
theorem dX11_clock_39 : decode cX11_clock 39 = .ok (.ifCond .eq 33, 3) := by decide +kernel
theorem dX11_clock_42 : decode cX11_clock 42 = .ok (.iload_n 2, 1) := by decide +kernel
theorem dX11_clock_43 : decode cX11_clock 43 = .ok (.iconst 0, 1) := by decide +kernel
theorem dX11_clock_44 : decode cX11_clock 44 = .ok (.bipush 40, 2) := by decide +kernel
theorem dX11_clock_46 : decode cX11_clock 46 = .ok (.invokestatic 41, 3) := by decide +kernel
theorem dX11_clock_49 : decode cX11_clock 49 = .ok (.ifCond .eq 23, 3) := by decide +kernel
theorem dX11_clock_52 : decode cX11_clock 52 = .ok (.iload_n 3, 1) := by decide +kernel
theorem dX11_clock_53 : decode cX11_clock 53 = .ok (.iconst 0, 1) := by decide +kernel
theorem dX11_clock_54 : decode cX11_clock 54 = .ok (.bipush 20, 2) := by decide +kernel
theorem dX11_clock_56 : decode cX11_clock 56 = .ok (.invokestatic 41, 3) := by decide +kernel
theorem dX11_clock_59 : decode cX11_clock 59 = .ok (.ifCond .eq 13, 3) := by decide +kernel
theorem dX11_clock_62 : decode cX11_clock 62 = .ok (.iload 4, 2) := by decide +kernel
theorem dX11_clock_64 : decode cX11_clock 64 = .ok (.iconst 0, 1) := by decide +kernel
theorem dX11_clock_65 : decode cX11_clock 65 = .ok (.iconst 1, 1) := by decide +kernel
theorem dX11_clock_66 : decode cX11_clock 66 = .ok (.invokestatic 41, 3) := by decide +kernel
theorem dX11_clock_69 : decode cX11_clock 69 = .ok (.ifCond .ne 7, 3) := by decide +kernel
theorem dX11_clock_72 : decode cX11_clock 72 = .ok (.iconst 1, 1) := by decide +kernel
theorem dX11_clock_73 : decode cX11_clock 73 = .ok (.goto 4, 3) := by decide +kernel
theorem dX11_clock_76 : decode cX11_clock 76 = .ok (.iconst 0, 1) := by decide +kernel
theorem dX11_clock_77 : decode cX11_clock 77 = .ok (.iconst 2, 1) := by decide +kernel
theorem dX11_clock_78 : decode cX11_clock 78 = .ok (.invokevirtual 33, 3) := by decide +kernel
theorem dX11_clock_81 : decode cX11_clock 81 = .ok (.ifCond .eq 5, 3) := by decide +kernel
theorem dX11_clock_84 : decode cX11_clock 84 = .ok (.iconst 0, 1) := by decide +kernel
theorem dX11_clock_85 : decode cX11_clock 85 = .ok (.ireturn, 1) := by decide +kernel
theorem dX11_clock_86 : decode cX11_clock 86 = .ok (.aload_n 0, 1) := by decide +kernel
theorem dX11_clock_87 : decode cX11_clock 87 = .ok (.getfield 10, 3) := by decide +kernel
theorem dX11_clock_90 : decode cX11_clock 90 = .ok (.iconst 5, 1) := by decide +kernel
theorem dX11_clock_91 : decode cX11_clock 91 = .ok (.newarray .int, 2) := by decide +kernel
theorem dX11_clock_93 : decode cX11_clock 93 = .ok (.dup, 1) := by decide +kernel
theorem dX11_clock_94 : decode cX11_clock 94 = .ok (.iconst 0, 1) := by decide +kernel
theorem dX11_clock_95 : decode cX11_clock 95 = .ok (.iload_n 1, 1) := by decide +kernel
theorem dX11_clock_96 : decode cX11_clock 96 = .ok (.iastore, 1) := by decide +kernel
theorem dX11_clock_97 : decode cX11_clock 97 = .ok (.dup, 1) := by decide +kernel
theorem dX11_clock_98 : decode cX11_clock 98 = .ok (.iconst 1, 1) := by decide +kernel
theorem dX11_clock_99 : decode cX11_clock 99 = .ok (.iload_n 2, 1) := by decide +kernel
theorem dX11_clock_100 : decode cX11_clock 100 = .ok (.iastore, 1) := by decide +kernel
theorem dX11_clock_101 : decode cX11_clock 101 = .ok (.dup, 1) := by decide +kernel
theorem dX11_clock_102 : decode cX11_clock 102 = .ok (.iconst 2, 1) := by decide +kernel
theorem dX11_clock_103 : decode cX11_clock 103 = .ok (.iload_n 3, 1) := by decide +kernel
theorem dX11_clock_104 : decode cX11_clock 104 = .ok (.iastore, 1) := by decide +kernel
theorem dX11_clock_105 : decode cX11_clock 105 = .ok (.dup, 1) := by decide +kernel
theorem dX11_clock_106 : decode cX11_clock 106 = .ok (.iconst 3, 1) := by decide +kernel
theorem dX11_clock_107 : decode cX11_clock 107 = .ok (.iload 4, 2) := by decide +kernel
theorem dX11_clock_109 : decode cX11_clock 109 = .ok (.iastore, 1) := by decide +kernel
theorem dX11_clock_110 : decode cX11_clock 110 = .ok (.dup, 1) := by decide +kernel
theorem dX11_clock_111 : decode cX11_clock 111 = .ok (.iconst 4, 1) := by decide +kernel
theorem dX11_clock_112 : decode cX11_clock 112 = .ok (.aload_n 0, 1) := by decide +kernel
theorem dX11_clock_113 : decode cX11_clock 113 = .ok (.getfield 10, 3) := by decide +kernel
theorem dX11_clock_116 : decode cX11_clock 116 = .ok (.invokevirtual 37, 3) := by decide +kernel
theorem dX11_clock_119 : decode cX11_clock 119 = .ok (.iastore, 1) := by decide +kernel
theorem dX11_clock_120 : decode cX11_clock 120 = .ok (.invokevirtual 25, 3) := by decide +kernel
theorem dX11_clock_123 : decode cX11_clock 123 = .ok (.pop, 1) := by decide +kernel
theorem dX11_clock_124 : decode cX11_clock 124 = .ok (.aload_n 0, 1) := by decide +kernel
theorem dX11_clock_125 : decode cX11_clock 125 = .ok (.getfield 10, 3) := by decide +kernel
theorem dX11_clock_128 : decode cX11_clock 128 = .ok (.invokevirtual 37, 3) := by decide +kernel
theorem dX11_clock_131 : decode cX11_clock 131 = .ok (.iconst 1, 1) := by decide +kernel
theorem dX11_clock_132 : decode cX11_clock 132 = .ok (.isub, 1) := by decide +kernel
theorem dX11_clock_133 : decode cX11_clock 133 = .ok (.ireturn, 1) := by decide +kernel
theorem dX11_divide_0 : decode cX11_divide 0 = .ok (.aload_n 0, 1) := by decide +kernel
theorem dX11_divide_1 : decode cX11_divide 1 = .ok (.aload_n 0, 1) := by decide +kernel
theorem dX11_divide_2 : decode cX11_divide 2 = .ok (.getfield 55, 3) := by decide +kernel
theorem dX11_divide_5 : decode cX11_divide 5 = .ok (.ifCond .ne 14, 3) := by decide +kernel
theorem dX11_divide_8 : decode cX11_divide 8 = .ok (.aload_n 0, 1) := by decide +kernel
theorem dX11_divide_9 : decode cX11_divide 9 = .ok (.getfield 10, 3) := by decide +kernel
theorem dX11_divide_12 : decode cX11_divide 12 = .ok (.invokevirtual 37, 3) := by decide +kernel
theorem dX11_divide_15 : decode cX11_divide 15 = .ok (.iconst 4, 1) := by decide +kernel
theorem dX11_divide_16 : decode cX11_divide 16 = .ok (.if_icmp .ne 7, 3) := by decide +kernel
theorem dX11_divide_19 : decode cX11_divide 19 = .ok (.iconst 1, 1) := by decide +kernel
theorem dX11_divide_20 : decode cX11_divide 20 = .ok (.goto 4, 3) := by decide +kernel
theorem dX11_divide_23 : decode cX11_divide 23 = .ok (.iconst 0, 1) := by decide +kernel
theorem dX11_divide_24 : decode cX11_divide 24 = .ok (.iconst 1, 1) := by decide +kernel
theorem dX11_divide_25 : decode cX11_divide 25 = .ok (.invokevirtual 59, 3) := by decide +kernel
theorem dX11_divide_28 : decode cX11_divide 28 = .ok (.ifCond .ne 48, 3) := by decide +kernel
theorem dX11_divide_31 : decode cX11_divide 31 = .ok (.aload_n 0, 1) := by decide +kernel
theorem dX11_divide_32 : decode cX11_divide 32 = .ok (.aload_n 0, 1) := by decide +kernel
theorem dX11_divide_33 : decode cX11_divide 33 = .ok (.iload_n 1, 1) := by decide +kernel
theorem dX11_divide_34 : decode cX11_divide 34 = .ok (.invokevirtual 62, 3) := by decide +kernel
theorem dX11_divide_37 : decode cX11_divide 37 = .ok (.iconst 2, 1) := by decide +kernel
theorem dX11_divide_38 : decode cX11_divide 38 = .ok (.invokevirtual 33, 3) := by decide +kernel
theorem dX11_divide_41 : decode cX11_divide 41 = .ok (.ifCond .ne 35, 3) := by decide +kernel
theorem dX11_divide_44 : decode cX11_divide 44 = .ok (.aload_n 0, 1) := by decide +kernel
theorem dX11_divide_45 : decode cX11_divide 45 = .ok (.iload_n 2, 1) := by decide +kernel
theorem dX11_divide_46 : decode cX11_divide 46 = .ok (.iconst 2, 1) := by decide +kernel
theorem dX11_divide_47 : decode cX11_divide 47 = .ok (.iconst 4, 1) := by decide +kernel
theorem dX11_divide_48 : decode cX11_divide 48 = .ok (.invokestatic 41, 3) := by decide +kernel
theorem dX11_divide_51 : decode cX11_divide 51 = .ok (.ifCond .eq 13, 3) := by decide +kernel
theorem dX11_divide_54 : decode cX11_divide 54 = .ok (.iload_n 3, 1) := by decide +kernel
theorem dX11_divide_55 : decode cX11_divide 55 = .ok (.iconst 0, 1) := by decide +kernel
theorem dX11_divide_56 : decode cX11_divide 56 = .ok (.bipush 20, 2) := by decide +kernel
theorem dX11_divide_58 : decode cX11_divide 58 = .ok (.invokestatic 41, 3) := by decide +kernel
theorem dX11_divide_61 : decode cX11_divide 61 = .ok (.ifCond .ne 7, 3) := by decide +kernel
theorem dX11_divide_64 : decode cX11_divide 64 = .ok (.iconst 1, 1) := by decide +kernel
theorem dX11_divide_65 : decode cX11_divide 65 = .ok (.goto 4, 3) := by decide +kernel
theorem dX11_divide_68 : decode cX11_divide 68 = .ok (.iconst 0, 1) := by decide +kernel
theorem dX11_divide_69 : decode cX11_divide 69 = .ok (.iconst 3, 1) := by decide +kernel
theorem dX11_divide_70 : decode cX11_divide 70 = .ok (.invokevirtual 33, 3) := by decide +kernel
theorem dX11_divide_73 : decode cX11_divide 73 = .ok (.ifCond .eq 5, 3) := by decide +kernel
theorem dX11_divide_76 : decode cX11_divide 76 = .ok (.iconst 0, 1) := by decide +kernel
theorem dX11_divide_77 : decode cX11_divide 77 = .ok (.ireturn, 1) := by decide +kernel
theorem dX11_divide_78 : decode cX11_divide 78 = .ok (.aload_n 0, 1) := by decide +kernel
theorem dX11_divide_79 : decode cX11_divide 79 = .ok (.getfield 10, 3) := by decide +kernel
theorem dX11_divide_82 : decode cX11_divide 82 = .ok (.iload_n 1, 1) := by decide +kernel
theorem dX11_divide_83 : decode cX11_divide 83 = .ok (.invokevirtual 45, 3) := by decide +kernel
theorem dX11_divide_86 : decode cX11_divide 86 = .ok (.checkcast 49, 3) := by decide +kernel
theorem dX11_divide_89 : decode cX11_divide 89 = .ok (.astore 4, 2) := by decide +kernel
theorem dX11_divide_91 : decode cX11_divide 91 = .ok (.aload_n 0, 1) := by decide +kernel
theorem dX11_divide_92 : decode cX11_divide 92 = .ok (.getfield 10, 3) := by decide +kernel
theorem dX11_divide_95 : decode cX11_divide 95 = .ok (.iconst 5, 1) := by decide +kernel
theorem dX11_divide_96 : decode cX11_divide 96 = .ok (.newarray .int, 2) := by decide +kernel
theorem dX11_divide_98 : decode cX11_divide 98 = .ok (.dup, 1) := by decide +kernel
theorem dX11_divide_99 : decode cX11_divide 99 = .ok (.iconst 0, 1) := by decide +kernel
theorem dX11_divide_100 : decode cX11_divide 100 = .ok (.aload 4, 2) := by decide +kernel
theorem dX11_divide_102 : decode cX11_divide 102 = .ok (.iconst 0, 1) := by decide +kernel
theorem dX11_divide_103 : decode cX11_divide 103 = .ok (.iaload, 1) := by decide +kernel
theorem dX11_divide_104 : decode cX11_divide 104 = .ok (.iload_n 2, 1) := by decide +kernel
theorem dX11_divide_105 : decode cX11_divide 105 = .ok (.imul, 1) := by decide +kernel
theorem dX11_divide_106 : decode cX11_divide 106 = .ok (.iastore, 1) := by decide +kernel
theorem dX11_divide_107 : decode cX11_divide 107 = .ok (.dup, 1) := by decide +kernel
theorem dX11_divide_108 : decode cX11_divide 108 = .ok (.iconst 1, 1) := by decide +kernel
theorem dX11_divide_109 : decode cX11_divide 109 = .ok (.aload 4, 2) := by decide +kernel
theorem dX11_divide_111 : decode cX11_divide 111 = .ok (.iconst 1, 1) := by decide +kernel
theorem dX11_divide_112 : decode cX11_divide 112 = .ok (.iaload, 1) := by decide +kernel
theorem dX11_divide_113 : decode cX11_divide 113 = .ok (.iload_n 3, 1) := by decide +kernel
theorem dX11_divide_114 : decode cX11_divide 114 = .ok (.iadd, 1) := by decide +kernel
theorem dX11_divide_115 : decode cX11_divide 115 = .ok (.iastore, 1) := by decide +kernel
theorem dX11_divide_116 : decode cX11_divide 116 = .ok (.dup, 1) := by decide +kernel
theorem dX11_divide_117 : decode cX11_divide 117 = .ok (.iconst 2, 1) := by decide +kernel
theorem dX11_divide_118 : decode cX11_divide 118 = .ok (.aload 4, 2) := by decide +kernel
theorem dX11_divide_120 : decode cX11_divide 120 = .ok (.iconst 2, 1) := by decide +kernel
theorem dX11_divide_121 : decode cX11_divide 121 = .ok (.iaload, 1) := by decide +kernel
theorem dX11_divide_122 : decode cX11_divide 122 = .ok (.iastore, 1) := by decide +kernel
theorem dX11_divide_123 : decode cX11_divide 123 = .ok (.dup, 1) := by decide +kernel
theorem dX11_divide_124 : decode cX11_divide 124 = .ok (.iconst 3, 1) := by decide +kernel
theorem dX11_divide_125 : decode cX11_divide 125 = .ok (.aload 4, 2) := by decide +kernel
theorem dX11_divide_127 : decode cX11_divide 127 = .ok (.iconst 3, 1) := by decide +kernel
theorem dX11_divide_128 : decode cX11_divide 128 = .ok (.iaload, 1) := by decide +kernel
theorem dX11_divide_129 : decode cX11_divide 129 = .ok (.iastore, 1) := by decide +kernel
theorem dX11_divide_130 : decode cX11_divide 130 = .ok (.dup, 1) := by decide +kernel
theorem dX11_divide_131 : decode cX11_divide 131 = .ok (.iconst 4, 1) := by decide +kernel
theorem dX11_divide_132 : decode cX11_divide 132 = .ok (.aload 4, 2) := by decide +kernel
theorem dX11_divide_134 : decode cX11_divide 134 = .ok (.iconst 4, 1) := by decide +kernel
theorem dX11_divide_135 : decode cX11_divide 135 = .ok (.iaload, 1) := by decide +kernel
theorem dX11_divide_136 : decode cX11_divide 136 = .ok (.iastore, 1) := by decide +kernel
theorem dX11_divide_137 : decode cX11_divide 137 = .ok (.invokevirtual 25, 3) := by decide +kernel
theorem dX11_divide_140 : decode cX11_divide 140 = .ok (.pop, 1) := by decide +kernel
theorem dX11_divide_141 : decode cX11_divide 141 = .ok (.aload_n 0, 1) := by decide +kernel
theorem dX11_divide_142 : decode cX11_divide 142 = .ok (.getfield 10, 3) := by decide +kernel
theorem dX11_divide_145 : decode cX11_divide 145 = .ok (.invokevirtual 37, 3) := by decide +kernel
theorem dX11_divide_148 : decode cX11_divide 148 = .ok (.iconst 1, 1) := by decide +kernel
theorem dX11_divide_149 : decode cX11_divide 149 = .ok (.isub, 1) := by decide +kernel
theorem dX11_divide_150 : decode cX11_divide 150 = .ok (.ireturn, 1) := by decide +kernel
theorem dX11_corner_0 : decode cX11_corner 0 = .ok (.aload_n 0, 1) := by decide +kernel
theorem dX11_corner_1 : decode cX11_corner 1 = .ok (.aload_n 0, 1) := by decide +kernel
theorem dX11_corner_2 : decode cX11_corner 2 = .ok (.getfield 55, 3) := by decide +kernel
theorem dX11_corner_5 : decode cX11_corner 5 = .ok (.ifCond .ne 14, 3) := by decide +kernel
theorem dX11_corner_8 : decode cX11_corner 8 = .ok (.aload_n 0, 1) := by decide +kernel
theorem dX11_corner_9 : decode cX11_corner 9 = .ok (.getfield 16, 3) := by decide +kernel
theorem dX11_corner_12 : decode cX11_corner 12 = .ok (.invokevirtual 37, 3) := by decide +kernel
theorem dX11_corner_15 : decode cX11_corner 15 = .ok (.iconst 3, 1) := by decide +kernel
theorem dX11_corner_16 : decode cX11_corner 16 = .ok (.if_icmp .ne 7, 3) := by decide +kernel
theorem dX11_corner_19 : decode cX11_corner 19 = .ok (.iconst 1, 1) := by decide +kernel
theorem dX11_corner_20 : decode cX11_corner 20 = .ok (.goto 4, 3) := by decide +kernel
theorem dX11_corner_23 : decode cX11_corner 23 = .ok (.iconst 0, 1) := by decide +kernel
theorem dX11_corner_24 : decode cX11_corner 24 = .ok (.iconst 1, 1) := by decide +kernel
theorem dX11_corner_25 : decode cX11_corner 25 = .ok (.invokevirtual 59, 3) := by decide +kernel
theorem dX11_corner_28 : decode cX11_corner 28 = .ok (.ifCond .ne 37, 3) := by decide +kernel
theorem dX11_corner_31 : decode cX11_corner 31 = .ok (.aload_n 0, 1) := by decide +kernel
theorem dX11_corner_32 : decode cX11_corner 32 = .ok (.iload_n 1, 1) := by decide +kernel
theorem dX11_corner_33 : decode cX11_corner 33 = .ok (.bipush 8, 2) := by decide +kernel
theorem dX11_corner_35 : decode cX11_corner 35 = .ok (.bipush 16, 2) := by decide +kernel
theorem dX11_corner_37 : decode cX11_corner 37 = .ok (.invokestatic 41, 3) := by decide +kernel
theorem dX11_corner_40 : decode cX11_corner 40 = .ok (.ifCond .eq 13, 3) := by decide +kernel
theorem dX11_corner_43 : decode cX11_corner 43 = .ok (.iload_n 2, 1) := by decide +kernel
theorem dX11_corner_44 : decode cX11_corner 44 = .ok (.iconst 1, 1) := by decide +kernel
theorem dX11_corner_45 : decode cX11_corner 45 = .ok (.bipush 8, 2) := by decide +kernel
theorem dX11_corner_47 : decode cX11_corner 47 = .ok (.invokestatic 41, 3) := by decide +kernel
theorem dX11_corner_50 : decode cX11_corner 50 = .ok (.ifCond .ne 7, 3) := by decide +kernel
theorem dX11_corner_53 : decode cX11_corner 53 = .ok (.iconst 1, 1) := by decide +kernel
theorem dX11_corner_54 : decode cX11_corner 54 = .ok (.goto 4, 3) := by decide +kernel
theorem dX11_corner_57 : decode cX11_corner 57 = .ok (.iconst 0, 1) := by decide +kernel
theorem dX11_corner_58 : decode cX11_corner 58 = .ok (.iconst 2, 1) := by decide +kernel
theorem dX11_corner_59 : decode cX11_corner 59 = .ok (.invokevirtual 33, 3) := by decide +kernel
theorem dX11_corner_62 : decode cX11_corner 62 = .ok (.ifCond .eq 5, 3) := by decide +kernel
theorem dX11_corner_65 : decode cX11_corner 65 = .ok (.iconst 0, 1) := by decide +kernel
theorem dX11_corner_66 : decode cX11_corner 66 = .ok (.ireturn, 1) := by decide +kernel
theorem dX11_corner_67 : decode cX11_corner 67 = .ok (.aload_n 0, 1) := by decide +kernel
theorem dX11_corner_68 : decode cX11_corner 68 = .ok (.getfield 16, 3) := by decide +kernel
theorem dX11_corner_71 : decode cX11_corner 71 = .ok (.iconst 2, 1) := by decide +kernel
theorem dX11_corner_72 : decode cX11_corner 72 = .ok (.newarray .int, 2) := by decide +kernel
theorem dX11_corner_74 : decode cX11_corner 74 = .ok (.dup, 1) := by decide +kernel
theorem dX11_corner_75 : decode cX11_corner 75 = .ok (.iconst 0, 1) := by decide +kernel
theorem dX11_corner_76 : decode cX11_corner 76 = .ok (.iload_n 1, 1) := by decide +kernel
theorem dX11_corner_77 : decode cX11_corner 77 = .ok (.iastore, 1) := by decide +kernel
theorem dX11_corner_78 : decode cX11_corner 78 = .ok (.dup, 1) := by decide +kernel
theorem dX11_corner_79 : decode cX11_corner 79 = .ok (.iconst 1, 1) := by decide +kernel
theorem dX11_corner_80 : decode cX11_corner 80 = .ok (.iload_n 2, 1) := by decide +kernel
theorem dX11_corner_81 : decode cX11_corner 81 = .ok (.iastore, 1) := by decide +kernel
theorem dX11_corner_82 : decode cX11_corner 82 = .ok (.invokevirtual 25, 3) := by decide +kernel
theorem dX11_corner_85 : decode cX11_corner 85 = .ok (.pop, 1) := by decide +kernel
theorem dX11_corner_86 : decode cX11_corner 86 = .ok (.aload_n 0, 1) := by decide +kernel
theorem dX11_corner_87 : decode cX11_corner 87 = .ok (.getfield 16, 3) := by decide +kernel
theorem dX11_corner_90 : decode cX11_corner 90 = .ok (.invokevirtual 37, 3) := by decide +kernel
theorem dX11_corner_93 : decode cX11_corner 93 = .ok (.iconst 1, 1) := by decide +kernel
theorem dX11_corner_94 : decode cX11_corner 94 = .ok (.isub, 1) := by decide +kernel
theorem dX11_corner_95 : decode cX11_corner 95 = .ok (.ireturn, 1) := by decide +kernel
theorem dX11_node_0 : decode cX11_node 0 = .ok (.iload_n 1, 1) := by decide +kernel
theorem dX11_node_1 : decode cX11_node 1 = .ok (.iconst 3, 1) := by decide +kernel
theorem dX11_node_2 : decode cX11_node 2 = .ok (.iconst 5, 1) := by decide +kernel
theorem dX11_node_3 : decode cX11_node 3 = .ok (.invokestatic 41, 3) := by decide +kernel
theorem dX11_node_6 : decode cX11_node 6 = .ok (.istore 5, 2) := by decide +kernel
theorem dX11_node_8 : decode cX11_node 8 = .ok (.iload 5, 2) := by decide +kernel
theorem dX11_node_10 : decode cX11_node 10 = .ok (.ifCond .ne 24, 3) := by decide +kernel
theorem dX11_node_13 : decode cX11_node 13 = .ok (.iload_n 1, 1) := by decide +kernel
theorem dX11_node_14 : decode cX11_node 14 = .ok (.iconst 1, 1) := by decide +kernel
theorem dX11_node_15 : decode cX11_node 15 = .ok (.iconst 2, 1) := by decide +kernel
theorem dX11_node_16 : decode cX11_node 16 = .ok (.invokestatic 41, 3) := by decide +kernel
theorem dX11_node_19 : decode cX11_node 19 = .ok (.ifCond .ne 15, 3) := by decide +kernel
theorem dX11_node_22 : decode cX11_node 22 = .ok (.iload_n 1, 1) := by decide +kernel
theorem dX11_node_23 : decode cX11_node 23 = .ok (.bipush 7, 2) := by decide +kernel
theorem dX11_node_25 : decode cX11_node 25 = .ok (.if_icmp .eq 9, 3) := by decide +kernel
theorem dX11_node_28 : decode cX11_node 28 = .ok (.iload_n 1, 1) := by decide +kernel
theorem dX11_node_29 : decode cX11_node 29 = .ok (.bipush 8, 2) := by decide +kernel
theorem dX11_node_31 : decode cX11_node 31 = .ok (.if_icmp .ne 7, 3) := by decide +kernel
theorem dX11_node_34 : decode cX11_node 34 = .ok (.iconst 1, 1) := by decide +kernel
theorem dX11_node_35 : decode cX11_node 35 = .ok (.goto 4, 3) := by decide +kernel
theorem dX11_node_38 : decode cX11_node 38 = .ok (.iconst 0, 1) := by decide +kernel
theorem dX11_node_39 : decode cX11_node 39 = .ok (.istore 6, 2) := by decide +kernel
theorem dX11_node_41 : decode cX11_node 41 = .ok (.iload_n 1, 1) := by decide +kernel
theorem dX11_node_42 : decode cX11_node 42 = .ok (.ifCond .eq 14, 3) := by decide +kernel
theorem dX11_node_45 : decode cX11_node 45 = .ok (.iload_n 1, 1) := by decide +kernel
theorem dX11_node_46 : decode cX11_node 46 = .ok (.bipush 6, 2) := by decide +kernel
theorem dX11_node_48 : decode cX11_node 48 = .ok (.bipush 8, 2) := by decide +kernel
theorem dX11_node_50 : decode cX11_node 50 = .ok (.invokestatic 41, 3) := by decide +kernel
theorem dX11_node_53 : decode cX11_node 53 = .ok (.ifCond .eq 7, 3) := by decide +kernel
theorem dX11_node_56 : decode cX11_node 56 = .ok (.iconst 1, 1) := by decide +kernel
theorem dX11_node_57 : decode cX11_node 57 = .ok (.goto 4, 3) := by decide +kernel
theorem dX11_node_60 : decode cX11_node 60 = .ok (.iconst 0, 1) := by decide +kernel
theorem dX11_node_61 : decode cX11_node 61 = .ok (.istore 7, 2) := by decide +kernel
theorem dX11_node_63 : decode cX11_node 63 = .ok (.aload_n 0, 1) := by decide +kernel
theorem dX11_node_64 : decode cX11_node 64 = .ok (.aload_n 0, 1) := by decide +kernel
theorem dX11_node_65 : decode cX11_node 65 = .ok (.getfield 55, 3) := by decide +kernel
theorem dX11_node_68 : decode cX11_node 68 = .ok (.ifCond .ne 15, 3) := by decide +kernel
theorem dX11_node_71 : decode cX11_node 71 = .ok (.aload_n 0, 1) := by decide +kernel
theorem dX11_node_72 : decode cX11_node 72 = .ok (.getfield 19, 3) := by decide +kernel
theorem dX11_node_75 : decode cX11_node 75 = .ok (.invokevirtual 37, 3) := by decide +kernel
theorem dX11_node_78 : decode cX11_node 78 = .ok (.bipush 16, 2) := by decide +kernel
theorem dX11_node_80 : decode cX11_node 80 = .ok (.if_icmp .ne 7, 3) := by decide +kernel
theorem dX11_node_83 : decode cX11_node 83 = .ok (.iconst 1, 1) := by decide +kernel
theorem dX11_node_84 : decode cX11_node 84 = .ok (.goto 4, 3) := by decide +kernel
theorem dX11_node_87 : decode cX11_node 87 = .ok (.iconst 0, 1) := by decide +kernel
theorem dX11_node_88 : decode cX11_node 88 = .ok (.iconst 1, 1) := by decide +kernel
theorem dX11_node_89 : decode cX11_node 89 = .ok (.invokevirtual 59, 3) := by decide +kernel
theorem dX11_node_92 : decode cX11_node 92 = .ok (.ifCond .ne 56, 3) := by decide +kernel
theorem dX11_node_95 : decode cX11_node 95 = .ok (.aload_n 0, 1) := by decide +kernel
theorem dX11_node_96 : decode cX11_node 96 = .ok (.iload 6, 2) := by decide +kernel
theorem dX11_node_98 : decode cX11_node 98 = .ok (.ifCond .eq 11, 3) := by decide +kernel
theorem dX11_node_101 : decode cX11_node 101 = .ok (.aload_n 0, 1) := by decide +kernel
theorem dX11_node_102 : decode cX11_node 102 = .ok (.iload_n 2, 1) := by decide +kernel
theorem dX11_node_103 : decode cX11_node 103 = .ok (.invokevirtual 66, 3) := by decide +kernel
theorem dX11_node_106 : decode cX11_node 106 = .ok (.ifCond .ne 30, 3) := by decide +kernel
theorem dX11_node_109 : decode cX11_node 109 = .ok (.iload 5, 2) := by decide +kernel
theorem dX11_node_111 : decode cX11_node 111 = .ok (.ifCond .eq 11, 3) := by decide +kernel
theorem dX11_node_114 : decode cX11_node 114 = .ok (.aload_n 0, 1) := by decide +kernel
theorem dX11_node_115 : decode cX11_node 115 = .ok (.iload_n 3, 1) := by decide +kernel
theorem dX11_node_116 : decode cX11_node 116 = .ok (.invokevirtual 66, 3) := by decide +kernel
theorem dX11_node_119 : decode cX11_node 119 = .ok (.ifCond .ne 17, 3) := by decide +kernel
theorem dX11_node_122 : decode cX11_node 122 = .ok (.iload 7, 2) := by decide +kernel
theorem dX11_node_124 : decode cX11_node 124 = .ok (.ifCond .eq 16, 3) := by decide +kernel
theorem dX11_node_127 : decode cX11_node 127 = .ok (.aload_n 0, 1) := by decide +kernel
theorem dX11_node_128 : decode cX11_node 128 = .ok (.iload 4, 2) := by decide +kernel
theorem dX11_node_130 : decode cX11_node 130 = .ok (.invokevirtual 62, 3) := by decide +kernel
theorem dX11_node_133 : decode cX11_node 133 = .ok (.ifCond .eq 7, 3) := by decide +kernel
theorem dX11_node_136 : decode cX11_node 136 = .ok (.iconst 1, 1) := by decide +kernel
theorem dX11_node_137 : decode cX11_node 137 = .ok (.goto 4, 3) := by decide +kernel
theorem dX11_node_140 : decode cX11_node 140 = .ok (.iconst 0, 1) := by decide +kernel
theorem dX11_node_141 : decode cX11_node 141 = .ok (.iconst 2, 1) := by decide +kernel
theorem dX11_node_142 : decode cX11_node 142 = .ok (.invokevirtual 33, 3) := by decide +kernel
theorem dX11_node_145 : decode cX11_node 145 = .ok (.ifCond .eq 5, 3) := by decide +kernel
theorem dX11_node_148 : decode cX11_node 148 = .ok (.iconst 0, 1) := by decide +kernel
theorem dX11_node_149 : decode cX11_node 149 = .ok (.ireturn, 1) := by decide +kernel
theorem dX11_node_150 : decode cX11_node 150 = .ok (.aload_n 0, 1) := by decide +kernel
theorem dX11_node_151 : decode cX11_node 151 = .ok (.iload_n 1, 1) := by decide +kernel
theorem dX11_node_152 : decode cX11_node 152 = .ok (.iconst 0, 1) := by decide +kernel
theorem dX11_node_153 : decode cX11_node 153 = .ok (.bipush 8, 2) := by decide +kernel
theorem dX11_node_155 : decode cX11_node 155 = .ok (.invokestatic 41, 3) := by decide +kernel
theorem dX11_node_158 : decode cX11_node 158 = .ok (.ifCond .eq 33, 3) := by decide +kernel
theorem dX11_node_161 : decode cX11_node 161 = .ok (.iload 6, 2) := by decide +kernel
theorem dX11_node_163 : decode cX11_node 163 = .ok (.ifCond .eq 13, 3) := by decide +kernel
theorem dX11_node_166 : decode cX11_node 166 = .ok (.aload_n 0, 1) := by decide +kernel
theorem dX11_node_167 : decode cX11_node 167 = .ok (.iload_n 2, 1) := by decide +kernel
theorem dX11_node_168 : decode cX11_node 168 = .ok (.invokevirtual 51, 3) := by decide +kernel
theorem dX11_node_171 : decode cX11_node 171 = .ok (.bipush 8, 2) := by decide +kernel
theorem dX11_node_173 : decode cX11_node 173 = .ok (.if_icmp .eq 18, 3) := by decide +kernel
theorem dX11_node_176 : decode cX11_node 176 = .ok (.iload 5, 2) := by decide +kernel
theorem dX11_node_178 : decode cX11_node 178 = .ok (.ifCond .eq 17, 3) := by decide +kernel
theorem dX11_node_181 : decode cX11_node 181 = .ok (.aload_n 0, 1) := by decide +kernel
theorem dX11_node_182 : decode cX11_node 182 = .ok (.iload_n 3, 1) := by decide +kernel
theorem dX11_node_183 : decode cX11_node 183 = .ok (.invokevirtual 51, 3) := by decide +kernel
theorem dX11_node_186 : decode cX11_node 186 = .ok (.bipush 8, 2) := by decide +kernel
theorem dX11_node_188 : decode cX11_node 188 = .ok (.if_icmp .ne 7, 3) := by decide +kernel
theorem dX11_node_191 : decode cX11_node 191 = .ok (.iconst 1, 1) := by decide +kernel
theorem dX11_node_192 : decode cX11_node 192 = .ok (.goto 4, 3) := by decide +kernel
theorem dX11_node_195 : decode cX11_node 195 = .ok (.iconst 0, 1) := by decide +kernel
theorem dX11_node_196 : decode cX11_node 196 = .ok (.iconst 3, 1) := by decide +kernel
theorem dX11_node_197 : decode cX11_node 197 = .ok (.invokevirtual 33, 3) := by decide +kernel
theorem dX11_node_200 : decode cX11_node 200 = .ok (.ifCond .eq 5, 3) := by decide +kernel
theorem dX11_node_203 : decode cX11_node 203 = .ok (.iconst 0, 1) := by decide +kernel
theorem dX11_node_204 : decode cX11_node 204 = .ok (.ireturn, 1) := by decide +kernel
theorem dX11_node_205 : decode cX11_node 205 = .ok (.aload_n 0, 1) := by decide +kernel
theorem dX11_node_206 : decode cX11_node 206 = .ok (.getfield 19, 3) := by decide +kernel
theorem dX11_node_209 : decode cX11_node 209 = .ok (.bipush 7, 2) := by decide +kernel
theorem dX11_node_211 : decode cX11_node 211 = .ok (.newarray .int, 2) := by decide +kernel
theorem dX11_node_213 : decode cX11_node 213 = .ok (.dup, 1) := by decide +kernel
theorem dX11_node_214 : decode cX11_node 214 = .ok (.iconst 0, 1) := by decide +kernel
theorem dX11_node_215 : decode cX11_node 215 = .ok (.iload_n 1, 1) := by decide +kernel
theorem dX11_node_216 : decode cX11_node 216 = .ok (.iastore, 1) := by decide +kernel
theorem dX11_node_217 : decode cX11_node 217 = .ok (.dup, 1) := by decide +kernel
theorem dX11_node_218 : decode cX11_node 218 = .ok (.iconst 1, 1) := by decide +kernel
theorem dX11_node_219 : decode cX11_node 219 = .ok (.iload 6, 2) := by decide +kernel
theorem dX11_node_221 : decode cX11_node 221 = .ok (.ifCond .eq 7, 3) := by decide +kernel
theorem dX11_node_224 : decode cX11_node 224 = .ok (.iload_n 2, 1) := by decide +kernel
theorem dX11_node_225 : decode cX11_node 225 = .ok (.goto 4, 3) := by decide +kernel
theorem dX11_node_228 : decode cX11_node 228 = .ok (.iconst (-1), 1) := by decide +kernel
theorem dX11_node_229 : decode cX11_node 229 = .ok (.iastore, 1) := by decide +kernel
theorem dX11_node_230 : decode cX11_node 230 = .ok (.dup, 1) := by decide +kernel
theorem dX11_node_231 : decode cX11_node 231 = .ok (.iconst 2, 1) := by decide +kernel
theorem dX11_node_232 : decode cX11_node 232 = .ok (.iload 5, 2) := by decide +kernel
theorem dX11_node_234 : decode cX11_node 234 = .ok (.ifCond .eq 7, 3) := by decide +kernel
theorem dX11_node_237 : decode cX11_node 237 = .ok (.iload_n 3, 1) := by decide +kernel
theorem dX11_node_238 : decode cX11_node 238 = .ok (.goto 4, 3) := by decide +kernel
theorem dX11_node_241 : decode cX11_node 241 = .ok (.iconst (-1), 1) := by decide +kernel
theorem dX11_node_242 : decode cX11_node 242 = .ok (.iastore, 1) := by decide +kernel
theorem dX11_node_243 : decode cX11_node 243 = .ok (.dup, 1) := by decide +kernel
theorem dX11_node_244 : decode cX11_node 244 = .ok (.iconst 3, 1) := by decide +kernel
theorem dX11_node_245 : decode cX11_node 245 = .ok (.iload 7, 2) := by decide +kernel
theorem dX11_node_247 : decode cX11_node 247 = .ok (.ifCond .eq 8, 3) := by decide +kernel
theorem dX11_node_250 : decode cX11_node 250 = .ok (.iload 4, 2) := by decide +kernel
theorem dX11_node_252 : decode cX11_node 252 = .ok (.goto 4, 3) := by decide +kernel
theorem dX11_node_255 : decode cX11_node 255 = .ok (.iconst (-1), 1) := by decide +kernel
theorem dX11_node_256 : decode cX11_node 256 = .ok (.iastore, 1) := by decide +kernel
theorem dX11_node_257 : decode cX11_node 257 = .ok (.dup, 1) := by decide +kernel
theorem dX11_node_258 : decode cX11_node 258 = .ok (.iconst 4, 1) := by decide +kernel
theorem dX11_node_259 : decode cX11_node 259 = .ok (.iconst 1, 1) := by decide +kernel
theorem dX11_node_260 : decode cX11_node 260 = .ok (.iastore, 1) := by decide +kernel
theorem dX11_node_261 : decode cX11_node 261 = .ok (.dup, 1) := by decide +kernel
theorem dX11_node_262 : decode cX11_node 262 = .ok (.iconst 5, 1) := by decide +kernel
theorem dX11_node_263 : decode cX11_node 263 = .ok (.iconst 4, 1) := by decide +kernel
theorem dX11_node_264 : decode cX11_node 264 = .ok (.iastore, 1) := by decide +kernel
theorem dX11_node_265 : decode cX11_node 265 = .ok (.dup, 1) := by decide +kernel
theorem dX11_node_266 : decode cX11_node 266 = .ok (.bipush 6, 2) := by decide +kernel
theorem dX11_node_268 : decode cX11_node 268 = .ok (.iconst 0, 1) := by decide +kernel
theorem dX11_node_269 : decode cX11_node 269 = .ok (.iastore, 1) := by decide +kernel
theorem dX11_node_270 : decode cX11_node 270 = .ok (.invokevirtual 25, 3) := by decide +kernel
theorem dX11_node_273 : decode cX11_node 273 = .ok (.pop, 1) := by decide +kernel
theorem dX11_node_274 : decode cX11_node 274 = .ok (.aload_n 0, 1) := by decide +kernel
theorem dX11_node_275 : decode cX11_node 275 = .ok (.getfield 19, 3) := by decide +kernel
theorem dX11_node_278 : decode cX11_node 278 = .ok (.invokevirtual 37, 3) := by decide +kernel
theorem dX11_node_281 : decode cX11_node 281 = .ok (.iconst 1, 1) := by decide +kernel
theorem dX11_node_282 : decode cX11_node 282 = .ok (.isub, 1) := by decide +kernel
theorem dX11_node_283 : decode cX11_node 283 = .ok (.ireturn, 1) := by decide +kernel
theorem dX11_feed_0 : decode cX11_feed 0 = .ok (.aload_n 0, 1) := by decide +kernel
theorem dX11_feed_1 : decode cX11_feed 1 = .ok (.aload_n 0, 1) := by decide +kernel
theorem dX11_feed_2 : decode cX11_feed 2 = .ok (.getfield 55, 3) := by decide +kernel
theorem dX11_feed_5 : decode cX11_feed 5 = .ok (.iconst 1, 1) := by decide +kernel
theorem dX11_feed_6 : decode cX11_feed 6 = .ok (.invokevirtual 59, 3) := by decide +kernel
theorem dX11_feed_9 : decode cX11_feed 9 = .ok (.ifCond .ne 65, 3) := by decide +kernel
theorem dX11_feed_12 : decode cX11_feed 12 = .ok (.aload_n 0, 1) := by decide +kernel
theorem dX11_feed_13 : decode cX11_feed 13 = .ok (.aload_n 0, 1) := by decide +kernel
theorem dX11_feed_14 : decode cX11_feed 14 = .ok (.iload_n 1, 1) := by decide +kernel
theorem dX11_feed_15 : decode cX11_feed 15 = .ok (.invokevirtual 66, 3) := by decide +kernel
theorem dX11_feed_18 : decode cX11_feed 18 = .ok (.ifCond .ne 11, 3) := by decide +kernel
theorem dX11_feed_21 : decode cX11_feed 21 = .ok (.aload_n 0, 1) := by decide +kernel
theorem dX11_feed_22 : decode cX11_feed 22 = .ok (.iload_n 2, 1) := by decide +kernel
theorem dX11_feed_23 : decode cX11_feed 23 = .ok (.invokevirtual 66, 3) := by decide +kernel
theorem dX11_feed_26 : decode cX11_feed 26 = .ok (.ifCond .eq 7, 3) := by decide +kernel
theorem dX11_feed_29 : decode cX11_feed 29 = .ok (.iconst 1, 1) := by decide +kernel
theorem dX11_feed_30 : decode cX11_feed 30 = .ok (.goto 4, 3) := by decide +kernel
theorem dX11_feed_33 : decode cX11_feed 33 = .ok (.iconst 0, 1) := by decide +kernel
theorem dX11_feed_34 : decode cX11_feed 34 = .ok (.iconst 2, 1) := by decide +kernel
theorem dX11_feed_35 : decode cX11_feed 35 = .ok (.invokevirtual 33, 3) := by decide +kernel
theorem dX11_feed_38 : decode cX11_feed 38 = .ok (.ifCond .ne 36, 3) := by decide +kernel
theorem dX11_feed_41 : decode cX11_feed 41 = .ok (.aload_n 0, 1) := by decide +kernel
theorem dX11_feed_42 : decode cX11_feed 42 = .ok (.aload_n 0, 1) := by decide +kernel
theorem dX11_feed_43 : decode cX11_feed 43 = .ok (.iload_n 1, 1) := by decide +kernel
theorem dX11_feed_44 : decode cX11_feed 44 = .ok (.invokevirtual 51, 3) := by decide +kernel
theorem dX11_feed_47 : decode cX11_feed 47 = .ok (.bipush 6, 2) := by decide +kernel
theorem dX11_feed_49 : decode cX11_feed 49 = .ok (.if_icmp .ne 13, 3) := by decide +kernel
theorem dX11_feed_52 : decode cX11_feed 52 = .ok (.aload_n 0, 1) := by decide +kernel
theorem dX11_feed_53 : decode cX11_feed 53 = .ok (.iload_n 2, 1) := by decide +kernel
theorem dX11_feed_54 : decode cX11_feed 54 = .ok (.invokevirtual 51, 3) := by decide +kernel
theorem dX11_feed_57 : decode cX11_feed 57 = .ok (.bipush 8, 2) := by decide +kernel
theorem dX11_feed_59 : decode cX11_feed 59 = .ok (.if_icmp .ne 7, 3) := by decide +kernel
theorem dX11_feed_62 : decode cX11_feed 62 = .ok (.iconst 1, 1) := by decide +kernel
theorem dX11_feed_63 : decode cX11_feed 63 = .ok (.goto 4, 3) := by decide +kernel
theorem dX11_feed_66 : decode cX11_feed 66 = .ok (.iconst 0, 1) := by decide +kernel
theorem dX11_feed_67 : decode cX11_feed 67 = .ok (.iconst 3, 1) := by decide +kernel
theorem dX11_feed_68 : decode cX11_feed 68 = .ok (.invokevirtual 33, 3) := by decide +kernel
theorem dX11_feed_71 : decode cX11_feed 71 = .ok (.ifCond .eq 5, 3) := by decide +kernel
theorem dX11_feed_74 : decode cX11_feed 74 = .ok (.iconst 0, 1) := by decide +kernel
theorem dX11_feed_75 : decode cX11_feed 75 = .ok (.ireturn, 1) := by decide +kernel
theorem dX11_feed_76 : decode cX11_feed 76 = .ok (.aload_n 0, 1) := by decide +kernel
theorem dX11_feed_77 : decode cX11_feed 77 = .ok (.getfield 19, 3) := by decide +kernel
theorem dX11_feed_80 : decode cX11_feed 80 = .ok (.iload_n 1, 1) := by decide +kernel
theorem dX11_feed_81 : decode cX11_feed 81 = .ok (.invokevirtual 45, 3) := by decide +kernel
theorem dX11_feed_84 : decode cX11_feed 84 = .ok (.checkcast 49, 3) := by decide +kernel
theorem dX11_feed_87 : decode cX11_feed 87 = .ok (.iconst 1, 1) := by decide +kernel
theorem dX11_feed_88 : decode cX11_feed 88 = .ok (.iaload, 1) := by decide +kernel
theorem dX11_feed_89 : decode cX11_feed 89 = .ok (.istore_n 3, 1) := by decide +kernel
theorem dX11_feed_90 : decode cX11_feed 90 = .ok (.aload_n 0, 1) := by decide +kernel
theorem dX11_feed_91 : decode cX11_feed 91 = .ok (.getfield 19, 3) := by decide +kernel
theorem dX11_feed_94 : decode cX11_feed 94 = .ok (.iload_n 1, 1) := by decide +kernel
theorem dX11_feed_95 : decode cX11_feed 95 = .ok (.invokevirtual 45, 3) := by decide +kernel
theorem dX11_feed_98 : decode cX11_feed 98 = .ok (.checkcast 49, 3) := by decide +kernel
theorem dX11_feed_101 : decode cX11_feed 101 = .ok (.iconst 1, 1) := by decide +kernel
theorem dX11_feed_102 : decode cX11_feed 102 = .ok (.iload_n 2, 1) := by decide +kernel
theorem dX11_feed_103 : decode cX11_feed 103 = .ok (.iastore, 1) := by decide +kernel
theorem dX11_feed_104 : decode cX11_feed 104 = .ok (.iload_n 3, 1) := by decide +kernel
theorem dX11_feed_105 : decode cX11_feed 105 = .ok (.ireturn, 1) := by decide +kernel
theorem dX11_size_0 : decode cX11_size 0 = .ok (.aload_n 0, 1) := by decide +kernel
theorem dX11_size_1 : decode cX11_size 1 = .ok (.aload_n 0, 1) := by decide +kernel
theorem dX11_size_2 : decode cX11_size 2 = .ok (.getfield 55, 3) := by decide +kernel
theorem dX11_size_5 : decode cX11_size 5 = .ok (.iconst 1, 1) := by decide +kernel
theorem dX11_size_6 : decode cX11_size 6 = .ok (.invokevirtual 59, 3) := by decide +kernel
theorem dX11_size_9 : decode cX11_size 9 = .ok (.ifCond .ne 28, 3) := by decide +kernel
theorem dX11_size_12 : decode cX11_size 12 = .ok (.aload_n 0, 1) := by decide +kernel
theorem dX11_size_13 : decode cX11_size 13 = .ok (.aload_n 0, 1) := by decide +kernel
theorem dX11_size_14 : decode cX11_size 14 = .ok (.iload_n 1, 1) := by decide +kernel
theorem dX11_size_15 : decode cX11_size 15 = .ok (.invokevirtual 66, 3) := by decide +kernel
theorem dX11_size_18 : decode cX11_size 18 = .ok (.iconst 2, 1) := by decide +kernel
theorem dX11_size_19 : decode cX11_size 19 = .ok (.invokevirtual 33, 3) := by decide +kernel
theorem dX11_size_22 : decode cX11_size 22 = .ok (.ifCond .ne 15, 3) := by decide +kernel
theorem dX11_size_25 : decode cX11_size 25 = .ok (.aload_n 0, 1) := by decide +kernel
theorem dX11_size_26 : decode cX11_size 26 = .ok (.iload_n 2, 1) := by decide +kernel
theorem dX11_size_27 : decode cX11_size 27 = .ok (.invokestatic 69, 3) := by decide +kernel
theorem dX11_size_30 : decode cX11_size 30 = .ok (.iconst 3, 1) := by decide +kernel
theorem dX11_size_31 : decode cX11_size 31 = .ok (.invokevirtual 33, 3) := by decide +kernel
theorem dX11_size_34 : decode cX11_size 34 = .ok (.ifCond .eq 5, 3) := by decide +kernel
theorem dX11_size_37 : decode cX11_size 37 = .ok (.iconst 0, 1) := by decide +kernel
theorem dX11_size_38 : decode cX11_size 38 = .ok (.ireturn, 1) := by decide +kernel
theorem dX11_size_39 : decode cX11_size 39 = .ok (.aload_n 0, 1) := by decide +kernel
theorem dX11_size_40 : decode cX11_size 40 = .ok (.getfield 19, 3) := by decide +kernel
theorem dX11_size_43 : decode cX11_size 43 = .ok (.iload_n 1, 1) := by decide +kernel
theorem dX11_size_44 : decode cX11_size 44 = .ok (.invokevirtual 45, 3) := by decide +kernel
theorem dX11_size_47 : decode cX11_size 47 = .ok (.checkcast 49, 3) := by decide +kernel
theorem dX11_size_50 : decode cX11_size 50 = .ok (.iconst 4, 1) := by decide +kernel
theorem dX11_size_51 : decode cX11_size 51 = .ok (.iaload, 1) := by decide +kernel
theorem dX11_size_52 : decode cX11_size 52 = .ok (.istore_n 3, 1) := by decide +kernel
theorem dX11_size_53 : decode cX11_size 53 = .ok (.aload_n 0, 1) := by decide +kernel
theorem dX11_size_54 : decode cX11_size 54 = .ok (.getfield 19, 3) := by decide +kernel
theorem dX11_size_57 : decode cX11_size 57 = .ok (.iload_n 1, 1) := by decide +kernel
theorem dX11_size_58 : decode cX11_size 58 = .ok (.invokevirtual 45, 3) := by decide +kernel
theorem dX11_size_61 : decode cX11_size 61 = .ok (.checkcast 49, 3) := by decide +kernel
theorem dX11_size_64 : decode cX11_size 64 = .ok (.iconst 4, 1) := by decide +kernel
theorem dX11_size_65 : decode cX11_size 65 = .ok (.iload_n 2, 1) := by decide +kernel
theorem dX11_size_66 : decode cX11_size 66 = .ok (.iastore, 1) := by decide +kernel
theorem dX11_size_67 : decode cX11_size 67 = .ok (.iload_n 3, 1) := by decide +kernel
theorem dX11_size_68 : decode cX11_size 68 = .ok (.ireturn, 1) := by decide +kernel
theorem dX11_wire_0 : decode cX11_wire 0 = .ok (.aload_n 0, 1) := by decide +kernel
theorem dX11_wire_1 : decode cX11_wire 1 = .ok (.aload_n 0, 1) := by decide +kernel
theorem dX11_wire_2 : decode cX11_wire 2 = .ok (.getfield 55, 3) := by decide +kernel
theorem dX11_wire_5 : decode cX11_wire 5 = .ok (.iconst 1, 1) := by decide +kernel
theorem dX11_wire_6 : decode cX11_wire 6 = .ok (.invokevirtual 59, 3) := by decide +kernel
theorem dX11_wire_9 : decode cX11_wire 9 = .ok (.ifCond .ne 39, 3) := by decide +kernel
theorem dX11_wire_12 : decode cX11_wire 12 = .ok (.aload_n 0, 1) := by decide +kernel
theorem dX11_wire_13 : decode cX11_wire 13 = .ok (.aload_n 0, 1) := by decide +kernel
theorem dX11_wire_14 : decode cX11_wire 14 = .ok (.iload_n 1, 1) := by decide +kernel
theorem dX11_wire_15 : decode cX11_wire 15 = .ok (.invokevirtual 66, 3) := by decide +kernel
theorem dX11_wire_18 : decode cX11_wire 18 = .ok (.iconst 2, 1) := by decide +kernel
theorem dX11_wire_19 : decode cX11_wire 19 = .ok (.invokevirtual 33, 3) := by decide +kernel
theorem dX11_wire_22 : decode cX11_wire 22 = .ok (.ifCond .ne 26, 3) := by decide +kernel
theorem dX11_wire_25 : decode cX11_wire 25 = .ok (.aload_n 0, 1) := by decide +kernel
theorem dX11_wire_26 : decode cX11_wire 26 = .ok (.iload_n 2, 1) := by decide +kernel
theorem dX11_wire_27 : decode cX11_wire 27 = .ok (.iconst 0, 1) := by decide +kernel
theorem dX11_wire_28 : decode cX11_wire 28 = .ok (.bipush 80, 2) := by decide +kernel
theorem dX11_wire_30 : decode cX11_wire 30 = .ok (.invokestatic 41, 3) := by decide +kernel
theorem dX11_wire_33 : decode cX11_wire 33 = .ok (.ifCond .ne 7, 3) := by decide +kernel
theorem dX11_wire_36 : decode cX11_wire 36 = .ok (.iconst 1, 1) := by decide +kernel
theorem dX11_wire_37 : decode cX11_wire 37 = .ok (.goto 4, 3) := by decide +kernel
theorem dX11_wire_40 : decode cX11_wire 40 = .ok (.iconst 0, 1) := by decide +kernel
theorem dX11_wire_41 : decode cX11_wire 41 = .ok (.iconst 3, 1) := by decide +kernel
theorem dX11_wire_42 : decode cX11_wire 42 = .ok (.invokevirtual 33, 3) := by decide +kernel
theorem dX11_wire_45 : decode cX11_wire 45 = .ok (.ifCond .eq 5, 3) := by decide +kernel
theorem dX11_wire_48 : decode cX11_wire 48 = .ok (.iconst 0, 1) := by decide +kernel
theorem dX11_wire_49 : decode cX11_wire 49 = .ok (.ireturn, 1) := by decide +kernel
theorem dX11_wire_50 : decode cX11_wire 50 = .ok (.aload_n 0, 1) := by decide +kernel
theorem dX11_wire_51 : decode cX11_wire 51 = .ok (.getfield 19, 3) := by decide +kernel
theorem dX11_wire_54 : decode cX11_wire 54 = .ok (.iload_n 1, 1) := by decide +kernel
theorem dX11_wire_55 : decode cX11_wire 55 = .ok (.invokevirtual 45, 3) := by decide +kernel
theorem dX11_wire_58 : decode cX11_wire 58 = .ok (.checkcast 49, 3) := by decide +kernel
theorem dX11_wire_61 : decode cX11_wire 61 = .ok (.iconst 5, 1) := by decide +kernel
theorem dX11_wire_62 : decode cX11_wire 62 = .ok (.iload_n 2, 1) := by decide +kernel
theorem dX11_wire_63 : decode cX11_wire 63 = .ok (.iastore, 1) := by decide +kernel
theorem dX11_wire_64 : decode cX11_wire 64 = .ok (.aload_n 0, 1) := by decide +kernel
theorem dX11_wire_65 : decode cX11_wire 65 = .ok (.iload_n 1, 1) := by decide +kernel
theorem dX11_wire_66 : decode cX11_wire 66 = .ok (.invokevirtual 72, 3) := by decide +kernel
theorem dX11_wire_69 : decode cX11_wire 69 = .ok (.f2i, 1) := by decide +kernel
theorem dX11_wire_70 : decode cX11_wire 70 = .ok (.ireturn, 1) := by decide +kernel
theorem dX11_skew_0 : decode cX11_skew 0 = .ok (.aload_n 0, 1) := by decide +kernel
theorem dX11_skew_1 : decode cX11_skew 1 = .ok (.aload_n 0, 1) := by decide +kernel
theorem dX11_skew_2 : decode cX11_skew 2 = .ok (.getfield 55, 3) := by decide +kernel
theorem dX11_skew_5 : decode cX11_skew 5 = .ok (.iconst 1, 1) := by decide +kernel
theorem dX11_skew_6 : decode cX11_skew 6 = .ok (.invokevirtual 59, 3) := by decide +kernel
theorem dX11_skew_9 : decode cX11_skew 9 = .ok (.ifCond .ne 59, 3) := by decide +kernel
theorem dX11_skew_12 : decode cX11_skew 12 = .ok (.aload_n 0, 1) := by decide +kernel
theorem dX11_skew_13 : decode cX11_skew 13 = .ok (.aload_n 0, 1) := by decide +kernel
theorem dX11_skew_14 : decode cX11_skew 14 = .ok (.iload_n 1, 1) := by decide +kernel
theorem dX11_skew_15 : decode cX11_skew 15 = .ok (.invokevirtual 66, 3) := by decide +kernel
theorem dX11_skew_18 : decode cX11_skew 18 = .ok (.iconst 2, 1) := by decide +kernel
theorem dX11_skew_19 : decode cX11_skew 19 = .ok (.invokevirtual 33, 3) := by decide +kernel
theorem dX11_skew_22 : decode cX11_skew 22 = .ok (.ifCond .ne 46, 3) := by decide +kernel
theorem dX11_skew_25 : decode cX11_skew 25 = .ok (.aload_n 0, 1) := by decide +kernel
theorem dX11_skew_26 : decode cX11_skew 26 = .ok (.aload_n 0, 1) := by decide +kernel
theorem dX11_skew_27 : decode cX11_skew 27 = .ok (.iload_n 1, 1) := by decide +kernel
theorem dX11_skew_28 : decode cX11_skew 28 = .ok (.invokevirtual 51, 3) := by decide +kernel
theorem dX11_skew_31 : decode cX11_skew 31 = .ok (.bipush 6, 2) := by decide +kernel
theorem dX11_skew_33 : decode cX11_skew 33 = .ok (.if_icmp .eq 13, 3) := by decide +kernel
theorem dX11_skew_36 : decode cX11_skew 36 = .ok (.aload_n 0, 1) := by decide +kernel
theorem dX11_skew_37 : decode cX11_skew 37 = .ok (.iload_n 1, 1) := by decide +kernel
theorem dX11_skew_38 : decode cX11_skew 38 = .ok (.invokevirtual 51, 3) := by decide +kernel
theorem dX11_skew_41 : decode cX11_skew 41 = .ok (.bipush 7, 2) := by decide +kernel
theorem dX11_skew_43 : decode cX11_skew 43 = .ok (.if_icmp .ne 13, 3) := by decide +kernel
theorem dX11_skew_46 : decode cX11_skew 46 = .ok (.iload_n 2, 1) := by decide +kernel
theorem dX11_skew_47 : decode cX11_skew 47 = .ok (.iconst 0, 1) := by decide +kernel
theorem dX11_skew_48 : decode cX11_skew 48 = .ok (.bipush 20, 2) := by decide +kernel
theorem dX11_skew_50 : decode cX11_skew 50 = .ok (.invokestatic 41, 3) := by decide +kernel
theorem dX11_skew_53 : decode cX11_skew 53 = .ok (.ifCond .ne 7, 3) := by decide +kernel
theorem dX11_skew_56 : decode cX11_skew 56 = .ok (.iconst 1, 1) := by decide +kernel
theorem dX11_skew_57 : decode cX11_skew 57 = .ok (.goto 4, 3) := by decide +kernel
theorem dX11_skew_60 : decode cX11_skew 60 = .ok (.iconst 0, 1) := by decide +kernel
theorem dX11_skew_61 : decode cX11_skew 61 = .ok (.iconst 3, 1) := by decide +kernel
theorem dX11_skew_62 : decode cX11_skew 62 = .ok (.invokevirtual 33, 3) := by decide +kernel
theorem dX11_skew_65 : decode cX11_skew 65 = .ok (.ifCond .eq 5, 3) := by decide +kernel
theorem dX11_skew_68 : decode cX11_skew 68 = .ok (.iconst 0, 1) := by decide +kernel
theorem dX11_skew_69 : decode cX11_skew 69 = .ok (.ireturn, 1) := by decide +kernel
theorem dX11_skew_70 : decode cX11_skew 70 = .ok (.aload_n 0, 1) := by decide +kernel
theorem dX11_skew_71 : decode cX11_skew 71 = .ok (.getfield 19, 3) := by decide +kernel
theorem dX11_skew_74 : decode cX11_skew 74 = .ok (.iload_n 1, 1) := by decide +kernel
theorem dX11_skew_75 : decode cX11_skew 75 = .ok (.invokevirtual 45, 3) := by decide +kernel
theorem dX11_skew_78 : decode cX11_skew 78 = .ok (.checkcast 49, 3) := by decide +kernel
theorem dX11_skew_81 : decode cX11_skew 81 = .ok (.bipush 6, 2) := by decide +kernel
theorem dX11_skew_83 : decode cX11_skew 83 = .ok (.iaload, 1) := by decide +kernel
theorem dX11_skew_84 : decode cX11_skew 84 = .ok (.istore_n 3, 1) := by decide +kernel
theorem dX11_skew_85 : decode cX11_skew 85 = .ok (.aload_n 0, 1) := by decide +kernel
theorem dX11_skew_86 : decode cX11_skew 86 = .ok (.getfield 19, 3) := by decide +kernel
theorem dX11_skew_89 : decode cX11_skew 89 = .ok (.iload_n 1, 1) := by decide +kernel
theorem dX11_skew_90 : decode cX11_skew 90 = .ok (.invokevirtual 45, 3) := by decide +kernel
theorem dX11_skew_93 : decode cX11_skew 93 = .ok (.checkcast 49, 3) := by decide +kernel
theorem dX11_skew_96 : decode cX11_skew 96 = .ok (.bipush 6, 2) := by decide +kernel
theorem dX11_skew_98 : decode cX11_skew 98 = .ok (.iload_n 2, 1) := by decide +kernel
theorem dX11_skew_99 : decode cX11_skew 99 = .ok (.iastore, 1) := by decide +kernel
theorem dX11_skew_100 : decode cX11_skew 100 = .ok (.iload_n 3, 1) := by decide +kernel
theorem dX11_skew_101 : decode cX11_skew 101 = .ok (.ireturn, 1) := by decide +kernel
theorem dX11_exception_0 : decode cX11_exception 0 = .ok (.aload_n 0, 1) := by decide +kernel
theorem dX11_exception_1 : decode cX11_exception 1 = .ok (.aload_n 0, 1) := by decide +kernel
theorem dX11_exception_2 : decode cX11_exception 2 = .ok (.getfield 55, 3) := by decide +kernel
theorem dX11_exception_5 : decode cX11_exception 5 = .ok (.ifCond .ne 15, 3) := by decide +kernel
theorem dX11_exception_8 : decode cX11_exception 8 = .ok (.aload_n 0, 1) := by decide +kernel
theorem dX11_exception_9 : decode cX11_exception 9 = .ok (.getfield 22, 3) := by decide +kernel
theorem dX11_exception_12 : decode cX11_exception 12 = .ok (.invokevirtual 37, 3) := by decide +kernel
theorem dX11_exception_15 : decode cX11_exception 15 = .ok (.bipush 6, 2) := by decide +kernel
theorem dX11_exception_17 : decode cX11_exception 17 = .ok (.if_icmp .ne 7, 3) := by decide +kernel
theorem dX11_exception_20 : decode cX11_exception 20 = .ok (.iconst 1, 1) := by decide +kernel
theorem dX11_exception_21 : decode cX11_exception 21 = .ok (.goto 4, 3) := by decide +kernel
theorem dX11_exception_24 : decode cX11_exception 24 = .ok (.iconst 0, 1) := by decide +kernel
theorem dX11_exception_25 : decode cX11_exception 25 = .ok (.iconst 1, 1) := by decide +kernel
theorem dX11_exception_26 : decode cX11_exception 26 = .ok (.invokevirtual 59, 3) := by decide +kernel
theorem dX11_exception_29 : decode cX11_exception 29 = .ok (.ifCond .ne 42, 3) := by decide +kernel
theorem dX11_exception_32 : decode cX11_exception 32 = .ok (.aload_n 0, 1) := by decide +kernel
theorem dX11_exception_33 : decode cX11_exception 33 = .ok (.iload_n 2, 1) := by decide +kernel
theorem dX11_exception_34 : decode cX11_exception 34 = .ok (.iconst (-1), 1) := by decide +kernel
theorem dX11_exception_35 : decode cX11_exception 35 = .ok (.if_icmp .eq 11, 3) := by decide +kernel
theorem dX11_exception_38 : decode cX11_exception 38 = .ok (.aload_n 0, 1) := by decide +kernel
theorem dX11_exception_39 : decode cX11_exception 39 = .ok (.iload_n 2, 1) := by decide +kernel
theorem dX11_exception_40 : decode cX11_exception 40 = .ok (.invokevirtual 66, 3) := by decide +kernel
theorem dX11_exception_43 : decode cX11_exception 43 = .ok (.ifCond .ne 16, 3) := by decide +kernel
theorem dX11_exception_46 : decode cX11_exception 46 = .ok (.iload_n 3, 1) := by decide +kernel
theorem dX11_exception_47 : decode cX11_exception 47 = .ok (.iconst (-1), 1) := by decide +kernel
theorem dX11_exception_48 : decode cX11_exception 48 = .ok (.if_icmp .eq 15, 3) := by decide +kernel
theorem dX11_exception_51 : decode cX11_exception 51 = .ok (.aload_n 0, 1) := by decide +kernel
theorem dX11_exception_52 : decode cX11_exception 52 = .ok (.iload_n 3, 1) := by decide +kernel
theorem dX11_exception_53 : decode cX11_exception 53 = .ok (.invokevirtual 66, 3) := by decide +kernel
theorem dX11_exception_56 : decode cX11_exception 56 = .ok (.ifCond .eq 7, 3) := by decide +kernel
theorem dX11_exception_59 : decode cX11_exception 59 = .ok (.iconst 1, 1) := by decide +kernel
theorem dX11_exception_60 : decode cX11_exception 60 = .ok (.goto 4, 3) := by decide +kernel
theorem dX11_exception_63 : decode cX11_exception 63 = .ok (.iconst 0, 1) := by decide +kernel
theorem dX11_exception_64 : decode cX11_exception 64 = .ok (.iconst 2, 1) := by decide +kernel
theorem dX11_exception_65 : decode cX11_exception 65 = .ok (.invokevirtual 33, 3) := by decide +kernel
theorem dX11_exception_68 : decode cX11_exception 68 = .ok (.ifCond .eq 5, 3) := by decide +kernel
theorem dX11_exception_71 : decode cX11_exception 71 = .ok (.iconst 0, 1) := by decide +kernel
theorem dX11_exception_72 : decode cX11_exception 72 = .ok (.ireturn, 1) := by decide +kernel
theorem dX11_exception_73 : decode cX11_exception 73 = .ok (.aload_n 0, 1) := by decide +kernel
theorem dX11_exception_74 : decode cX11_exception 74 = .ok (.iload_n 1, 1) := by decide +kernel
theorem dX11_exception_75 : decode cX11_exception 75 = .ok (.ifCond .eq 12, 3) := by decide +kernel
theorem dX11_exception_78 : decode cX11_exception 78 = .ok (.iload_n 1, 1) := by decide +kernel
theorem dX11_exception_79 : decode cX11_exception 79 = .ok (.iconst 2, 1) := by decide +kernel
theorem dX11_exception_80 : decode cX11_exception 80 = .ok (.iconst 4, 1) := by decide +kernel
theorem dX11_exception_81 : decode cX11_exception 81 = .ok (.invokestatic 41, 3) := by decide +kernel
theorem dX11_exception_84 : decode cX11_exception 84 = .ok (.ifCond .eq 29, 3) := by decide +kernel
theorem dX11_exception_87 : decode cX11_exception 87 = .ok (.iload_n 2, 1) := by decide +kernel
theorem dX11_exception_88 : decode cX11_exception 88 = .ok (.iconst (-1), 1) := by decide +kernel
theorem dX11_exception_89 : decode cX11_exception 89 = .ok (.if_icmp .eq 11, 3) := by decide +kernel
theorem dX11_exception_92 : decode cX11_exception 92 = .ok (.aload_n 0, 1) := by decide +kernel
theorem dX11_exception_93 : decode cX11_exception 93 = .ok (.iload_n 2, 1) := by decide +kernel
theorem dX11_exception_94 : decode cX11_exception 94 = .ok (.invokevirtual 76, 3) := by decide +kernel
theorem dX11_exception_97 : decode cX11_exception 97 = .ok (.ifCond .eq 16, 3) := by decide +kernel
theorem dX11_exception_100 : decode cX11_exception 100 = .ok (.iload_n 3, 1) := by decide +kernel
theorem dX11_exception_101 : decode cX11_exception 101 = .ok (.iconst (-1), 1) := by decide +kernel
theorem dX11_exception_102 : decode cX11_exception 102 = .ok (.if_icmp .eq 15, 3) := by decide +kernel
theorem dX11_exception_105 : decode cX11_exception 105 = .ok (.aload_n 0, 1) := by decide +kernel
theorem dX11_exception_106 : decode cX11_exception 106 = .ok (.iload_n 3, 1) := by decide +kernel
theorem dX11_exception_107 : decode cX11_exception 107 = .ok (.invokevirtual 79, 3) := by decide +kernel
theorem dX11_exception_110 : decode cX11_exception 110 = .ok (.ifCond .ne 7, 3) := by decide +kernel
theorem dX11_exception_113 : decode cX11_exception 113 = .ok (.iconst 1, 1) := by decide +kernel
theorem dX11_exception_114 : decode cX11_exception 114 = .ok (.goto 4, 3) := by decide +kernel
theorem dX11_exception_117 : decode cX11_exception 117 = .ok (.iconst 0, 1) := by decide +kernel
theorem dX11_exception_118 : decode cX11_exception 118 = .ok (.iconst 3, 1) := by decide +kernel
theorem dX11_exception_119 : decode cX11_exception 119 = .ok (.invokevirtual 33, 3) := by decide +kernel
theorem dX11_exception_122 : decode cX11_exception 122 = .ok (.ifCond .eq 5, 3) := by decide +kernel
theorem dX11_exception_125 : decode cX11_exception 125 = .ok (.iconst 0, 1) := by decide +kernel
theorem dX11_exception_126 : decode cX11_exception 126 = .ok (.ireturn, 1) := by decide +kernel
theorem dX11_exception_127 : decode cX11_exception 127 = .ok (.aload_n 0, 1) := by decide +kernel
theorem dX11_exception_128 : decode cX11_exception 128 = .ok (.getfield 22, 3) := by decide +kernel
theorem dX11_exception_131 : decode cX11_exception 131 = .ok (.iconst 3, 1) := by decide +kernel
theorem dX11_exception_132 : decode cX11_exception 132 = .ok (.newarray .int, 2) := by decide +kernel
theorem dX11_exception_134 : decode cX11_exception 134 = .ok (.dup, 1) := by decide +kernel
theorem dX11_exception_135 : decode cX11_exception 135 = .ok (.iconst 0, 1) := by decide +kernel
theorem dX11_exception_136 : decode cX11_exception 136 = .ok (.iload_n 1, 1) := by decide +kernel
theorem dX11_exception_137 : decode cX11_exception 137 = .ok (.iastore, 1) := by decide +kernel
theorem dX11_exception_138 : decode cX11_exception 138 = .ok (.dup, 1) := by decide +kernel
theorem dX11_exception_139 : decode cX11_exception 139 = .ok (.iconst 1, 1) := by decide +kernel
theorem dX11_exception_140 : decode cX11_exception 140 = .ok (.iload_n 2, 1) := by decide +kernel
theorem dX11_exception_141 : decode cX11_exception 141 = .ok (.iastore, 1) := by decide +kernel
theorem dX11_exception_142 : decode cX11_exception 142 = .ok (.dup, 1) := by decide +kernel
theorem dX11_exception_143 : decode cX11_exception 143 = .ok (.iconst 2, 1) := by decide +kernel
theorem dX11_exception_144 : decode cX11_exception 144 = .ok (.iload_n 3, 1) := by decide +kernel
theorem dX11_exception_145 : decode cX11_exception 145 = .ok (.iastore, 1) := by decide +kernel
theorem dX11_exception_146 : decode cX11_exception 146 = .ok (.invokevirtual 25, 3) := by decide +kernel
theorem dX11_exception_149 : decode cX11_exception 149 = .ok (.pop, 1) := by decide +kernel
theorem dX11_exception_150 : decode cX11_exception 150 = .ok (.aload_n 0, 1) := by decide +kernel
theorem dX11_exception_151 : decode cX11_exception 151 = .ok (.getfield 22, 3) := by decide +kernel
theorem dX11_exception_154 : decode cX11_exception 154 = .ok (.invokevirtual 37, 3) := by decide +kernel
theorem dX11_exception_157 : decode cX11_exception 157 = .ok (.iconst 1, 1) := by decide +kernel
theorem dX11_exception_158 : decode cX11_exception 158 = .ok (.isub, 1) := by decide +kernel
theorem dX11_exception_159 : decode cX11_exception 159 = .ok (.ireturn, 1) := by decide +kernel
theorem dX11_sign_0 : decode cX11_sign 0 = .ok (.aload_n 0, 1) := by decide +kernel
theorem dX11_sign_1 : decode cX11_sign 1 = .ok (.iconst 0, 1) := by decide +kernel
theorem dX11_sign_2 : decode cX11_sign 2 = .ok (.putfield 29, 3) := by decide +kernel
theorem dX11_sign_5 : decode cX11_sign 5 = .ok (.aload_n 0, 1) := by decide +kernel
theorem dX11_sign_6 : decode cX11_sign 6 = .ok (.getfield 55, 3) := by decide +kernel
theorem dX11_sign_9 : decode cX11_sign 9 = .ok (.istore_n 2, 1) := by decide +kernel
theorem dX11_sign_10 : decode cX11_sign 10 = .ok (.aload_n 0, 1) := by decide +kernel
theorem dX11_sign_11 : decode cX11_sign 11 = .ok (.iload_n 1, 1) := by decide +kernel
theorem dX11_sign_12 : decode cX11_sign 12 = .ok (.putfield 55, 3) := by decide +kernel
theorem dX11_sign_15 : decode cX11_sign 15 = .ok (.iload_n 2, 1) := by decide +kernel
theorem dX11_sign_16 : decode cX11_sign 16 = .ok (.ireturn, 1) := by decide +kernel
theorem dX11_knock_0 : decode cX11_knock 0 = .ok (.aload_n 0, 1) := by decide +kernel
theorem dX11_knock_1 : decode cX11_knock 1 = .ok (.iconst 0, 1) := by decide +kernel
theorem dX11_knock_2 : decode cX11_knock 2 = .ok (.putfield 29, 3) := by decide +kernel
theorem dX11_knock_5 : decode cX11_knock 5 = .ok (.aload_n 0, 1) := by decide +kernel
theorem dX11_knock_6 : decode cX11_knock 6 = .ok (.dup, 1) := by decide +kernel
theorem dX11_knock_7 : decode cX11_knock 7 = .ok (.getfield 82, 3) := by decide +kernel
theorem dX11_knock_10 : decode cX11_knock 10 = .ok (.iconst 1, 1) := by decide +kernel
theorem dX11_knock_11 : decode cX11_knock 11 = .ok (.iadd, 1) := by decide +kernel
theorem dX11_knock_12 : decode cX11_knock 12 = .ok (.putfield 82, 3) := by decide +kernel
theorem dX11_knock_15 : decode cX11_knock 15 = .ok (.aload_n 0, 1) := by decide +kernel
theorem dX11_knock_16 : decode cX11_knock 16 = .ok (.getfield 82, 3) := by decide +kernel
theorem dX11_knock_19 : decode cX11_knock 19 = .ok (.ireturn, 1) := by decide +kernel
theorem dX11_leastOf_0 : decode cX11_leastOf 0 = .ok (.ldc2_w 166, 3) := by decide +kernel
theorem dX11_leastOf_3 : decode cX11_leastOf 3 = .ok (.dstore_n 2, 1) := by decide +kernel
theorem dX11_leastOf_4 : decode cX11_leastOf 4 = .ok (.iconst 0, 1) := by decide +kernel
theorem dX11_leastOf_5 : decode cX11_leastOf 5 = .ok (.istore 4, 2) := by decide +kernel
theorem dX11_leastOf_7 : decode cX11_leastOf 7 = .ok (.iload 4, 2) := by decide +kernel
theorem dX11_leastOf_9 : decode cX11_leastOf 9 = .ok (.aload_n 0, 1) := by decide +kernel
theorem dX11_leastOf_10 : decode cX11_leastOf 10 = .ok (.getfield 16, 3) := by decide +kernel
theorem dX11_leastOf_13 : decode cX11_leastOf 13 = .ok (.invokevirtual 37, 3) := by decide +kernel
theorem dX11_leastOf_16 : decode cX11_leastOf 16 = .ok (.if_icmp .ge 64, 3) := by decide +kernel
theorem dX11_leastOf_19 : decode cX11_leastOf 19 = .ok (.new 149, 3) := by decide +kernel
theorem dX11_leastOf_22 : decode cX11_leastOf 22 = .ok (.dup, 1) := by decide +kernel
theorem dX11_leastOf_23 : decode cX11_leastOf 23 = .ok (.aload_n 0, 1) := by decide +kernel
theorem dX11_leastOf_24 : decode cX11_leastOf 24 = .ok (.iload 4, 2) := by decide +kernel
theorem dX11_leastOf_26 : decode cX11_leastOf 26 = .ok (.invokespecial 151, 3) := by decide +kernel
theorem dX11_leastOf_29 : decode cX11_leastOf 29 = .ok (.astore 5, 2) := by decide +kernel
theorem dX11_leastOf_31 : decode cX11_leastOf 31 = .ok (.iconst 0, 1) := by decide +kernel
theorem dX11_leastOf_32 : decode cX11_leastOf 32 = .ok (.istore 6, 2) := by decide +kernel
theorem dX11_leastOf_34 : decode cX11_leastOf 34 = .ok (.iload 6, 2) := by decide +kernel
theorem dX11_leastOf_36 : decode cX11_leastOf 36 = .ok (.aload_n 0, 1) := by decide +kernel
theorem dX11_leastOf_37 : decode cX11_leastOf 37 = .ok (.getfield 19, 3) := by decide +kernel
theorem dX11_leastOf_40 : decode cX11_leastOf 40 = .ok (.invokevirtual 37, 3) := by decide +kernel
theorem dX11_leastOf_43 : decode cX11_leastOf 43 = .ok (.if_icmp .ge 31, 3) := by decide +kernel
theorem dX11_leastOf_46 : decode cX11_leastOf 46 = .ok (.aload_n 0, 1) := by decide +kernel
theorem dX11_leastOf_47 : decode cX11_leastOf 47 = .ok (.iload 6, 2) := by decide +kernel
theorem dX11_leastOf_49 : decode cX11_leastOf 49 = .ok (.invokevirtual 79, 3) := by decide +kernel
theorem dX11_leastOf_52 : decode cX11_leastOf 52 = .ok (.ifCond .eq 16, 3) := by decide +kernel
theorem dX11_leastOf_55 : decode cX11_leastOf 55 = .ok (.dload_n 2, 1) := by decide +kernel
theorem dX11_leastOf_56 : decode cX11_leastOf 56 = .ok (.aload 5, 2) := by decide +kernel
theorem dX11_leastOf_58 : decode cX11_leastOf 58 = .ok (.iload 6, 2) := by decide +kernel
theorem dX11_leastOf_60 : decode cX11_leastOf 60 = .ok (.iload_n 1, 1) := by decide +kernel
theorem dX11_leastOf_61 : decode cX11_leastOf 61 = .ok (.invokevirtual 162, 3) := by decide +kernel
theorem dX11_leastOf_64 : decode cX11_leastOf 64 = .ok (.invokestatic 168, 3) := by decide +kernel
theorem dX11_leastOf_67 : decode cX11_leastOf 67 = .ok (.dstore_n 2, 1) := by decide +kernel
theorem dX11_leastOf_68 : decode cX11_leastOf 68 = .ok (.iinc 6 1, 3) := by decide +kernel
theorem dX11_leastOf_71 : decode cX11_leastOf 71 = .ok (.goto (-37), 3) := by decide +kernel
theorem dX11_leastOf_74 : decode cX11_leastOf 74 = .ok (.iinc 4 1, 3) := by decide +kernel
theorem dX11_leastOf_77 : decode cX11_leastOf 77 = .ok (.goto (-70), 3) := by decide +kernel
theorem dX11_leastOf_80 : decode cX11_leastOf 80 = .ok (.dload_n 2, 1) := by decide +kernel
theorem dX11_leastOf_81 : decode cX11_leastOf 81 = .ok (.dreturn, 1) := by decide +kernel
theorem dX11_ofClock_0 : decode cX11_ofClock 0 = .ok (.aload_n 0, 1) := by decide +kernel
theorem dX11_ofClock_1 : decode cX11_ofClock 1 = .ok (.aload_n 0, 1) := by decide +kernel
theorem dX11_ofClock_2 : decode cX11_ofClock 2 = .ok (.iload_n 1, 1) := by decide +kernel
theorem dX11_ofClock_3 : decode cX11_ofClock 3 = .ok (.invokevirtual 62, 3) := by decide +kernel
theorem dX11_ofClock_6 : decode cX11_ofClock 6 = .ok (.iconst 1, 1) := by decide +kernel
theorem dX11_ofClock_7 : decode cX11_ofClock 7 = .ok (.invokevirtual 59, 3) := by decide +kernel
theorem dX11_ofClock_10 : decode cX11_ofClock 10 = .ok (.ifCond .ne 25, 3) := by decide +kernel
theorem dX11_ofClock_13 : decode cX11_ofClock 13 = .ok (.aload_n 0, 1) := by decide +kernel
theorem dX11_ofClock_14 : decode cX11_ofClock 14 = .ok (.iload_n 2, 1) := by decide +kernel
theorem dX11_ofClock_15 : decode cX11_ofClock 15 = .ok (.iconst 0, 1) := by decide +kernel
theorem dX11_ofClock_16 : decode cX11_ofClock 16 = .ok (.iconst 4, 1) := by decide +kernel
theorem dX11_ofClock_17 : decode cX11_ofClock 17 = .ok (.invokestatic 41, 3) := by decide +kernel
theorem dX11_ofClock_20 : decode cX11_ofClock 20 = .ok (.ifCond .ne 7, 3) := by decide +kernel
theorem dX11_ofClock_23 : decode cX11_ofClock 23 = .ok (.iconst 1, 1) := by decide +kernel
theorem dX11_ofClock_24 : decode cX11_ofClock 24 = .ok (.goto 4, 3) := by decide +kernel
theorem dX11_ofClock_27 : decode cX11_ofClock 27 = .ok (.iconst 0, 1) := by decide +kernel
theorem dX11_ofClock_28 : decode cX11_ofClock 28 = .ok (.iconst 2, 1) := by decide +kernel
theorem dX11_ofClock_29 : decode cX11_ofClock 29 = .ok (.invokevirtual 33, 3) := by decide +kernel
theorem dX11_ofClock_32 : decode cX11_ofClock 32 = .ok (.ifCond .eq 7, 3) := by decide +kernel
theorem dX11_ofClock_35 : decode cX11_ofClock 35 = .ok (.iconst 0, 1) := by decide +kernel
theorem dX11_ofClock_36 : decode cX11_ofClock 36 = .ok (.goto 16, 3) := by decide +kernel
theorem dX11_ofClock_39 : decode cX11_ofClock 39 = .ok (.aload_n 0, 1) := by decide +kernel
theorem dX11_ofClock_40 : decode cX11_ofClock 40 = .ok (.getfield 10, 3) := by decide +kernel
theorem dX11_ofClock_43 : decode cX11_ofClock 43 = .ok (.iload_n 1, 1) := by decide +kernel
theorem dX11_ofClock_44 : decode cX11_ofClock 44 = .ok (.invokevirtual 45, 3) := by decide +kernel
theorem dX11_ofClock_47 : decode cX11_ofClock 47 = .ok (.checkcast 49, 3) := by decide +kernel
theorem dX11_ofClock_50 : decode cX11_ofClock 50 = .ok (.iload_n 2, 1) := by decide +kernel
theorem dX11_ofClock_51 : decode cX11_ofClock 51 = .ok (.iaload, 1) := by decide +kernel
theorem dX11_ofClock_52 : decode cX11_ofClock 52 = .ok (.ireturn, 1) := by decide +kernel
theorem dX11_ofNode_0 : decode cX11_ofNode 0 = .ok (.aload_n 0, 1) := by decide +kernel
theorem dX11_ofNode_1 : decode cX11_ofNode 1 = .ok (.aload_n 0, 1) := by decide +kernel
theorem dX11_ofNode_2 : decode cX11_ofNode 2 = .ok (.iload_n 1, 1) := by decide +kernel
theorem dX11_ofNode_3 : decode cX11_ofNode 3 = .ok (.invokevirtual 66, 3) := by decide +kernel
theorem dX11_ofNode_6 : decode cX11_ofNode 6 = .ok (.iconst 1, 1) := by decide +kernel
theorem dX11_ofNode_7 : decode cX11_ofNode 7 = .ok (.invokevirtual 59, 3) := by decide +kernel
theorem dX11_ofNode_10 : decode cX11_ofNode 10 = .ok (.ifCond .ne 26, 3) := by decide +kernel
theorem dX11_ofNode_13 : decode cX11_ofNode 13 = .ok (.aload_n 0, 1) := by decide +kernel
theorem dX11_ofNode_14 : decode cX11_ofNode 14 = .ok (.iload_n 2, 1) := by decide +kernel
theorem dX11_ofNode_15 : decode cX11_ofNode 15 = .ok (.iconst 0, 1) := by decide +kernel
theorem dX11_ofNode_16 : decode cX11_ofNode 16 = .ok (.bipush 6, 2) := by decide +kernel
theorem dX11_ofNode_18 : decode cX11_ofNode 18 = .ok (.invokestatic 41, 3) := by decide +kernel
theorem dX11_ofNode_21 : decode cX11_ofNode 21 = .ok (.ifCond .ne 7, 3) := by decide +kernel
theorem dX11_ofNode_24 : decode cX11_ofNode 24 = .ok (.iconst 1, 1) := by decide +kernel
theorem dX11_ofNode_25 : decode cX11_ofNode 25 = .ok (.goto 4, 3) := by decide +kernel
theorem dX11_ofNode_28 : decode cX11_ofNode 28 = .ok (.iconst 0, 1) := by decide +kernel
theorem dX11_ofNode_29 : decode cX11_ofNode 29 = .ok (.iconst 2, 1) := by decide +kernel
theorem dX11_ofNode_30 : decode cX11_ofNode 30 = .ok (.invokevirtual 33, 3) := by decide +kernel
theorem dX11_ofNode_33 : decode cX11_ofNode 33 = .ok (.ifCond .eq 7, 3) := by decide +kernel
theorem dX11_ofNode_36 : decode cX11_ofNode 36 = .ok (.iconst 0, 1) := by decide +kernel
theorem dX11_ofNode_37 : decode cX11_ofNode 37 = .ok (.goto 9, 3) := by decide +kernel
theorem dX11_ofNode_40 : decode cX11_ofNode 40 = .ok (.aload_n 0, 1) := by decide +kernel
theorem dX11_ofNode_41 : decode cX11_ofNode 41 = .ok (.iload_n 1, 1) := by decide +kernel
theorem dX11_ofNode_42 : decode cX11_ofNode 42 = .ok (.iload_n 2, 1) := by decide +kernel
theorem dX11_ofNode_43 : decode cX11_ofNode 43 = .ok (.invokevirtual 174, 3) := by decide +kernel
theorem dX11_ofNode_46 : decode cX11_ofNode 46 = .ok (.ireturn, 1) := by decide +kernel
theorem dX11_load_0 : decode cX11_load 0 = .ok (.aload_n 0, 1) := by decide +kernel
theorem dX11_load_1 : decode cX11_load 1 = .ok (.aload_n 0, 1) := by decide +kernel
theorem dX11_load_2 : decode cX11_load 2 = .ok (.iload_n 1, 1) := by decide +kernel
theorem dX11_load_3 : decode cX11_load 3 = .ok (.invokevirtual 66, 3) := by decide +kernel
theorem dX11_load_6 : decode cX11_load 6 = .ok (.iconst 1, 1) := by decide +kernel
theorem dX11_load_7 : decode cX11_load 7 = .ok (.invokevirtual 59, 3) := by decide +kernel
theorem dX11_load_10 : decode cX11_load 10 = .ok (.ifCond .eq 7, 3) := by decide +kernel
theorem dX11_load_13 : decode cX11_load 13 = .ok (.dconst 0, 1) := by decide +kernel
theorem dX11_load_14 : decode cX11_load 14 = .ok (.goto 9, 3) := by decide +kernel
theorem dX11_load_17 : decode cX11_load 17 = .ok (.aload_n 0, 1) := by decide +kernel
theorem dX11_load_18 : decode cX11_load 18 = .ok (.iload_n 1, 1) := by decide +kernel
theorem dX11_load_19 : decode cX11_load 19 = .ok (.invokevirtual 72, 3) := by decide +kernel
theorem dX11_load_22 : decode cX11_load 22 = .ok (.f2d, 1) := by decide +kernel
theorem dX11_load_23 : decode cX11_load 23 = .ok (.dreturn, 1) := by decide +kernel
theorem dX11_takes_0 : decode cX11_takes 0 = .ok (.aload_n 0, 1) := by decide +kernel
theorem dX11_takes_1 : decode cX11_takes 1 = .ok (.aload_n 0, 1) := by decide +kernel
theorem dX11_takes_2 : decode cX11_takes 2 = .ok (.iload_n 1, 1) := by decide +kernel
theorem dX11_takes_3 : decode cX11_takes 3 = .ok (.invokevirtual 66, 3) := by decide +kernel
theorem dX11_takes_6 : decode cX11_takes 6 = .ok (.iconst 1, 1) := by decide +kernel
theorem dX11_takes_7 : decode cX11_takes 7 = .ok (.invokevirtual 59, 3) := by decide +kernel
theorem dX11_takes_10 : decode cX11_takes 10 = .ok (.ifCond .eq 7, 3) := by decide +kernel
theorem dX11_takes_13 : decode cX11_takes 13 = .ok (.dconst 0, 1) := by decide +kernel
theorem dX11_takes_14 : decode cX11_takes 14 = .ok (.goto 17, 3) := by decide +kernel
theorem dX11_takes_17 : decode cX11_takes 17 = .ok (.aload_n 0, 1) := by decide +kernel
theorem dX11_takes_18 : decode cX11_takes 18 = .ok (.iload_n 1, 1) := by decide +kernel
theorem dX11_takes_19 : decode cX11_takes 19 = .ok (.iload_n 2, 1) := by decide +kernel
theorem dX11_takes_20 : decode cX11_takes 20 = .ok (.ifCond .eq 7, 3) := by decide +kernel
theorem dX11_takes_23 : decode cX11_takes 23 = .ok (.iconst 0, 1) := by decide +kernel
theorem dX11_takes_24 : decode cX11_takes 24 = .ok (.goto 4, 3) := by decide +kernel
theorem dX11_takes_27 : decode cX11_takes 27 = .ok (.iconst 1, 1) := by decide +kernel
theorem dX11_takes_28 : decode cX11_takes 28 = .ok (.invokevirtual 177, 3) := by decide +kernel
theorem dX11_takes_31 : decode cX11_takes 31 = .ok (.dreturn, 1) := by decide +kernel
theorem dX11_arrival_0 : decode cX11_arrival 0 = .ok (.aload_n 0, 1) := by decide +kernel
theorem dX11_arrival_1 : decode cX11_arrival 1 = .ok (.aload_n 0, 1) := by decide +kernel
theorem dX11_arrival_2 : decode cX11_arrival 2 = .ok (.iload_n 1, 1) := by decide +kernel
theorem dX11_arrival_3 : decode cX11_arrival 3 = .ok (.invokevirtual 66, 3) := by decide +kernel
theorem dX11_arrival_6 : decode cX11_arrival 6 = .ok (.ifCond .ne 19, 3) := by decide +kernel
theorem dX11_arrival_9 : decode cX11_arrival 9 = .ok (.aload_n 0, 1) := by decide +kernel
theorem dX11_arrival_10 : decode cX11_arrival 10 = .ok (.iload_n 2, 1) := by decide +kernel
theorem dX11_arrival_11 : decode cX11_arrival 11 = .ok (.invokevirtual 66, 3) := by decide +kernel
theorem dX11_arrival_14 : decode cX11_arrival 14 = .ok (.ifCond .ne 11, 3) := by decide +kernel
theorem dX11_arrival_17 : decode cX11_arrival 17 = .ok (.aload_n 0, 1) := by decide +kernel
theorem dX11_arrival_18 : decode cX11_arrival 18 = .ok (.iload_n 3, 1) := by decide +kernel
theorem dX11_arrival_19 : decode cX11_arrival 19 = .ok (.invokevirtual 181, 3) := by decide +kernel
theorem dX11_arrival_22 : decode cX11_arrival 22 = .ok (.ifCond .eq 7, 3) := by decide +kernel
theorem dX11_arrival_25 : decode cX11_arrival 25 = .ok (.iconst 1, 1) := by decide +kernel
theorem dX11_arrival_26 : decode cX11_arrival 26 = .ok (.goto 4, 3) := by decide +kernel
theorem dX11_arrival_29 : decode cX11_arrival 29 = .ok (.iconst 0, 1) := by decide +kernel
theorem dX11_arrival_30 : decode cX11_arrival 30 = .ok (.iconst 1, 1) := by decide +kernel
theorem dX11_arrival_31 : decode cX11_arrival 31 = .ok (.invokevirtual 59, 3) := by decide +kernel
theorem dX11_arrival_34 : decode cX11_arrival 34 = .ok (.ifCond .ne 24, 3) := by decide +kernel
theorem dX11_arrival_37 : decode cX11_arrival 37 = .ok (.aload_n 0, 1) := by decide +kernel
theorem dX11_arrival_38 : decode cX11_arrival 38 = .ok (.aload_n 0, 1) := by decide +kernel
theorem dX11_arrival_39 : decode cX11_arrival 39 = .ok (.iload_n 1, 1) := by decide +kernel
theorem dX11_arrival_40 : decode cX11_arrival 40 = .ok (.invokevirtual 76, 3) := by decide +kernel
theorem dX11_arrival_43 : decode cX11_arrival 43 = .ok (.ifCond .ne 7, 3) := by decide +kernel
theorem dX11_arrival_46 : decode cX11_arrival 46 = .ok (.iconst 1, 1) := by decide +kernel
theorem dX11_arrival_47 : decode cX11_arrival 47 = .ok (.goto 4, 3) := by decide +kernel
theorem dX11_arrival_50 : decode cX11_arrival 50 = .ok (.iconst 0, 1) := by decide +kernel
theorem dX11_arrival_51 : decode cX11_arrival 51 = .ok (.iconst 2, 1) := by decide +kernel
theorem dX11_arrival_52 : decode cX11_arrival 52 = .ok (.invokevirtual 33, 3) := by decide +kernel
theorem dX11_arrival_55 : decode cX11_arrival 55 = .ok (.ifCond .eq 5, 3) := by decide +kernel
theorem dX11_arrival_58 : decode cX11_arrival 58 = .ok (.dconst 0, 1) := by decide +kernel
theorem dX11_arrival_59 : decode cX11_arrival 59 = .ok (.dreturn, 1) := by decide +kernel
theorem dX11_arrival_60 : decode cX11_arrival 60 = .ok (.new 149, 3) := by decide +kernel
theorem dX11_arrival_63 : decode cX11_arrival 63 = .ok (.dup, 1) := by decide +kernel
theorem dX11_arrival_64 : decode cX11_arrival 64 = .ok (.aload_n 0, 1) := by decide +kernel
theorem dX11_arrival_65 : decode cX11_arrival 65 = .ok (.iload_n 3, 1) := by decide +kernel
theorem dX11_arrival_66 : decode cX11_arrival 66 = .ok (.invokespecial 151, 3) := by decide +kernel
theorem dX11_arrival_69 : decode cX11_arrival 69 = .ok (.iload_n 1, 1) := by decide +kernel
theorem dX11_arrival_70 : decode cX11_arrival 70 = .ok (.iload 4, 2) := by decide +kernel
theorem dX11_arrival_72 : decode cX11_arrival 72 = .ok (.invokevirtual 184, 3) := by decide +kernel
theorem dX11_arrival_75 : decode cX11_arrival 75 = .ok (.iload 5, 2) := by decide +kernel
theorem dX11_arrival_77 : decode cX11_arrival 77 = .ok (.ifCond .eq 7, 3) := by decide +kernel
theorem dX11_arrival_80 : decode cX11_arrival 80 = .ok (.iconst 0, 1) := by decide +kernel
theorem dX11_arrival_81 : decode cX11_arrival 81 = .ok (.goto 4, 3) := by decide +kernel
theorem dX11_arrival_84 : decode cX11_arrival 84 = .ok (.iconst 1, 1) := by decide +kernel
theorem dX11_arrival_85 : decode cX11_arrival 85 = .ok (.aaload, 1) := by decide +kernel
theorem dX11_arrival_86 : decode cX11_arrival 86 = .ok (.iload_n 2, 1) := by decide +kernel
theorem dX11_arrival_87 : decode cX11_arrival 87 = .ok (.daload, 1) := by decide +kernel
theorem dX11_arrival_88 : decode cX11_arrival 88 = .ok (.dreturn, 1) := by decide +kernel
theorem dX11_isNoPair_0 : decode cX11_isNoPair 0 = .ok (.aload_n 0, 1) := by decide +kernel
theorem dX11_isNoPair_1 : decode cX11_isNoPair 1 = .ok (.iload_n 1, 1) := by decide +kernel
theorem dX11_isNoPair_2 : decode cX11_isNoPair 2 = .ok (.invokevirtual 66, 3) := by decide +kernel
theorem dX11_isNoPair_5 : decode cX11_isNoPair 5 = .ok (.ifCond .ne 11, 3) := by decide +kernel
theorem dX11_isNoPair_8 : decode cX11_isNoPair 8 = .ok (.aload_n 0, 1) := by decide +kernel
theorem dX11_isNoPair_9 : decode cX11_isNoPair 9 = .ok (.iload_n 2, 1) := by decide +kernel
theorem dX11_isNoPair_10 : decode cX11_isNoPair 10 = .ok (.invokevirtual 66, 3) := by decide +kernel
theorem dX11_isNoPair_13 : decode cX11_isNoPair 13 = .ok (.ifCond .eq 7, 3) := by decide +kernel
theorem dX11_isNoPair_16 : decode cX11_isNoPair 16 = .ok (.iconst 1, 1) := by decide +kernel
theorem dX11_isNoPair_17 : decode cX11_isNoPair 17 = .ok (.goto 4, 3) := by decide +kernel
theorem dX11_isNoPair_20 : decode cX11_isNoPair 20 = .ok (.iconst 0, 1) := by decide +kernel
theorem dX11_isNoPair_21 : decode cX11_isNoPair 21 = .ok (.ireturn, 1) := by decide +kernel
theorem dX11_winner_0 : decode cX11_winner 0 = .ok (.aload_n 0, 1) := by decide +kernel
theorem dX11_winner_1 : decode cX11_winner 1 = .ok (.aload_n 0, 1) := by decide +kernel
theorem dX11_winner_2 : decode cX11_winner 2 = .ok (.iload_n 1, 1) := by decide +kernel
theorem dX11_winner_3 : decode cX11_winner 3 = .ok (.iload_n 2, 1) := by decide +kernel
theorem dX11_winner_4 : decode cX11_winner 4 = .ok (.invokevirtual 188, 3) := by decide +kernel
theorem dX11_winner_7 : decode cX11_winner 7 = .ok (.iconst 1, 1) := by decide +kernel
theorem dX11_winner_8 : decode cX11_winner 8 = .ok (.invokevirtual 59, 3) := by decide +kernel
theorem dX11_winner_11 : decode cX11_winner 11 = .ok (.ifCond .ne 17, 3) := by decide +kernel
theorem dX11_winner_14 : decode cX11_winner 14 = .ok (.aload_n 0, 1) := by decide +kernel
theorem dX11_winner_15 : decode cX11_winner 15 = .ok (.aload_n 0, 1) := by decide +kernel
theorem dX11_winner_16 : decode cX11_winner 16 = .ok (.iload_n 1, 1) := by decide +kernel
theorem dX11_winner_17 : decode cX11_winner 17 = .ok (.iload_n 2, 1) := by decide +kernel
theorem dX11_winner_18 : decode cX11_winner 18 = .ok (.invokevirtual 191, 3) := by decide +kernel
theorem dX11_winner_21 : decode cX11_winner 21 = .ok (.iconst 2, 1) := by decide +kernel
theorem dX11_winner_22 : decode cX11_winner 22 = .ok (.invokevirtual 33, 3) := by decide +kernel
theorem dX11_winner_25 : decode cX11_winner 25 = .ok (.ifCond .eq 7, 3) := by decide +kernel
theorem dX11_winner_28 : decode cX11_winner 28 = .ok (.iconst 0, 1) := by decide +kernel
theorem dX11_winner_29 : decode cX11_winner 29 = .ok (.goto 9, 3) := by decide +kernel
theorem dX11_winner_32 : decode cX11_winner 32 = .ok (.aload_n 0, 1) := by decide +kernel
theorem dX11_winner_33 : decode cX11_winner 33 = .ok (.iload_n 1, 1) := by decide +kernel
theorem dX11_winner_34 : decode cX11_winner 34 = .ok (.iload_n 2, 1) := by decide +kernel
theorem dX11_winner_35 : decode cX11_winner 35 = .ok (.invokevirtual 136, 3) := by decide +kernel
theorem dX11_winner_38 : decode cX11_winner 38 = .ok (.ireturn, 1) := by decide +kernel
theorem dX11_left_0 : decode cX11_left 0 = .ok (.aload_n 0, 1) := by decide +kernel
theorem dX11_left_1 : decode cX11_left 1 = .ok (.aload_n 0, 1) := by decide +kernel
theorem dX11_left_2 : decode cX11_left 2 = .ok (.iload_n 1, 1) := by decide +kernel
theorem dX11_left_3 : decode cX11_left 3 = .ok (.iload_n 2, 1) := by decide +kernel
theorem dX11_left_4 : decode cX11_left 4 = .ok (.invokevirtual 188, 3) := by decide +kernel
theorem dX11_left_7 : decode cX11_left 7 = .ok (.ifCond .ne 11, 3) := by decide +kernel
theorem dX11_left_10 : decode cX11_left 10 = .ok (.aload_n 0, 1) := by decide +kernel
theorem dX11_left_11 : decode cX11_left 11 = .ok (.iload_n 3, 1) := by decide +kernel
theorem dX11_left_12 : decode cX11_left 12 = .ok (.invokevirtual 181, 3) := by decide +kernel
theorem dX11_left_15 : decode cX11_left 15 = .ok (.ifCond .eq 7, 3) := by decide +kernel
theorem dX11_left_18 : decode cX11_left 18 = .ok (.iconst 1, 1) := by decide +kernel
theorem dX11_left_19 : decode cX11_left 19 = .ok (.goto 4, 3) := by decide +kernel
theorem dX11_left_22 : decode cX11_left 22 = .ok (.iconst 0, 1) := by decide +kernel
theorem dX11_left_23 : decode cX11_left 23 = .ok (.iconst 1, 1) := by decide +kernel
theorem dX11_left_24 : decode cX11_left 24 = .ok (.invokevirtual 59, 3) := by decide +kernel
theorem dX11_left_27 : decode cX11_left 27 = .ok (.ifCond .ne 17, 3) := by decide +kernel
theorem dX11_left_30 : decode cX11_left 30 = .ok (.aload_n 0, 1) := by decide +kernel
theorem dX11_left_31 : decode cX11_left 31 = .ok (.aload_n 0, 1) := by decide +kernel
theorem dX11_left_32 : decode cX11_left 32 = .ok (.iload_n 1, 1) := by decide +kernel
theorem dX11_left_33 : decode cX11_left 33 = .ok (.iload_n 2, 1) := by decide +kernel
theorem dX11_left_34 : decode cX11_left 34 = .ok (.invokevirtual 191, 3) := by decide +kernel
theorem dX11_left_37 : decode cX11_left 37 = .ok (.iconst 2, 1) := by decide +kernel
theorem dX11_left_38 : decode cX11_left 38 = .ok (.invokevirtual 33, 3) := by decide +kernel
theorem dX11_left_41 : decode cX11_left 41 = .ok (.ifCond .eq 7, 3) := by decide +kernel
theorem dX11_left_44 : decode cX11_left 44 = .ok (.dconst 0, 1) := by decide +kernel
theorem dX11_left_45 : decode cX11_left 45 = .ok (.goto 12, 3) := by decide +kernel
theorem dX11_left_48 : decode cX11_left 48 = .ok (.aload_n 0, 1) := by decide +kernel
theorem dX11_left_49 : decode cX11_left 49 = .ok (.iload_n 1, 1) := by decide +kernel
theorem dX11_left_50 : decode cX11_left 50 = .ok (.iload_n 2, 1) := by decide +kernel
theorem dX11_left_51 : decode cX11_left 51 = .ok (.iload_n 3, 1) := by decide +kernel
theorem dX11_left_52 : decode cX11_left 52 = .ok (.iload 4, 2) := by decide +kernel
theorem dX11_left_54 : decode cX11_left 54 = .ok (.invokevirtual 194, 3) := by decide +kernel
theorem dX11_left_57 : decode cX11_left 57 = .ok (.dreturn, 1) := by decide +kernel
theorem dX11_leftAt_0 : decode cX11_leftAt 0 = .ok (.aload_n 0, 1) := by decide +kernel
theorem dX11_leftAt_1 : decode cX11_leftAt 1 = .ok (.aload_n 0, 1) := by decide +kernel
theorem dX11_leftAt_2 : decode cX11_leftAt 2 = .ok (.iload_n 1, 1) := by decide +kernel
theorem dX11_leftAt_3 : decode cX11_leftAt 3 = .ok (.invokevirtual 66, 3) := by decide +kernel
theorem dX11_leftAt_6 : decode cX11_leftAt 6 = .ok (.ifCond .ne 11, 3) := by decide +kernel
theorem dX11_leftAt_9 : decode cX11_leftAt 9 = .ok (.aload_n 0, 1) := by decide +kernel
theorem dX11_leftAt_10 : decode cX11_leftAt 10 = .ok (.iload_n 2, 1) := by decide +kernel
theorem dX11_leftAt_11 : decode cX11_leftAt 11 = .ok (.invokevirtual 181, 3) := by decide +kernel
theorem dX11_leftAt_14 : decode cX11_leftAt 14 = .ok (.ifCond .eq 7, 3) := by decide +kernel
theorem dX11_leftAt_17 : decode cX11_leftAt 17 = .ok (.iconst 1, 1) := by decide +kernel
theorem dX11_leftAt_18 : decode cX11_leftAt 18 = .ok (.goto 4, 3) := by decide +kernel
theorem dX11_leftAt_21 : decode cX11_leftAt 21 = .ok (.iconst 0, 1) := by decide +kernel
theorem dX11_leftAt_22 : decode cX11_leftAt 22 = .ok (.iconst 1, 1) := by decide +kernel
theorem dX11_leftAt_23 : decode cX11_leftAt 23 = .ok (.invokevirtual 59, 3) := by decide +kernel
theorem dX11_leftAt_26 : decode cX11_leftAt 26 = .ok (.ifCond .ne 24, 3) := by decide +kernel
theorem dX11_leftAt_29 : decode cX11_leftAt 29 = .ok (.aload_n 0, 1) := by decide +kernel
theorem dX11_leftAt_30 : decode cX11_leftAt 30 = .ok (.aload_n 0, 1) := by decide +kernel
theorem dX11_leftAt_31 : decode cX11_leftAt 31 = .ok (.iload_n 1, 1) := by decide +kernel
theorem dX11_leftAt_32 : decode cX11_leftAt 32 = .ok (.invokevirtual 79, 3) := by decide +kernel
theorem dX11_leftAt_35 : decode cX11_leftAt 35 = .ok (.ifCond .ne 7, 3) := by decide +kernel
theorem dX11_leftAt_38 : decode cX11_leftAt 38 = .ok (.iconst 1, 1) := by decide +kernel
theorem dX11_leftAt_39 : decode cX11_leftAt 39 = .ok (.goto 4, 3) := by decide +kernel
theorem dX11_leftAt_42 : decode cX11_leftAt 42 = .ok (.iconst 0, 1) := by decide +kernel
theorem dX11_leftAt_43 : decode cX11_leftAt 43 = .ok (.iconst 2, 1) := by decide +kernel
theorem dX11_leftAt_44 : decode cX11_leftAt 44 = .ok (.invokevirtual 33, 3) := by decide +kernel
theorem dX11_leftAt_47 : decode cX11_leftAt 47 = .ok (.ifCond .eq 7, 3) := by decide +kernel
theorem dX11_leftAt_50 : decode cX11_leftAt 50 = .ok (.dconst 0, 1) := by decide +kernel
theorem dX11_leftAt_51 : decode cX11_leftAt 51 = .ok (.goto 10, 3) := by decide +kernel
theorem dX11_leftAt_54 : decode cX11_leftAt 54 = .ok (.aload_n 0, 1) := by decide +kernel
theorem dX11_leftAt_55 : decode cX11_leftAt 55 = .ok (.iload_n 1, 1) := by decide +kernel
theorem dX11_leftAt_56 : decode cX11_leftAt 56 = .ok (.iload_n 2, 1) := by decide +kernel
theorem dX11_leftAt_57 : decode cX11_leftAt 57 = .ok (.iload_n 3, 1) := by decide +kernel
theorem dX11_leftAt_58 : decode cX11_leftAt 58 = .ok (.invokevirtual 198, 3) := by decide +kernel
theorem dX11_leftAt_61 : decode cX11_leftAt 61 = .ok (.dreturn, 1) := by decide +kernel
theorem dX11_borrow_0 : decode cX11_borrow 0 = .ok (.aload_n 0, 1) := by decide +kernel
theorem dX11_borrow_1 : decode cX11_borrow 1 = .ok (.aload_n 0, 1) := by decide +kernel
theorem dX11_borrow_2 : decode cX11_borrow 2 = .ok (.iload_n 1, 1) := by decide +kernel
theorem dX11_borrow_3 : decode cX11_borrow 3 = .ok (.invokevirtual 66, 3) := by decide +kernel
theorem dX11_borrow_6 : decode cX11_borrow 6 = .ok (.ifCond .ne 11, 3) := by decide +kernel
theorem dX11_borrow_9 : decode cX11_borrow 9 = .ok (.aload_n 0, 1) := by decide +kernel
theorem dX11_borrow_10 : decode cX11_borrow 10 = .ok (.iload_n 2, 1) := by decide +kernel
theorem dX11_borrow_11 : decode cX11_borrow 11 = .ok (.invokevirtual 181, 3) := by decide +kernel
theorem dX11_borrow_14 : decode cX11_borrow 14 = .ok (.ifCond .eq 7, 3) := by decide +kernel
theorem dX11_borrow_17 : decode cX11_borrow 17 = .ok (.iconst 1, 1) := by decide +kernel
theorem dX11_borrow_18 : decode cX11_borrow 18 = .ok (.goto 4, 3) := by decide +kernel
theorem dX11_borrow_21 : decode cX11_borrow 21 = .ok (.iconst 0, 1) := by decide +kernel
theorem dX11_borrow_22 : decode cX11_borrow 22 = .ok (.iconst 1, 1) := by decide +kernel
theorem dX11_borrow_23 : decode cX11_borrow 23 = .ok (.invokevirtual 59, 3) := by decide +kernel
theorem dX11_borrow_26 : decode cX11_borrow 26 = .ok (.ifCond .ne 26, 3) := by decide +kernel
theorem dX11_borrow_29 : decode cX11_borrow 29 = .ok (.aload_n 0, 1) := by decide +kernel
theorem dX11_borrow_30 : decode cX11_borrow 30 = .ok (.aload_n 0, 1) := by decide +kernel
theorem dX11_borrow_31 : decode cX11_borrow 31 = .ok (.iload_n 1, 1) := by decide +kernel
theorem dX11_borrow_32 : decode cX11_borrow 32 = .ok (.invokevirtual 51, 3) := by decide +kernel
theorem dX11_borrow_35 : decode cX11_borrow 35 = .ok (.bipush 7, 2) := by decide +kernel
theorem dX11_borrow_37 : decode cX11_borrow 37 = .ok (.if_icmp .eq 7, 3) := by decide +kernel
theorem dX11_borrow_40 : decode cX11_borrow 40 = .ok (.iconst 1, 1) := by decide +kernel
theorem dX11_borrow_41 : decode cX11_borrow 41 = .ok (.goto 4, 3) := by decide +kernel
theorem dX11_borrow_44 : decode cX11_borrow 44 = .ok (.iconst 0, 1) := by decide +kernel
theorem dX11_borrow_45 : decode cX11_borrow 45 = .ok (.iconst 2, 1) := by decide +kernel
theorem dX11_borrow_46 : decode cX11_borrow 46 = .ok (.invokevirtual 33, 3) := by decide +kernel
theorem dX11_borrow_49 : decode cX11_borrow 49 = .ok (.ifCond .eq 7, 3) := by decide +kernel
theorem dX11_borrow_52 : decode cX11_borrow 52 = .ok (.dconst 0, 1) := by decide +kernel
theorem dX11_borrow_53 : decode cX11_borrow 53 = .ok (.goto 9, 3) := by decide +kernel
theorem dX11_borrow_56 : decode cX11_borrow 56 = .ok (.aload_n 0, 1) := by decide +kernel
theorem dX11_borrow_57 : decode cX11_borrow 57 = .ok (.iload_n 1, 1) := by decide +kernel
theorem dX11_borrow_58 : decode cX11_borrow 58 = .ok (.iload_n 2, 1) := by decide +kernel
theorem dX11_borrow_59 : decode cX11_borrow 59 = .ok (.invokevirtual 200, 3) := by decide +kernel
theorem dX11_borrow_62 : decode cX11_borrow 62 = .ok (.dreturn, 1) := by decide +kernel
theorem dX11_ways_0 : decode cX11_ways 0 = .ok (.aload_n 0, 1) := by decide +kernel
theorem dX11_ways_1 : decode cX11_ways 1 = .ok (.aload_n 0, 1) := by decide +kernel
theorem dX11_ways_2 : decode cX11_ways 2 = .ok (.iload_n 1, 1) := by decide +kernel
theorem dX11_ways_3 : decode cX11_ways 3 = .ok (.iload_n 2, 1) := by decide +kernel
theorem dX11_ways_4 : decode cX11_ways 4 = .ok (.invokevirtual 188, 3) := by decide +kernel
theorem dX11_ways_7 : decode cX11_ways 7 = .ok (.iconst 1, 1) := by decide +kernel
theorem dX11_ways_8 : decode cX11_ways 8 = .ok (.invokevirtual 59, 3) := by decide +kernel
theorem dX11_ways_11 : decode cX11_ways 11 = .ok (.ifCond .ne 17, 3) := by decide +kernel
theorem dX11_ways_14 : decode cX11_ways 14 = .ok (.aload_n 0, 1) := by decide +kernel
theorem dX11_ways_15 : decode cX11_ways 15 = .ok (.aload_n 0, 1) := by decide +kernel
theorem dX11_ways_16 : decode cX11_ways 16 = .ok (.iload_n 1, 1) := by decide +kernel
theorem dX11_ways_17 : decode cX11_ways 17 = .ok (.iload_n 2, 1) := by decide +kernel
theorem dX11_ways_18 : decode cX11_ways 18 = .ok (.invokevirtual 191, 3) := by decide +kernel
theorem dX11_ways_21 : decode cX11_ways 21 = .ok (.iconst 2, 1) := by decide +kernel
theorem dX11_ways_22 : decode cX11_ways 22 = .ok (.invokevirtual 33, 3) := by decide +kernel
theorem dX11_ways_25 : decode cX11_ways 25 = .ok (.ifCond .eq 5, 3) := by decide +kernel
theorem dX11_ways_28 : decode cX11_ways 28 = .ok (.iconst 0, 1) := by decide +kernel
theorem dX11_ways_29 : decode cX11_ways 29 = .ok (.ireturn, 1) := by decide +kernel
theorem dX11_ways_30 : decode cX11_ways 30 = .ok (.aload_n 0, 1) := by decide +kernel
theorem dX11_ways_31 : decode cX11_ways 31 = .ok (.getfield 19, 3) := by decide +kernel
theorem dX11_ways_34 : decode cX11_ways 34 = .ok (.iload_n 2, 1) := by decide +kernel
theorem dX11_ways_35 : decode cX11_ways 35 = .ok (.invokevirtual 45, 3) := by decide +kernel
theorem dX11_ways_38 : decode cX11_ways 38 = .ok (.checkcast 49, 3) := by decide +kernel
theorem dX11_ways_41 : decode cX11_ways 41 = .ok (.iconst 1, 1) := by decide +kernel
theorem dX11_ways_42 : decode cX11_ways 42 = .ok (.iaload, 1) := by decide +kernel
theorem dX11_ways_43 : decode cX11_ways 43 = .ok (.istore_n 3, 1) := by decide +kernel
theorem dX11_ways_44 : decode cX11_ways 44 = .ok (.iload_n 3, 1) := by decide +kernel
theorem dX11_ways_45 : decode cX11_ways 45 = .ok (.iconst (-1), 1) := by decide +kernel
theorem dX11_ways_46 : decode cX11_ways 46 = .ok (.if_icmp .ne 7, 3) := by decide +kernel
theorem dX11_ways_49 : decode cX11_ways 49 = .ok (.iconst 0, 1) := by decide +kernel
theorem dX11_ways_50 : decode cX11_ways 50 = .ok (.goto 9, 3) := by decide +kernel
theorem dX11_ways_53 : decode cX11_ways 53 = .ok (.aload_n 0, 1) := by decide +kernel
theorem dX11_ways_54 : decode cX11_ways 54 = .ok (.iload_n 1, 1) := by decide +kernel
theorem dX11_ways_55 : decode cX11_ways 55 = .ok (.iload_n 3, 1) := by decide +kernel
theorem dX11_ways_56 : decode cX11_ways 56 = .ok (.invokevirtual 132, 3) := by decide +kernel
theorem dX11_ways_59 : decode cX11_ways 59 = .ok (.ireturn, 1) := by decide +kernel
theorem dX11_worst_0 : decode cX11_worst 0 = .ok (.aload_n 0, 1) := by decide +kernel
theorem dX11_worst_1 : decode cX11_worst 1 = .ok (.aload_n 0, 1) := by decide +kernel
theorem dX11_worst_2 : decode cX11_worst 2 = .ok (.iload_n 1, 1) := by decide +kernel
theorem dX11_worst_3 : decode cX11_worst 3 = .ok (.invokevirtual 66, 3) := by decide +kernel
theorem dX11_worst_6 : decode cX11_worst 6 = .ok (.iconst 1, 1) := by decide +kernel
theorem dX11_worst_7 : decode cX11_worst 7 = .ok (.invokevirtual 59, 3) := by decide +kernel
theorem dX11_worst_10 : decode cX11_worst 10 = .ok (.ifCond .ne 34, 3) := by decide +kernel
theorem dX11_worst_13 : decode cX11_worst 13 = .ok (.aload_n 0, 1) := by decide +kernel
theorem dX11_worst_14 : decode cX11_worst 14 = .ok (.aload_n 0, 1) := by decide +kernel
theorem dX11_worst_15 : decode cX11_worst 15 = .ok (.iload_n 1, 1) := by decide +kernel
theorem dX11_worst_16 : decode cX11_worst 16 = .ok (.invokevirtual 79, 3) := by decide +kernel
theorem dX11_worst_19 : decode cX11_worst 19 = .ok (.ifCond .eq 13, 3) := by decide +kernel
theorem dX11_worst_22 : decode cX11_worst 22 = .ok (.iload_n 2, 1) := by decide +kernel
theorem dX11_worst_23 : decode cX11_worst 23 = .ok (.iconst 0, 1) := by decide +kernel
theorem dX11_worst_24 : decode cX11_worst 24 = .ok (.bipush 15, 2) := by decide +kernel
theorem dX11_worst_26 : decode cX11_worst 26 = .ok (.invokestatic 41, 3) := by decide +kernel
theorem dX11_worst_29 : decode cX11_worst 29 = .ok (.ifCond .ne 7, 3) := by decide +kernel
theorem dX11_worst_32 : decode cX11_worst 32 = .ok (.iconst 1, 1) := by decide +kernel
theorem dX11_worst_33 : decode cX11_worst 33 = .ok (.goto 4, 3) := by decide +kernel
theorem dX11_worst_36 : decode cX11_worst 36 = .ok (.iconst 0, 1) := by decide +kernel
theorem dX11_worst_37 : decode cX11_worst 37 = .ok (.iconst 2, 1) := by decide +kernel
theorem dX11_worst_38 : decode cX11_worst 38 = .ok (.invokevirtual 33, 3) := by decide +kernel
theorem dX11_worst_41 : decode cX11_worst 41 = .ok (.ifCond .eq 7, 3) := by decide +kernel
theorem dX11_worst_44 : decode cX11_worst 44 = .ok (.iconst 0, 1) := by decide +kernel
theorem dX11_worst_45 : decode cX11_worst 45 = .ok (.goto 9, 3) := by decide +kernel
theorem dX11_worst_48 : decode cX11_worst 48 = .ok (.aload_n 0, 1) := by decide +kernel
theorem dX11_worst_49 : decode cX11_worst 49 = .ok (.iload_n 1, 1) := by decide +kernel
theorem dX11_worst_50 : decode cX11_worst 50 = .ok (.iload_n 2, 1) := by decide +kernel
theorem dX11_worst_51 : decode cX11_worst 51 = .ok (.invokevirtual 211, 3) := by decide +kernel
theorem dX11_worst_54 : decode cX11_worst 54 = .ok (.ireturn, 1) := by decide +kernel
theorem dX11_pairs_0 : decode cX11_pairs 0 = .ok (.iconst 0, 1) := by decide +kernel
theorem dX11_pairs_1 : decode cX11_pairs 1 = .ok (.istore_n 2, 1) := by decide +kernel
theorem dX11_pairs_2 : decode cX11_pairs 2 = .ok (.iconst 0, 1) := by decide +kernel
theorem dX11_pairs_3 : decode cX11_pairs 3 = .ok (.istore_n 3, 1) := by decide +kernel
theorem dX11_pairs_4 : decode cX11_pairs 4 = .ok (.iload_n 3, 1) := by decide +kernel
theorem dX11_pairs_5 : decode cX11_pairs 5 = .ok (.aload_n 0, 1) := by decide +kernel
theorem dX11_pairs_6 : decode cX11_pairs 6 = .ok (.getfield 19, 3) := by decide +kernel
theorem dX11_pairs_9 : decode cX11_pairs 9 = .ok (.invokevirtual 37, 3) := by decide +kernel
theorem dX11_pairs_12 : decode cX11_pairs 12 = .ok (.if_icmp .ge 159, 3) := by decide +kernel
theorem dX11_pairs_15 : decode cX11_pairs 15 = .ok (.iconst 0, 1) := by decide +kernel
theorem dX11_pairs_16 : decode cX11_pairs 16 = .ok (.istore 4, 2) := by decide +kernel
theorem dX11_pairs_18 : decode cX11_pairs 18 = .ok (.iload 4, 2) := by decide +kernel
theorem dX11_pairs_20 : decode cX11_pairs 20 = .ok (.aload_n 0, 1) := by decide +kernel
theorem dX11_pairs_21 : decode cX11_pairs 21 = .ok (.getfield 19, 3) := by decide +kernel
theorem dX11_pairs_24 : decode cX11_pairs 24 = .ok (.invokevirtual 37, 3) := by decide +kernel
theorem dX11_pairs_27 : decode cX11_pairs 27 = .ok (.if_icmp .ge 138, 3) := by decide +kernel
theorem dX11_pairs_30 : decode cX11_pairs 30 = .ok (.aload_n 0, 1) := by decide +kernel
theorem dX11_pairs_31 : decode cX11_pairs 31 = .ok (.iload_n 3, 1) := by decide +kernel
theorem dX11_pairs_32 : decode cX11_pairs 32 = .ok (.iload 4, 2) := by decide +kernel
theorem dX11_pairs_34 : decode cX11_pairs 34 = .ok (.invokevirtual 191, 3) := by decide +kernel
theorem dX11_pairs_37 : decode cX11_pairs 37 = .ok (.ifCond .eq 6, 3) := by decide +kernel
theorem dX11_pairs_40 : decode cX11_pairs 40 = .ok (.goto 119, 3) := by decide +kernel
theorem dX11_pairs_43 : decode cX11_pairs 43 = .ok (.aload_n 0, 1) := by decide +kernel
theorem dX11_pairs_44 : decode cX11_pairs 44 = .ok (.iload_n 3, 1) := by decide +kernel
theorem dX11_pairs_45 : decode cX11_pairs 45 = .ok (.iload 4, 2) := by decide +kernel
theorem dX11_pairs_47 : decode cX11_pairs 47 = .ok (.invokevirtual 139, 3) := by decide +kernel
theorem dX11_pairs_50 : decode cX11_pairs 50 = .ok (.ifCond .eq 21, 3) := by decide +kernel
theorem dX11_pairs_53 : decode cX11_pairs 53 = .ok (.aload_n 0, 1) := by decide +kernel
theorem dX11_pairs_54 : decode cX11_pairs 54 = .ok (.iload_n 3, 1) := by decide +kernel
theorem dX11_pairs_55 : decode cX11_pairs 55 = .ok (.invokevirtual 143, 3) := by decide +kernel
theorem dX11_pairs_58 : decode cX11_pairs 58 = .ok (.aload_n 0, 1) := by decide +kernel
theorem dX11_pairs_59 : decode cX11_pairs 59 = .ok (.iload 4, 2) := by decide +kernel
theorem dX11_pairs_61 : decode cX11_pairs 61 = .ok (.invokevirtual 143, 3) := by decide +kernel
theorem dX11_pairs_64 : decode cX11_pairs 64 = .ok (.if_icmp .eq 7, 3) := by decide +kernel
theorem dX11_pairs_67 : decode cX11_pairs 67 = .ok (.iconst 1, 1) := by decide +kernel
theorem dX11_pairs_68 : decode cX11_pairs 68 = .ok (.goto 4, 3) := by decide +kernel
theorem dX11_pairs_71 : decode cX11_pairs 71 = .ok (.iconst 0, 1) := by decide +kernel
theorem dX11_pairs_72 : decode cX11_pairs 72 = .ok (.istore 5, 2) := by decide +kernel
theorem dX11_pairs_74 : decode cX11_pairs 74 = .ok (.iload 5, 2) := by decide +kernel
theorem dX11_pairs_76 : decode cX11_pairs 76 = .ok (.ifCond .eq 46, 3) := by decide +kernel
theorem dX11_pairs_79 : decode cX11_pairs 79 = .ok (.aload_n 0, 1) := by decide +kernel
theorem dX11_pairs_80 : decode cX11_pairs 80 = .ok (.iload_n 3, 1) := by decide +kernel
theorem dX11_pairs_81 : decode cX11_pairs 81 = .ok (.invokevirtual 51, 3) := by decide +kernel
theorem dX11_pairs_84 : decode cX11_pairs 84 = .ok (.bipush 6, 2) := by decide +kernel
theorem dX11_pairs_86 : decode cX11_pairs 86 = .ok (.if_icmp .ne 36, 3) := by decide +kernel
theorem dX11_pairs_89 : decode cX11_pairs 89 = .ok (.aload_n 0, 1) := by decide +kernel
theorem dX11_pairs_90 : decode cX11_pairs 90 = .ok (.iload 4, 2) := by decide +kernel
theorem dX11_pairs_92 : decode cX11_pairs 92 = .ok (.invokevirtual 51, 3) := by decide +kernel
theorem dX11_pairs_95 : decode cX11_pairs 95 = .ok (.bipush 6, 2) := by decide +kernel
theorem dX11_pairs_97 : decode cX11_pairs 97 = .ok (.if_icmp .ne 25, 3) := by decide +kernel
theorem dX11_pairs_100 : decode cX11_pairs 100 = .ok (.aload_n 0, 1) := by decide +kernel
theorem dX11_pairs_101 : decode cX11_pairs 101 = .ok (.getfield 19, 3) := by decide +kernel
theorem dX11_pairs_104 : decode cX11_pairs 104 = .ok (.iload 4, 2) := by decide +kernel
theorem dX11_pairs_106 : decode cX11_pairs 106 = .ok (.invokevirtual 45, 3) := by decide +kernel
theorem dX11_pairs_109 : decode cX11_pairs 109 = .ok (.checkcast 49, 3) := by decide +kernel
theorem dX11_pairs_112 : decode cX11_pairs 112 = .ok (.iconst 1, 1) := by decide +kernel
theorem dX11_pairs_113 : decode cX11_pairs 113 = .ok (.iaload, 1) := by decide +kernel
theorem dX11_pairs_114 : decode cX11_pairs 114 = .ok (.iload_n 3, 1) := by decide +kernel
theorem dX11_pairs_115 : decode cX11_pairs 115 = .ok (.if_icmp .ne 7, 3) := by decide +kernel
theorem dX11_pairs_118 : decode cX11_pairs 118 = .ok (.iconst 1, 1) := by decide +kernel
theorem dX11_pairs_119 : decode cX11_pairs 119 = .ok (.goto 4, 3) := by decide +kernel
theorem dX11_pairs_122 : decode cX11_pairs 122 = .ok (.iconst 0, 1) := by decide +kernel
theorem dX11_pairs_123 : decode cX11_pairs 123 = .ok (.istore 6, 2) := by decide +kernel
theorem dX11_pairs_125 : decode cX11_pairs 125 = .ok (.iload_n 2, 1) := by decide +kernel
theorem dX11_pairs_126 : decode cX11_pairs 126 = .ok (.iload_n 1, 1) := by decide +kernel
theorem dX11_pairs_127 : decode cX11_pairs 127 = .ok (.iconst 4, 1) := by decide +kernel
theorem dX11_pairs_128 : decode cX11_pairs 128 = .ok (.if_icmp .ne 13, 3) := by decide +kernel
theorem dX11_pairs_131 : decode cX11_pairs 131 = .ok (.aload_n 0, 1) := by decide +kernel
theorem dX11_pairs_132 : decode cX11_pairs 132 = .ok (.iload_n 3, 1) := by decide +kernel
theorem dX11_pairs_133 : decode cX11_pairs 133 = .ok (.iload 4, 2) := by decide +kernel
theorem dX11_pairs_135 : decode cX11_pairs 135 = .ok (.invokevirtual 203, 3) := by decide +kernel
theorem dX11_pairs_138 : decode cX11_pairs 138 = .ok (.goto 16, 3) := by decide +kernel
theorem dX11_pairs_141 : decode cX11_pairs 141 = .ok (.iload_n 1, 1) := by decide +kernel
theorem dX11_pairs_142 : decode cX11_pairs 142 = .ok (.bipush 7, 2) := by decide +kernel
theorem dX11_pairs_144 : decode cX11_pairs 144 = .ok (.if_icmp .ne 8, 3) := by decide +kernel
theorem dX11_pairs_147 : decode cX11_pairs 147 = .ok (.iload 5, 2) := by decide +kernel
theorem dX11_pairs_149 : decode cX11_pairs 149 = .ok (.goto 5, 3) := by decide +kernel
theorem dX11_pairs_152 : decode cX11_pairs 152 = .ok (.iload 6, 2) := by decide +kernel
theorem dX11_pairs_154 : decode cX11_pairs 154 = .ok (.invokestatic 121, 3) := by decide +kernel
theorem dX11_pairs_157 : decode cX11_pairs 157 = .ok (.iadd, 1) := by decide +kernel
theorem dX11_pairs_158 : decode cX11_pairs 158 = .ok (.istore_n 2, 1) := by decide +kernel
theorem dX11_pairs_159 : decode cX11_pairs 159 = .ok (.iinc 4 1, 3) := by decide +kernel
theorem dX11_pairs_162 : decode cX11_pairs 162 = .ok (.goto (-144), 3) := by decide +kernel
theorem dX11_pairs_165 : decode cX11_pairs 165 = .ok (.iinc 3 1, 3) := by decide +kernel
theorem dX11_pairs_168 : decode cX11_pairs 168 = .ok (.goto (-164), 3) := by decide +kernel
theorem dX11_pairs_171 : decode cX11_pairs 171 = .ok (.iload_n 2, 1) := by decide +kernel
theorem dX11_pairs_172 : decode cX11_pairs 172 = .ok (.ireturn, 1) := by decide +kernel
theorem dX11_lacking_0 : decode cX11_lacking 0 = .ok (.iconst 0, 1) := by decide +kernel
theorem dX11_lacking_1 : decode cX11_lacking 1 = .ok (.istore_n 2, 1) := by decide +kernel
theorem dX11_lacking_2 : decode cX11_lacking 2 = .ok (.iconst 0, 1) := by decide +kernel
theorem dX11_lacking_3 : decode cX11_lacking 3 = .ok (.istore_n 3, 1) := by decide +kernel
theorem dX11_lacking_4 : decode cX11_lacking 4 = .ok (.iload_n 3, 1) := by decide +kernel
theorem dX11_lacking_5 : decode cX11_lacking 5 = .ok (.aload_n 0, 1) := by decide +kernel
theorem dX11_lacking_6 : decode cX11_lacking 6 = .ok (.getfield 19, 3) := by decide +kernel
theorem dX11_lacking_9 : decode cX11_lacking 9 = .ok (.invokevirtual 37, 3) := by decide +kernel
theorem dX11_lacking_12 : decode cX11_lacking 12 = .ok (.if_icmp .ge 37, 3) := by decide +kernel
theorem dX11_lacking_15 : decode cX11_lacking 15 = .ok (.iload_n 2, 1) := by decide +kernel
theorem dX11_lacking_16 : decode cX11_lacking 16 = .ok (.aload_n 0, 1) := by decide +kernel
theorem dX11_lacking_17 : decode cX11_lacking 17 = .ok (.iload_n 3, 1) := by decide +kernel
theorem dX11_lacking_18 : decode cX11_lacking 18 = .ok (.invokevirtual 79, 3) := by decide +kernel
theorem dX11_lacking_21 : decode cX11_lacking 21 = .ok (.ifCond .eq 16, 3) := by decide +kernel
theorem dX11_lacking_24 : decode cX11_lacking 24 = .ok (.aload_n 0, 1) := by decide +kernel
theorem dX11_lacking_25 : decode cX11_lacking 25 = .ok (.iload_n 3, 1) := by decide +kernel
theorem dX11_lacking_26 : decode cX11_lacking 26 = .ok (.iload_n 1, 1) := by decide +kernel
theorem dX11_lacking_27 : decode cX11_lacking 27 = .ok (.invokevirtual 214, 3) := by decide +kernel
theorem dX11_lacking_30 : decode cX11_lacking 30 = .ok (.ifCond .eq 7, 3) := by decide +kernel
theorem dX11_lacking_33 : decode cX11_lacking 33 = .ok (.iconst 1, 1) := by decide +kernel
theorem dX11_lacking_34 : decode cX11_lacking 34 = .ok (.goto 4, 3) := by decide +kernel
theorem dX11_lacking_37 : decode cX11_lacking 37 = .ok (.iconst 0, 1) := by decide +kernel
theorem dX11_lacking_38 : decode cX11_lacking 38 = .ok (.invokestatic 121, 3) := by decide +kernel
theorem dX11_lacking_41 : decode cX11_lacking 41 = .ok (.iadd, 1) := by decide +kernel
theorem dX11_lacking_42 : decode cX11_lacking 42 = .ok (.istore_n 2, 1) := by decide +kernel
theorem dX11_lacking_43 : decode cX11_lacking 43 = .ok (.iinc 3 1, 3) := by decide +kernel
theorem dX11_lacking_46 : decode cX11_lacking 46 = .ok (.goto (-42), 3) := by decide +kernel
theorem dX11_lacking_49 : decode cX11_lacking 49 = .ok (.iload_n 2, 1) := by decide +kernel
theorem dX11_lacking_50 : decode cX11_lacking 50 = .ok (.ireturn, 1) := by decide +kernel
theorem dX11_told_0 : decode cX11_told 0 = .ok (.iload_n 1, 1) := by decide +kernel
theorem dX11_told_1 : decode cX11_told 1 = .ok (.tableswitch 116 0 10 #[59, 67, 75, 83, 116, 91, 97, 116, 116, 103, 111], 59) := by decide +kernel
theorem dX11_told_60 : decode cX11_told 60 = .ok (.aload_n 0, 1) := by decide +kernel
theorem dX11_told_61 : decode cX11_told 61 = .ok (.getfield 10, 3) := by decide +kernel
theorem dX11_told_64 : decode cX11_told 64 = .ok (.invokevirtual 37, 3) := by decide +kernel
theorem dX11_told_67 : decode cX11_told 67 = .ok (.ireturn, 1) := by decide +kernel
theorem dX11_told_68 : decode cX11_told 68 = .ok (.aload_n 0, 1) := by decide +kernel
theorem dX11_told_69 : decode cX11_told 69 = .ok (.getfield 16, 3) := by decide +kernel
theorem dX11_told_72 : decode cX11_told 72 = .ok (.invokevirtual 37, 3) := by decide +kernel
theorem dX11_told_75 : decode cX11_told 75 = .ok (.ireturn, 1) := by decide +kernel
theorem dX11_told_76 : decode cX11_told 76 = .ok (.aload_n 0, 1) := by decide +kernel
theorem dX11_told_77 : decode cX11_told 77 = .ok (.getfield 19, 3) := by decide +kernel
theorem dX11_told_80 : decode cX11_told 80 = .ok (.invokevirtual 37, 3) := by decide +kernel
theorem dX11_told_83 : decode cX11_told 83 = .ok (.ireturn, 1) := by decide +kernel
theorem dX11_told_84 : decode cX11_told 84 = .ok (.aload_n 0, 1) := by decide +kernel
theorem dX11_told_85 : decode cX11_told 85 = .ok (.getfield 22, 3) := by decide +kernel
theorem dX11_told_88 : decode cX11_told 88 = .ok (.invokevirtual 37, 3) := by decide +kernel
theorem dX11_told_91 : decode cX11_told 91 = .ok (.ireturn, 1) := by decide +kernel
theorem dX11_told_92 : decode cX11_told 92 = .ok (.aload_n 0, 1) := by decide +kernel
theorem dX11_told_93 : decode cX11_told 93 = .ok (.iconst 1, 1) := by decide +kernel
theorem dX11_told_94 : decode cX11_told 94 = .ok (.invokevirtual 218, 3) := by decide +kernel
theorem dX11_told_97 : decode cX11_told 97 = .ok (.ireturn, 1) := by decide +kernel
theorem dX11_told_98 : decode cX11_told 98 = .ok (.aload_n 0, 1) := by decide +kernel
theorem dX11_told_99 : decode cX11_told 99 = .ok (.iconst 0, 1) := by decide +kernel
theorem dX11_told_100 : decode cX11_told 100 = .ok (.invokevirtual 218, 3) := by decide +kernel
theorem dX11_told_103 : decode cX11_told 103 = .ok (.ireturn, 1) := by decide +kernel
theorem dX11_told_104 : decode cX11_told 104 = .ok (.aload_n 0, 1) := by decide +kernel
theorem dX11_told_105 : decode cX11_told 105 = .ok (.getfield 55, 3) := by decide +kernel
theorem dX11_told_108 : decode cX11_told 108 = .ok (.invokestatic 121, 3) := by decide +kernel
theorem dX11_told_111 : decode cX11_told 111 = .ok (.ireturn, 1) := by decide +kernel
theorem dX11_told_112 : decode cX11_told 112 = .ok (.aload_n 0, 1) := by decide +kernel
theorem dX11_told_113 : decode cX11_told 113 = .ok (.getfield 82, 3) := by decide +kernel
theorem dX11_told_116 : decode cX11_told 116 = .ok (.ireturn, 1) := by decide +kernel
theorem dX11_told_117 : decode cX11_told 117 = .ok (.aload_n 0, 1) := by decide +kernel
theorem dX11_told_118 : decode cX11_told 118 = .ok (.iload_n 1, 1) := by decide +kernel
theorem dX11_told_119 : decode cX11_told 119 = .ok (.invokevirtual 221, 3) := by decide +kernel
theorem dX11_told_122 : decode cX11_told 122 = .ok (.ireturn, 1) := by decide +kernel
theorem dX11_many_0 : decode cX11_many 0 = .ok (.aload_n 0, 1) := by decide +kernel
theorem dX11_many_1 : decode cX11_many 1 = .ok (.iload_n 1, 1) := by decide +kernel
theorem dX11_many_2 : decode cX11_many 2 = .ok (.iconst 0, 1) := by decide +kernel
theorem dX11_many_3 : decode cX11_many 3 = .ok (.bipush 10, 2) := by decide +kernel
theorem dX11_many_5 : decode cX11_many 5 = .ok (.invokestatic 41, 3) := by decide +kernel
theorem dX11_many_8 : decode cX11_many 8 = .ok (.ifCond .ne 7, 3) := by decide +kernel
theorem dX11_many_11 : decode cX11_many 11 = .ok (.iconst 1, 1) := by decide +kernel
theorem dX11_many_12 : decode cX11_many 12 = .ok (.goto 4, 3) := by decide +kernel
theorem dX11_many_15 : decode cX11_many 15 = .ok (.iconst 0, 1) := by decide +kernel
theorem dX11_many_16 : decode cX11_many 16 = .ok (.iconst 1, 1) := by decide +kernel
theorem dX11_many_17 : decode cX11_many 17 = .ok (.invokevirtual 59, 3) := by decide +kernel
theorem dX11_many_20 : decode cX11_many 20 = .ok (.ifCond .eq 7, 3) := by decide +kernel
theorem dX11_many_23 : decode cX11_many 23 = .ok (.iconst 0, 1) := by decide +kernel
theorem dX11_many_24 : decode cX11_many 24 = .ok (.goto 8, 3) := by decide +kernel
theorem dX11_many_27 : decode cX11_many 27 = .ok (.aload_n 0, 1) := by decide +kernel
theorem dX11_many_28 : decode cX11_many 28 = .ok (.iload_n 1, 1) := by decide +kernel
theorem dX11_many_29 : decode cX11_many 29 = .ok (.invokevirtual 224, 3) := by decide +kernel
theorem dX11_many_32 : decode cX11_many 32 = .ok (.ireturn, 1) := by decide +kernel
theorem dX11_least_0 : decode cX11_least 0 = .ok (.aload_n 0, 1) := by decide +kernel
theorem dX11_least_1 : decode cX11_least 1 = .ok (.iconst 0, 1) := by decide +kernel
theorem dX11_least_2 : decode cX11_least 2 = .ok (.putfield 29, 3) := by decide +kernel
theorem dX11_least_5 : decode cX11_least 5 = .ok (.aload_n 0, 1) := by decide +kernel
theorem dX11_least_6 : decode cX11_least 6 = .ok (.iload_n 1, 1) := by decide +kernel
theorem dX11_least_7 : decode cX11_least 7 = .ok (.invokevirtual 227, 3) := by decide +kernel
theorem dX11_least_10 : decode cX11_least 10 = .ok (.dreturn, 1) := by decide +kernel
theorem dX11_wouldLeave_0 : decode cX11_wouldLeave 0 = .ok (.aload_n 0, 1) := by decide +kernel
theorem dX11_wouldLeave_1 : decode cX11_wouldLeave 1 = .ok (.aload_n 0, 1) := by decide +kernel
theorem dX11_wouldLeave_2 : decode cX11_wouldLeave 2 = .ok (.iload_n 1, 1) := by decide +kernel
theorem dX11_wouldLeave_3 : decode cX11_wouldLeave 3 = .ok (.invokevirtual 66, 3) := by decide +kernel
theorem dX11_wouldLeave_6 : decode cX11_wouldLeave 6 = .ok (.iconst 1, 1) := by decide +kernel
theorem dX11_wouldLeave_7 : decode cX11_wouldLeave 7 = .ok (.invokevirtual 59, 3) := by decide +kernel
theorem dX11_wouldLeave_10 : decode cX11_wouldLeave 10 = .ok (.ifCond .ne 15, 3) := by decide +kernel
theorem dX11_wouldLeave_13 : decode cX11_wouldLeave 13 = .ok (.aload_n 0, 1) := by decide +kernel
theorem dX11_wouldLeave_14 : decode cX11_wouldLeave 14 = .ok (.iload_n 2, 1) := by decide +kernel
theorem dX11_wouldLeave_15 : decode cX11_wouldLeave 15 = .ok (.invokestatic 69, 3) := by decide +kernel
theorem dX11_wouldLeave_18 : decode cX11_wouldLeave 18 = .ok (.iconst 2, 1) := by decide +kernel
theorem dX11_wouldLeave_19 : decode cX11_wouldLeave 19 = .ok (.invokevirtual 33, 3) := by decide +kernel
theorem dX11_wouldLeave_22 : decode cX11_wouldLeave 22 = .ok (.ifCond .eq 7, 3) := by decide +kernel
theorem dX11_wouldLeave_25 : decode cX11_wouldLeave 25 = .ok (.dconst 0, 1) := by decide +kernel
theorem dX11_wouldLeave_26 : decode cX11_wouldLeave 26 = .ok (.goto 9, 3) := by decide +kernel
theorem dX11_wouldLeave_29 : decode cX11_wouldLeave 29 = .ok (.aload_n 0, 1) := by decide +kernel
theorem dX11_wouldLeave_30 : decode cX11_wouldLeave 30 = .ok (.iload_n 1, 1) := by decide +kernel
theorem dX11_wouldLeave_31 : decode cX11_wouldLeave 31 = .ok (.iload_n 2, 1) := by decide +kernel
theorem dX11_wouldLeave_32 : decode cX11_wouldLeave 32 = .ok (.invokevirtual 231, 3) := by decide +kernel
theorem dX11_wouldLeave_35 : decode cX11_wouldLeave 35 = .ok (.dreturn, 1) := by decide +kernel
theorem dX11_bestOf_0 : decode cX11_bestOf 0 = .ok (.iconst (-1), 1) := by decide +kernel
theorem dX11_bestOf_1 : decode cX11_bestOf 1 = .ok (.istore_n 1, 1) := by decide +kernel
theorem dX11_bestOf_2 : decode cX11_bestOf 2 = .ok (.aload_n 0, 1) := by decide +kernel
theorem dX11_bestOf_3 : decode cX11_bestOf 3 = .ok (.iconst 1, 1) := by decide +kernel
theorem dX11_bestOf_4 : decode cX11_bestOf 4 = .ok (.invokevirtual 227, 3) := by decide +kernel
theorem dX11_bestOf_7 : decode cX11_bestOf 7 = .ok (.dstore_n 2, 1) := by decide +kernel
theorem dX11_bestOf_8 : decode cX11_bestOf 8 = .ok (.iconst 0, 1) := by decide +kernel
theorem dX11_bestOf_9 : decode cX11_bestOf 9 = .ok (.istore 4, 2) := by decide +kernel
theorem dX11_bestOf_11 : decode cX11_bestOf 11 = .ok (.iload 4, 2) := by decide +kernel
theorem dX11_bestOf_13 : decode cX11_bestOf 13 = .ok (.aload_n 0, 1) := by decide +kernel
theorem dX11_bestOf_14 : decode cX11_bestOf 14 = .ok (.getfield 19, 3) := by decide +kernel
theorem dX11_bestOf_17 : decode cX11_bestOf 17 = .ok (.invokevirtual 37, 3) := by decide +kernel
theorem dX11_bestOf_20 : decode cX11_bestOf 20 = .ok (.if_icmp .ge 57, 3) := by decide +kernel
theorem dX11_bestOf_23 : decode cX11_bestOf 23 = .ok (.iconst 0, 1) := by decide +kernel
theorem dX11_bestOf_24 : decode cX11_bestOf 24 = .ok (.istore 5, 2) := by decide +kernel
theorem dX11_bestOf_26 : decode cX11_bestOf 26 = .ok (.iload 5, 2) := by decide +kernel
theorem dX11_bestOf_28 : decode cX11_bestOf 28 = .ok (.iconst 3, 1) := by decide +kernel
theorem dX11_bestOf_29 : decode cX11_bestOf 29 = .ok (.if_icmp .ge 42, 3) := by decide +kernel
theorem dX11_bestOf_32 : decode cX11_bestOf 32 = .ok (.aload_n 0, 1) := by decide +kernel
theorem dX11_bestOf_33 : decode cX11_bestOf 33 = .ok (.iload 4, 2) := by decide +kernel
theorem dX11_bestOf_35 : decode cX11_bestOf 35 = .ok (.iconst 1, 1) := by decide +kernel
theorem dX11_bestOf_36 : decode cX11_bestOf 36 = .ok (.iload 5, 2) := by decide +kernel
theorem dX11_bestOf_38 : decode cX11_bestOf 38 = .ok (.ishl, 1) := by decide +kernel
theorem dX11_bestOf_39 : decode cX11_bestOf 39 = .ok (.invokevirtual 231, 3) := by decide +kernel
theorem dX11_bestOf_42 : decode cX11_bestOf 42 = .ok (.dstore 6, 2) := by decide +kernel
theorem dX11_bestOf_44 : decode cX11_bestOf 44 = .ok (.dload 6, 2) := by decide +kernel
theorem dX11_bestOf_46 : decode cX11_bestOf 46 = .ok (.dload_n 2, 1) := by decide +kernel
theorem dX11_bestOf_47 : decode cX11_bestOf 47 = .ok (.dcmp .g, 1) := by decide +kernel
theorem dX11_bestOf_48 : decode cX11_bestOf 48 = .ok (.ifCond .gt 6, 3) := by decide +kernel
theorem dX11_bestOf_51 : decode cX11_bestOf 51 = .ok (.goto 14, 3) := by decide +kernel
theorem dX11_bestOf_54 : decode cX11_bestOf 54 = .ok (.dload 6, 2) := by decide +kernel
theorem dX11_bestOf_56 : decode cX11_bestOf 56 = .ok (.dstore_n 2, 1) := by decide +kernel
theorem dX11_bestOf_57 : decode cX11_bestOf 57 = .ok (.iconst 4, 1) := by decide +kernel
theorem dX11_bestOf_58 : decode cX11_bestOf 58 = .ok (.iload 4, 2) := by decide +kernel
theorem dX11_bestOf_60 : decode cX11_bestOf 60 = .ok (.imul, 1) := by decide +kernel
theorem dX11_bestOf_61 : decode cX11_bestOf 61 = .ok (.iload 5, 2) := by decide +kernel
theorem dX11_bestOf_63 : decode cX11_bestOf 63 = .ok (.iadd, 1) := by decide +kernel
theorem dX11_bestOf_64 : decode cX11_bestOf 64 = .ok (.istore_n 1, 1) := by decide +kernel
theorem dX11_bestOf_65 : decode cX11_bestOf 65 = .ok (.iinc 5 1, 3) := by decide +kernel
theorem dX11_bestOf_68 : decode cX11_bestOf 68 = .ok (.goto (-42), 3) := by decide +kernel
theorem dX11_bestOf_71 : decode cX11_bestOf 71 = .ok (.iinc 4 1, 3) := by decide +kernel
theorem dX11_bestOf_74 : decode cX11_bestOf 74 = .ok (.goto (-63), 3) := by decide +kernel
theorem dX11_bestOf_77 : decode cX11_bestOf 77 = .ok (.iload_n 1, 1) := by decide +kernel
theorem dX11_bestOf_78 : decode cX11_bestOf 78 = .ok (.ireturn, 1) := by decide +kernel
theorem dX11_best_0 : decode cX11_best 0 = .ok (.aload_n 0, 1) := by decide +kernel
theorem dX11_best_1 : decode cX11_best 1 = .ok (.iconst 0, 1) := by decide +kernel
theorem dX11_best_2 : decode cX11_best 2 = .ok (.putfield 29, 3) := by decide +kernel
theorem dX11_best_5 : decode cX11_best 5 = .ok (.aload_n 0, 1) := by decide +kernel
theorem dX11_best_6 : decode cX11_best 6 = .ok (.invokevirtual 234, 3) := by decide +kernel
theorem dX11_best_9 : decode cX11_best 9 = .ok (.ireturn, 1) := by decide +kernel
theorem dX11_isIdle_0 : decode cX11_isIdle 0 = .ok (.aload_n 0, 1) := by decide +kernel
theorem dX11_isIdle_1 : decode cX11_isIdle 1 = .ok (.aload_n 0, 1) := by decide +kernel
theorem dX11_isIdle_2 : decode cX11_isIdle 2 = .ok (.iload_n 1, 1) := by decide +kernel
theorem dX11_isIdle_3 : decode cX11_isIdle 3 = .ok (.invokevirtual 181, 3) := by decide +kernel
theorem dX11_isIdle_6 : decode cX11_isIdle 6 = .ok (.iconst 1, 1) := by decide +kernel
theorem dX11_isIdle_7 : decode cX11_isIdle 7 = .ok (.invokevirtual 59, 3) := by decide +kernel
theorem dX11_isIdle_10 : decode cX11_isIdle 10 = .ok (.ifCond .eq 5, 3) := by decide +kernel
theorem dX11_isIdle_13 : decode cX11_isIdle 13 = .ok (.iconst 0, 1) := by decide +kernel
theorem dX11_isIdle_14 : decode cX11_isIdle 14 = .ok (.ireturn, 1) := by decide +kernel
theorem dX11_isIdle_15 : decode cX11_isIdle 15 = .ok (.iconst 0, 1) := by decide +kernel
theorem dX11_isIdle_16 : decode cX11_isIdle 16 = .ok (.istore_n 2, 1) := by decide +kernel
theorem dX11_isIdle_17 : decode cX11_isIdle 17 = .ok (.iload_n 2, 1) := by decide +kernel
theorem dX11_isIdle_18 : decode cX11_isIdle 18 = .ok (.aload_n 0, 1) := by decide +kernel
theorem dX11_isIdle_19 : decode cX11_isIdle 19 = .ok (.getfield 16, 3) := by decide +kernel
theorem dX11_isIdle_22 : decode cX11_isIdle 22 = .ok (.invokevirtual 37, 3) := by decide +kernel
theorem dX11_isIdle_25 : decode cX11_isIdle 25 = .ok (.if_icmp .ge 25, 3) := by decide +kernel
theorem dX11_isIdle_28 : decode cX11_isIdle 28 = .ok (.iload_n 2, 1) := by decide +kernel
theorem dX11_isIdle_29 : decode cX11_isIdle 29 = .ok (.iload_n 1, 1) := by decide +kernel
theorem dX11_isIdle_30 : decode cX11_isIdle 30 = .ok (.if_icmp .eq 14, 3) := by decide +kernel
theorem dX11_isIdle_33 : decode cX11_isIdle 33 = .ok (.aload_n 0, 1) := by decide +kernel
theorem dX11_isIdle_34 : decode cX11_isIdle 34 = .ok (.iload_n 1, 1) := by decide +kernel
theorem dX11_isIdle_35 : decode cX11_isIdle 35 = .ok (.iload_n 2, 1) := by decide +kernel
theorem dX11_isIdle_36 : decode cX11_isIdle 36 = .ok (.invokevirtual 237, 3) := by decide +kernel
theorem dX11_isIdle_39 : decode cX11_isIdle 39 = .ok (.ifCond .eq 5, 3) := by decide +kernel
theorem dX11_isIdle_42 : decode cX11_isIdle 42 = .ok (.iconst 1, 1) := by decide +kernel
theorem dX11_isIdle_43 : decode cX11_isIdle 43 = .ok (.ireturn, 1) := by decide +kernel
theorem dX11_isIdle_44 : decode cX11_isIdle 44 = .ok (.iinc 2 1, 3) := by decide +kernel
theorem dX11_isIdle_47 : decode cX11_isIdle 47 = .ok (.goto (-30), 3) := by decide +kernel
theorem dX11_isIdle_50 : decode cX11_isIdle 50 = .ok (.iconst 0, 1) := by decide +kernel
theorem dX11_isIdle_51 : decode cX11_isIdle 51 = .ok (.ireturn, 1) := by decide +kernel
theorem dX11_add_0 : decode cX11_add 0 = .ok (.lload_n 0, 1) := by decide +kernel
theorem dX11_add_1 : decode cX11_add 1 = .ok (.ldc2_w 240, 3) := by decide +kernel
theorem dX11_add_4 : decode cX11_add 4 = .ok (.lmul, 1) := by decide +kernel
theorem dX11_add_5 : decode cX11_add 5 = .ok (.lload_n 2, 1) := by decide +kernel
theorem dX11_add_6 : decode cX11_add 6 = .ok (.ladd, 1) := by decide +kernel
theorem dX11_add_7 : decode cX11_add 7 = .ok (.lreturn, 1) := by decide +kernel
theorem dX11_digest_0 : decode cX11_digest 0 = .ok (.aload_n 0, 1) := by decide +kernel
theorem dX11_digest_1 : decode cX11_digest 1 = .ok (.iconst 0, 1) := by decide +kernel
theorem dX11_digest_2 : decode cX11_digest 2 = .ok (.putfield 29, 3) := by decide +kernel
theorem dX11_digest_5 : decode cX11_digest 5 = .ok (.ldc2_w 242, 3) := by decide +kernel
theorem dX11_digest_8 : decode cX11_digest 8 = .ok (.lstore_n 1, 1) := by decide +kernel
theorem dX11_digest_9 : decode cX11_digest 9 = .ok (.iconst 0, 1) := by decide +kernel
theorem dX11_digest_10 : decode cX11_digest 10 = .ok (.istore_n 3, 1) := by decide +kernel
theorem dX11_digest_11 : decode cX11_digest 11 = .ok (.iload_n 3, 1) := by decide +kernel
theorem dX11_digest_12 : decode cX11_digest 12 = .ok (.bipush 11, 2) := by decide +kernel
theorem dX11_digest_14 : decode cX11_digest 14 = .ok (.if_icmp .ge 20, 3) := by decide +kernel
theorem dX11_digest_17 : decode cX11_digest 17 = .ok (.lload_n 1, 1) := by decide +kernel
theorem dX11_digest_18 : decode cX11_digest 18 = .ok (.aload_n 0, 1) := by decide +kernel
theorem dX11_digest_19 : decode cX11_digest 19 = .ok (.iload_n 3, 1) := by decide +kernel
theorem dX11_digest_20 : decode cX11_digest 20 = .ok (.invokevirtual 224, 3) := by decide +kernel
theorem dX11_digest_23 : decode cX11_digest 23 = .ok (.i2l, 1) := by decide +kernel
theorem dX11_digest_24 : decode cX11_digest 24 = .ok (.invokestatic 244, 3) := by decide +kernel
theorem dX11_digest_27 : decode cX11_digest 27 = .ok (.lstore_n 1, 1) := by decide +kernel
theorem dX11_digest_28 : decode cX11_digest 28 = .ok (.iinc 3 1, 3) := by decide +kernel
theorem dX11_digest_31 : decode cX11_digest 31 = .ok (.goto (-20), 3) := by decide +kernel
theorem dX11_digest_34 : decode cX11_digest 34 = .ok (.aload_n 0, 1) := by decide +kernel
theorem dX11_digest_35 : decode cX11_digest 35 = .ok (.getfield 10, 3) := by decide +kernel
theorem dX11_digest_38 : decode cX11_digest 38 = .ok (.invokevirtual 86, 3) := by decide +kernel
theorem dX11_digest_41 : decode cX11_digest 41 = .ok (.astore_n 3, 1) := by decide +kernel
theorem dX11_digest_42 : decode cX11_digest 42 = .ok (.aload_n 3, 1) := by decide +kernel
theorem dX11_digest_43 : decode cX11_digest 43 = .ok (.invokeinterface 90 1, 5) := by decide +kernel
theorem dX11_digest_48 : decode cX11_digest 48 = .ok (.ifCond .eq 43, 3) := by decide +kernel
theorem dX11_digest_51 : decode cX11_digest 51 = .ok (.aload_n 3, 1) := by decide +kernel
theorem dX11_digest_52 : decode cX11_digest 52 = .ok (.invokeinterface 96 1, 5) := by decide +kernel
theorem dX11_digest_57 : decode cX11_digest 57 = .ok (.checkcast 49, 3) := by decide +kernel
theorem dX11_digest_60 : decode cX11_digest 60 = .ok (.astore 4, 2) := by decide +kernel
theorem dX11_digest_62 : decode cX11_digest 62 = .ok (.iconst 0, 1) := by decide +kernel
theorem dX11_digest_63 : decode cX11_digest 63 = .ok (.istore 5, 2) := by decide +kernel
theorem dX11_digest_65 : decode cX11_digest 65 = .ok (.iload 5, 2) := by decide +kernel
theorem dX11_digest_67 : decode cX11_digest 67 = .ok (.iconst 5, 1) := by decide +kernel
theorem dX11_digest_68 : decode cX11_digest 68 = .ok (.if_icmp .ge 20, 3) := by decide +kernel
theorem dX11_digest_71 : decode cX11_digest 71 = .ok (.lload_n 1, 1) := by decide +kernel
theorem dX11_digest_72 : decode cX11_digest 72 = .ok (.aload 4, 2) := by decide +kernel
theorem dX11_digest_74 : decode cX11_digest 74 = .ok (.iload 5, 2) := by decide +kernel
theorem dX11_digest_76 : decode cX11_digest 76 = .ok (.iaload, 1) := by decide +kernel
theorem dX11_digest_77 : decode cX11_digest 77 = .ok (.i2l, 1) := by decide +kernel
theorem dX11_digest_78 : decode cX11_digest 78 = .ok (.invokestatic 244, 3) := by decide +kernel
theorem dX11_digest_81 : decode cX11_digest 81 = .ok (.lstore_n 1, 1) := by decide +kernel
theorem dX11_digest_82 : decode cX11_digest 82 = .ok (.iinc 5 1, 3) := by decide +kernel
theorem dX11_digest_85 : decode cX11_digest 85 = .ok (.goto (-20), 3) := by decide +kernel
theorem dX11_digest_88 : decode cX11_digest 88 = .ok (.goto (-46), 3) := by decide +kernel
theorem dX11_digest_91 : decode cX11_digest 91 = .ok (.iconst 0, 1) := by decide +kernel
theorem dX11_digest_92 : decode cX11_digest 92 = .ok (.istore_n 3, 1) := by decide +kernel
theorem dX11_digest_93 : decode cX11_digest 93 = .ok (.iload_n 3, 1) := by decide +kernel
theorem dX11_digest_94 : decode cX11_digest 94 = .ok (.aload_n 0, 1) := by decide +kernel
theorem dX11_digest_95 : decode cX11_digest 95 = .ok (.getfield 19, 3) := by decide +kernel
theorem dX11_digest_98 : decode cX11_digest 98 = .ok (.invokevirtual 37, 3) := by decide +kernel
theorem dX11_digest_101 : decode cX11_digest 101 = .ok (.if_icmp .ge 107, 3) := by decide +kernel
theorem dX11_digest_104 : decode cX11_digest 104 = .ok (.iconst 0, 1) := by decide +kernel
theorem dX11_digest_105 : decode cX11_digest 105 = .ok (.istore 4, 2) := by decide +kernel
theorem dX11_digest_107 : decode cX11_digest 107 = .ok (.iload 4, 2) := by decide +kernel
theorem dX11_digest_109 : decode cX11_digest 109 = .ok (.bipush 7, 2) := by decide +kernel
theorem dX11_digest_111 : decode cX11_digest 111 = .ok (.if_icmp .ge 22, 3) := by decide +kernel
theorem dX11_digest_114 : decode cX11_digest 114 = .ok (.lload_n 1, 1) := by decide +kernel
theorem dX11_digest_115 : decode cX11_digest 115 = .ok (.aload_n 0, 1) := by decide +kernel
theorem dX11_digest_116 : decode cX11_digest 116 = .ok (.iload_n 3, 1) := by decide +kernel
theorem dX11_digest_117 : decode cX11_digest 117 = .ok (.iload 4, 2) := by decide +kernel
theorem dX11_digest_119 : decode cX11_digest 119 = .ok (.invokevirtual 174, 3) := by decide +kernel
theorem dX11_digest_122 : decode cX11_digest 122 = .ok (.i2l, 1) := by decide +kernel
theorem dX11_digest_123 : decode cX11_digest 123 = .ok (.invokestatic 244, 3) := by decide +kernel
theorem dX11_digest_126 : decode cX11_digest 126 = .ok (.lstore_n 1, 1) := by decide +kernel
theorem dX11_digest_127 : decode cX11_digest 127 = .ok (.iinc 4 1, 3) := by decide +kernel
theorem dX11_digest_130 : decode cX11_digest 130 = .ok (.goto (-23), 3) := by decide +kernel
theorem dX11_digest_133 : decode cX11_digest 133 = .ok (.lload_n 1, 1) := by decide +kernel
theorem dX11_digest_134 : decode cX11_digest 134 = .ok (.ldc 247, 2) := by decide +kernel
theorem dX11_digest_136 : decode cX11_digest 136 = .ok (.aload_n 0, 1) := by decide +kernel
theorem dX11_digest_137 : decode cX11_digest 137 = .ok (.iload_n 3, 1) := by decide +kernel
theorem dX11_digest_138 : decode cX11_digest 138 = .ok (.invokevirtual 72, 3) := by decide +kernel
theorem dX11_digest_141 : decode cX11_digest 141 = .ok (.fmul, 1) := by decide +kernel
theorem dX11_digest_142 : decode cX11_digest 142 = .ok (.f2l, 1) := by decide +kernel
theorem dX11_digest_143 : decode cX11_digest 143 = .ok (.invokestatic 244, 3) := by decide +kernel
theorem dX11_digest_146 : decode cX11_digest 146 = .ok (.lstore_n 1, 1) := by decide +kernel
theorem dX11_digest_147 : decode cX11_digest 147 = .ok (.aload_n 0, 1) := by decide +kernel
theorem dX11_digest_148 : decode cX11_digest 148 = .ok (.iload_n 3, 1) := by decide +kernel
theorem dX11_digest_149 : decode cX11_digest 149 = .ok (.invokevirtual 79, 3) := by decide +kernel
theorem dX11_digest_152 : decode cX11_digest 152 = .ok (.ifCond .ne 6, 3) := by decide +kernel
theorem dX11_digest_155 : decode cX11_digest 155 = .ok (.goto 47, 3) := by decide +kernel
theorem dX11_digest_158 : decode cX11_digest 158 = .ok (.lload_n 1, 1) := by decide +kernel
theorem dX11_digest_159 : decode cX11_digest 159 = .ok (.ldc2_w 248, 3) := by decide +kernel
theorem dX11_digest_162 : decode cX11_digest 162 = .ok (.aload_n 0, 1) := by decide +kernel
theorem dX11_digest_163 : decode cX11_digest 163 = .ok (.iload_n 3, 1) := by decide +kernel
theorem dX11_digest_164 : decode cX11_digest 164 = .ok (.iconst 0, 1) := by decide +kernel
theorem dX11_digest_165 : decode cX11_digest 165 = .ok (.iconst 1, 1) := by decide +kernel
theorem dX11_digest_166 : decode cX11_digest 166 = .ok (.invokevirtual 198, 3) := by decide +kernel
theorem dX11_digest_169 : decode cX11_digest 169 = .ok (.dmul, 1) := by decide +kernel
theorem dX11_digest_170 : decode cX11_digest 170 = .ok (.d2l, 1) := by decide +kernel
theorem dX11_digest_171 : decode cX11_digest 171 = .ok (.invokestatic 244, 3) := by decide +kernel
theorem dX11_digest_174 : decode cX11_digest 174 = .ok (.ldc2_w 248, 3) := by decide +kernel
theorem dX11_digest_177 : decode cX11_digest 177 = .ok (.aload_n 0, 1) := by decide +kernel
theorem dX11_digest_178 : decode cX11_digest 178 = .ok (.iload_n 3, 1) := by decide +kernel
theorem dX11_digest_179 : decode cX11_digest 179 = .ok (.iconst 0, 1) := by decide +kernel
theorem dX11_digest_180 : decode cX11_digest 180 = .ok (.iconst 0, 1) := by decide +kernel
theorem dX11_digest_181 : decode cX11_digest 181 = .ok (.invokevirtual 198, 3) := by decide +kernel
theorem dX11_digest_184 : decode cX11_digest 184 = .ok (.dmul, 1) := by decide +kernel
theorem dX11_digest_185 : decode cX11_digest 185 = .ok (.d2l, 1) := by decide +kernel
theorem dX11_digest_186 : decode cX11_digest 186 = .ok (.invokestatic 244, 3) := by decide +kernel
theorem dX11_digest_189 : decode cX11_digest 189 = .ok (.lstore_n 1, 1) := by decide +kernel
theorem dX11_digest_190 : decode cX11_digest 190 = .ok (.lload_n 1, 1) := by decide +kernel
theorem dX11_digest_191 : decode cX11_digest 191 = .ok (.aload_n 0, 1) := by decide +kernel
theorem dX11_digest_192 : decode cX11_digest 192 = .ok (.iload_n 3, 1) := by decide +kernel
theorem dX11_digest_193 : decode cX11_digest 193 = .ok (.iconst 0, 1) := by decide +kernel
theorem dX11_digest_194 : decode cX11_digest 194 = .ok (.invokevirtual 211, 3) := by decide +kernel
theorem dX11_digest_197 : decode cX11_digest 197 = .ok (.i2l, 1) := by decide +kernel
theorem dX11_digest_198 : decode cX11_digest 198 = .ok (.invokestatic 244, 3) := by decide +kernel
theorem dX11_digest_201 : decode cX11_digest 201 = .ok (.lstore_n 1, 1) := by decide +kernel
theorem dX11_digest_202 : decode cX11_digest 202 = .ok (.iinc 3 1, 3) := by decide +kernel
theorem dX11_digest_205 : decode cX11_digest 205 = .ok (.goto (-112), 3) := by decide +kernel
theorem dX11_digest_208 : decode cX11_digest 208 = .ok (.lload_n 1, 1) := by decide +kernel
theorem dX11_digest_209 : decode cX11_digest 209 = .ok (.aload_n 0, 1) := by decide +kernel
theorem dX11_digest_210 : decode cX11_digest 210 = .ok (.invokevirtual 234, 3) := by decide +kernel
theorem dX11_digest_213 : decode cX11_digest 213 = .ok (.i2l, 1) := by decide +kernel
theorem dX11_digest_214 : decode cX11_digest 214 = .ok (.invokestatic 244, 3) := by decide +kernel
theorem dX11_digest_217 : decode cX11_digest 217 = .ok (.lreturn, 1) := by decide +kernel
theorem dJxa1e45_init_da8c8_0 : decode cJxa1e45_init_da8c8 0 = .ok (.aload_n 0, 1) := by decide +kernel
theorem dJxa1e45_init_da8c8_1 : decode cJxa1e45_init_da8c8 1 = .ok (.invokespecial 1, 3) := by decide +kernel
theorem dJxa1e45_init_da8c8_4 : decode cJxa1e45_init_da8c8 4 = .ok (.return_, 1) := by decide +kernel
theorem dJxc12de_init_da8c8_0 : decode cJxc12de_init_da8c8 0 = .ok (.aload_n 0, 1) := by decide +kernel
theorem dJxc12de_init_da8c8_1 : decode cJxc12de_init_da8c8 1 = .ok (.invokespecial 1, 3) := by decide +kernel
theorem dJxc12de_init_da8c8_4 : decode cJxc12de_init_da8c8 4 = .ok (.aload_n 0, 1) := by decide +kernel
theorem dJxc12de_init_da8c8_5 : decode cJxc12de_init_da8c8 5 = .ok (.iconst 0, 1) := by decide +kernel
theorem dJxc12de_init_da8c8_6 : decode cJxc12de_init_da8c8 6 = .ok (.putfield 7, 3) := by decide +kernel
theorem dJxc12de_init_da8c8_9 : decode cJxc12de_init_da8c8 9 = .ok (.return_, 1) := by decide +kernel
theorem dJx35411_init_45d68_0 : decode cJx35411_init_45d68 0 = .ok (.aload_n 0, 1) := by decide +kernel
theorem dJx35411_init_45d68_1 : decode cJx35411_init_45d68 1 = .ok (.aload_n 1, 1) := by decide +kernel
theorem dJx35411_init_45d68_2 : decode cJx35411_init_45d68 2 = .ok (.putfield 1, 3) := by decide +kernel
theorem dJx35411_init_45d68_5 : decode cJx35411_init_45d68 5 = .ok (.aload_n 0, 1) := by decide +kernel
theorem dJx35411_init_45d68_6 : decode cJx35411_init_45d68 6 = .ok (.invokespecial 7, 3) := by decide +kernel
theorem dJx35411_init_45d68_9 : decode cJx35411_init_45d68 9 = .ok (.aload_n 0, 1) := by decide +kernel
theorem dJx35411_init_45d68_10 : decode cJx35411_init_45d68 10 = .ok (.iconst (-1), 1) := by decide +kernel
theorem dJx35411_init_45d68_11 : decode cJx35411_init_45d68 11 = .ok (.putfield 13, 3) := by decide +kernel
theorem dJx35411_init_45d68_14 : decode cJx35411_init_45d68 14 = .ok (.aload_n 0, 1) := by decide +kernel
theorem dJx35411_init_45d68_15 : decode cJx35411_init_45d68 15 = .ok (.aload_n 0, 1) := by decide +kernel
theorem dJx35411_init_45d68_16 : decode cJx35411_init_45d68 16 = .ok (.getfield 1, 3) := by decide +kernel
theorem dJx35411_init_45d68_19 : decode cJx35411_init_45d68 19 = .ok (.getfield 17, 3) := by decide +kernel
theorem dJx35411_init_45d68_22 : decode cJx35411_init_45d68 22 = .ok (.putfield 22, 3) := by decide +kernel
theorem dJx35411_init_45d68_25 : decode cJx35411_init_45d68 25 = .ok (.return_, 1) := by decide +kernel
theorem dJx35411_hasNext_aae02_0 : decode cJx35411_hasNext_aae02 0 = .ok (.aload_n 0, 1) := by decide +kernel
theorem dJx35411_hasNext_aae02_1 : decode cJx35411_hasNext_aae02 1 = .ok (.getfield 25, 3) := by decide +kernel
theorem dJx35411_hasNext_aae02_4 : decode cJx35411_hasNext_aae02 4 = .ok (.aload_n 0, 1) := by decide +kernel
theorem dJx35411_hasNext_aae02_5 : decode cJx35411_hasNext_aae02 5 = .ok (.getfield 1, 3) := by decide +kernel
theorem dJx35411_hasNext_aae02_8 : decode cJx35411_hasNext_aae02 8 = .ok (.getfield 28, 3) := by decide +kernel
theorem dJx35411_hasNext_aae02_11 : decode cJx35411_hasNext_aae02 11 = .ok (.if_icmp .eq 7, 3) := by decide +kernel
theorem dJx35411_hasNext_aae02_14 : decode cJx35411_hasNext_aae02 14 = .ok (.iconst 1, 1) := by decide +kernel
theorem dJx35411_hasNext_aae02_15 : decode cJx35411_hasNext_aae02 15 = .ok (.goto 4, 3) := by decide +kernel
theorem dJx35411_hasNext_aae02_18 : decode cJx35411_hasNext_aae02 18 = .ok (.iconst 0, 1) := by decide +kernel
theorem dJx35411_hasNext_aae02_19 : decode cJx35411_hasNext_aae02 19 = .ok (.ireturn, 1) := by decide +kernel
theorem dJx4a65c_init_da8c8_0 : decode cJx4a65c_init_da8c8 0 = .ok (.aload_n 0, 1) := by decide +kernel
theorem dJx4a65c_init_da8c8_1 : decode cJx4a65c_init_da8c8 1 = .ok (.invokespecial 1, 3) := by decide +kernel
theorem dJx4a65c_init_da8c8_4 : decode cJx4a65c_init_da8c8 4 = .ok (.aload_n 0, 1) := by decide +kernel
theorem dJx4a65c_init_da8c8_5 : decode cJx4a65c_init_da8c8 5 = .ok (.getstatic 39, 3) := by decide +kernel
theorem dJx4a65c_init_da8c8_8 : decode cJx4a65c_init_da8c8 8 = .ok (.putfield 9, 3) := by decide +kernel
theorem dJx4a65c_init_da8c8_11 : decode cJx4a65c_init_da8c8 11 = .ok (.return_, 1) := by decide +kernel
theorem dJx4a65c_grow_92f84_0 : decode cJx4a65c_grow_92f84 0 = .ok (.aload_n 0, 1) := by decide +kernel
theorem dJx4a65c_grow_92f84_1 : decode cJx4a65c_grow_92f84 1 = .ok (.getfield 9, 3) := by decide +kernel
theorem dJx4a65c_grow_92f84_4 : decode cJx4a65c_grow_92f84 4 = .ok (.arraylength, 1) := by decide +kernel
theorem dJx4a65c_grow_92f84_5 : decode cJx4a65c_grow_92f84 5 = .ok (.istore_n 2, 1) := by decide +kernel
theorem dJx4a65c_grow_92f84_6 : decode cJx4a65c_grow_92f84 6 = .ok (.iload_n 2, 1) := by decide +kernel
theorem dJx4a65c_grow_92f84_7 : decode cJx4a65c_grow_92f84 7 = .ok (.ifCond .gt 13, 3) := by decide +kernel
theorem dJx4a65c_grow_92f84_10 : decode cJx4a65c_grow_92f84 10 = .ok (.aload_n 0, 1) := by decide +kernel
theorem dJx4a65c_grow_92f84_11 : decode cJx4a65c_grow_92f84 11 = .ok (.getfield 9, 3) := by decide +kernel
theorem dJx4a65c_grow_92f84_14 : decode cJx4a65c_grow_92f84 14 = .ok (.getstatic 39, 3) := by decide +kernel
theorem dJx4a65c_grow_92f84_17 : decode cJx4a65c_grow_92f84 17 = .ok (.if_acmp .eq 28, 3) := by decide +kernel
theorem dJx4a65c_grow_92f84_20 : decode cJx4a65c_grow_92f84 20 = .ok (.iload_n 2, 1) := by decide +kernel
theorem dJx4a65c_grow_92f84_21 : decode cJx4a65c_grow_92f84 21 = .ok (.iload_n 1, 1) := by decide +kernel
theorem dJx4a65c_grow_92f84_22 : decode cJx4a65c_grow_92f84 22 = .ok (.iload_n 2, 1) := by decide +kernel
theorem dJx4a65c_grow_92f84_23 : decode cJx4a65c_grow_92f84 23 = .ok (.isub, 1) := by decide +kernel
theorem dJx4a65c_grow_92f84_24 : decode cJx4a65c_grow_92f84 24 = .ok (.iload_n 2, 1) := by decide +kernel
theorem dJx4a65c_grow_92f84_25 : decode cJx4a65c_grow_92f84 25 = .ok (.iconst 1, 1) := by decide +kernel
theorem dJx4a65c_grow_92f84_26 : decode cJx4a65c_grow_92f84 26 = .ok (.ishr, 1) := by decide +kernel
theorem dJx4a65c_grow_92f84_27 : decode cJx4a65c_grow_92f84 27 = .ok (.invokestatic 73, 3) := by decide +kernel
theorem dJx4a65c_grow_92f84_30 : decode cJx4a65c_grow_92f84 30 = .ok (.istore_n 3, 1) := by decide +kernel
theorem dJx4a65c_grow_92f84_31 : decode cJx4a65c_grow_92f84 31 = .ok (.aload_n 0, 1) := by decide +kernel
theorem dJx4a65c_grow_92f84_32 : decode cJx4a65c_grow_92f84 32 = .ok (.aload_n 0, 1) := by decide +kernel
theorem dJx4a65c_grow_92f84_33 : decode cJx4a65c_grow_92f84 33 = .ok (.getfield 9, 3) := by decide +kernel
theorem dJx4a65c_grow_92f84_36 : decode cJx4a65c_grow_92f84 36 = .ok (.iload_n 3, 1) := by decide +kernel
theorem dJx4a65c_grow_92f84_37 : decode cJx4a65c_grow_92f84 37 = .ok (.invokestatic 66, 3) := by decide +kernel
theorem dJx4a65c_grow_92f84_40 : decode cJx4a65c_grow_92f84 40 = .ok (.dup_x1, 1) := by decide +kernel
theorem dJx4a65c_grow_92f84_41 : decode cJx4a65c_grow_92f84 41 = .ok (.putfield 9, 3) := by decide +kernel
theorem dJx4a65c_grow_92f84_44 : decode cJx4a65c_grow_92f84 44 = .ok (.areturn, 1) := by decide +kernel
theorem dJx4a65c_grow_92f84_45 : decode cJx4a65c_grow_92f84 45 = .ok (.aload_n 0, 1) := by decide +kernel
theorem dJx4a65c_grow_92f84_46 : decode cJx4a65c_grow_92f84 46 = .ok (.bipush 10, 2) := by decide +kernel
theorem dJx4a65c_grow_92f84_48 : decode cJx4a65c_grow_92f84 48 = .ok (.iload_n 1, 1) := by decide +kernel
theorem dJx4a65c_grow_92f84_49 : decode cJx4a65c_grow_92f84 49 = .ok (.invokestatic 79, 3) := by decide +kernel
theorem dJx4a65c_grow_92f84_52 : decode cJx4a65c_grow_92f84 52 = .ok (.anewarray 7, 3) := by decide +kernel
theorem dJx4a65c_grow_92f84_55 : decode cJx4a65c_grow_92f84 55 = .ok (.dup_x1, 1) := by decide +kernel
theorem dJx4a65c_grow_92f84_56 : decode cJx4a65c_grow_92f84 56 = .ok (.putfield 9, 3) := by decide +kernel
theorem dJx4a65c_grow_92f84_59 : decode cJx4a65c_grow_92f84 59 = .ok (.areturn, 1) := by decide +kernel
theorem dJx4a65c_grow_d5877_0 : decode cJx4a65c_grow_d5877 0 = .ok (.aload_n 0, 1) := by decide +kernel
theorem dJx4a65c_grow_d5877_1 : decode cJx4a65c_grow_d5877 1 = .ok (.aload_n 0, 1) := by decide +kernel
theorem dJx4a65c_grow_d5877_2 : decode cJx4a65c_grow_d5877 2 = .ok (.getfield 48, 3) := by decide +kernel
theorem dJx4a65c_grow_d5877_5 : decode cJx4a65c_grow_d5877 5 = .ok (.iconst 1, 1) := by decide +kernel
theorem dJx4a65c_grow_d5877_6 : decode cJx4a65c_grow_d5877 6 = .ok (.iadd, 1) := by decide +kernel
theorem dJx4a65c_grow_d5877_7 : decode cJx4a65c_grow_d5877 7 = .ok (.invokevirtual 69, 3) := by decide +kernel
theorem dJx4a65c_grow_d5877_10 : decode cJx4a65c_grow_d5877 10 = .ok (.areturn, 1) := by decide +kernel
theorem dJx4a65c_size_8abf5_0 : decode cJx4a65c_size_8abf5 0 = .ok (.aload_n 0, 1) := by decide +kernel
theorem dJx4a65c_size_8abf5_1 : decode cJx4a65c_size_8abf5 1 = .ok (.getfield 48, 3) := by decide +kernel
theorem dJx4a65c_size_8abf5_4 : decode cJx4a65c_size_8abf5 4 = .ok (.ireturn, 1) := by decide +kernel
theorem dJx4a65c_add_72be8_0 : decode cJx4a65c_add_72be8 0 = .ok (.iload_n 3, 1) := by decide +kernel
theorem dJx4a65c_add_72be8_1 : decode cJx4a65c_add_72be8 1 = .ok (.aload_n 2, 1) := by decide +kernel
theorem dJx4a65c_add_72be8_2 : decode cJx4a65c_add_72be8 2 = .ok (.arraylength, 1) := by decide +kernel
theorem dJx4a65c_add_72be8_3 : decode cJx4a65c_add_72be8 3 = .ok (.if_icmp .ne 8, 3) := by decide +kernel
theorem dJx4a65c_add_72be8_6 : decode cJx4a65c_add_72be8 6 = .ok (.aload_n 0, 1) := by decide +kernel
theorem dJx4a65c_add_72be8_7 : decode cJx4a65c_add_72be8 7 = .ok (.invokevirtual 129, 3) := by decide +kernel
theorem dJx4a65c_add_72be8_10 : decode cJx4a65c_add_72be8 10 = .ok (.astore_n 2, 1) := by decide +kernel
theorem dJx4a65c_add_72be8_11 : decode cJx4a65c_add_72be8 11 = .ok (.aload_n 2, 1) := by decide +kernel
theorem dJx4a65c_add_72be8_12 : decode cJx4a65c_add_72be8 12 = .ok (.iload_n 3, 1) := by decide +kernel
theorem dJx4a65c_add_72be8_13 : decode cJx4a65c_add_72be8 13 = .ok (.aload_n 1, 1) := by decide +kernel
theorem dJx4a65c_add_72be8_14 : decode cJx4a65c_add_72be8 14 = .ok (.aastore, 1) := by decide +kernel
theorem dJx4a65c_add_72be8_15 : decode cJx4a65c_add_72be8 15 = .ok (.aload_n 0, 1) := by decide +kernel
theorem dJx4a65c_add_72be8_16 : decode cJx4a65c_add_72be8 16 = .ok (.iload_n 3, 1) := by decide +kernel
theorem dJx4a65c_add_72be8_17 : decode cJx4a65c_add_72be8 17 = .ok (.iconst 1, 1) := by decide +kernel
theorem dJx4a65c_add_72be8_18 : decode cJx4a65c_add_72be8 18 = .ok (.iadd, 1) := by decide +kernel
theorem dJx4a65c_add_72be8_19 : decode cJx4a65c_add_72be8 19 = .ok (.putfield 48, 3) := by decide +kernel
theorem dJx4a65c_add_72be8_22 : decode cJx4a65c_add_72be8 22 = .ok (.return_, 1) := by decide +kernel
theorem dJx4a65c_add_9ea2d_0 : decode cJx4a65c_add_9ea2d 0 = .ok (.aload_n 0, 1) := by decide +kernel
theorem dJx4a65c_add_9ea2d_1 : decode cJx4a65c_add_9ea2d 1 = .ok (.dup, 1) := by decide +kernel
theorem dJx4a65c_add_9ea2d_2 : decode cJx4a65c_add_9ea2d 2 = .ok (.getfield 63, 3) := by decide +kernel
theorem dJx4a65c_add_9ea2d_5 : decode cJx4a65c_add_9ea2d 5 = .ok (.iconst 1, 1) := by decide +kernel
theorem dJx4a65c_add_9ea2d_6 : decode cJx4a65c_add_9ea2d 6 = .ok (.iadd, 1) := by decide +kernel
theorem dJx4a65c_add_9ea2d_7 : decode cJx4a65c_add_9ea2d 7 = .ok (.putfield 63, 3) := by decide +kernel
theorem dJx4a65c_add_9ea2d_10 : decode cJx4a65c_add_9ea2d 10 = .ok (.aload_n 0, 1) := by decide +kernel
theorem dJx4a65c_add_9ea2d_11 : decode cJx4a65c_add_9ea2d 11 = .ok (.aload_n 1, 1) := by decide +kernel
theorem dJx4a65c_add_9ea2d_12 : decode cJx4a65c_add_9ea2d 12 = .ok (.aload_n 0, 1) := by decide +kernel
theorem dJx4a65c_add_9ea2d_13 : decode cJx4a65c_add_9ea2d 13 = .ok (.getfield 9, 3) := by decide +kernel
theorem dJx4a65c_add_9ea2d_16 : decode cJx4a65c_add_9ea2d 16 = .ok (.aload_n 0, 1) := by decide +kernel
theorem dJx4a65c_add_9ea2d_17 : decode cJx4a65c_add_9ea2d 17 = .ok (.getfield 48, 3) := by decide +kernel
theorem dJx4a65c_add_9ea2d_20 : decode cJx4a65c_add_9ea2d 20 = .ok (.invokevirtual 131, 3) := by decide +kernel
theorem dJx4a65c_add_9ea2d_23 : decode cJx4a65c_add_9ea2d 23 = .ok (.iconst 1, 1) := by decide +kernel
theorem dJx4a65c_add_9ea2d_24 : decode cJx4a65c_add_9ea2d 24 = .ok (.ireturn, 1) := by decide +kernel
theorem dJx4a65c_iterator_32c93_0 : decode cJx4a65c_iterator_32c93 0 = .ok (.new 267, 3) := by decide +kernel
theorem dJx4a65c_iterator_32c93_3 : decode cJx4a65c_iterator_32c93 3 = .ok (.dup, 1) := by decide +kernel
theorem dJx4a65c_iterator_32c93_4 : decode cJx4a65c_iterator_32c93 4 = .ok (.aload_n 0, 1) := by decide +kernel
theorem dJx4a65c_iterator_32c93_5 : decode cJx4a65c_iterator_32c93 5 = .ok (.invokespecial 269, 3) := by decide +kernel
theorem dJx4a65c_iterator_32c93_8 : decode cJx4a65c_iterator_32c93 8 = .ok (.areturn, 1) := by decide +kernel
