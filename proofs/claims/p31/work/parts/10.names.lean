def RX0 : String := "SlackHall$Analysis"
def TX0 : u_T := fun k => match k with
  | 0 => ("SlackHall$Analysis", "chip", "LSlackHall$Chip;", true)
  | 1 => ("SlackHall$Analysis", "paths", "LSlackHall$Paths;", true)
  | 2 => ("SlackHall$Analysis", "delays", "LSlackHall$Delays;", true)
  | 3 => ("SlackHall$Analysis", "lates", "[LSlackHall$Timing;", true)
  | 4 => ("SlackHall$Analysis", "earlies", "[LSlackHall$Timing;", true)
  | 5 => ("SlackHall$Analysis", "trialDelays", "LSlackHall$Delays;", true)
  | _ => ("SlackHall$Analysis", "trial", "LSlackHall$Timing;", true)
def tyX0 : Nat → FieldType := fun k => match k with
  | 0 => .object "SlackHall$Chip"
  | 1 => .object "SlackHall$Paths"
  | 2 => .object "SlackHall$Delays"
  | 3 => .array (.object "SlackHall$Timing")
  | 4 => .array (.object "SlackHall$Timing")
  | 5 => .object "SlackHall$Delays"
  | _ => .object "SlackHall$Timing"
abbrev wsX00 : List Cond := u_ws RX0 TX0 7
theorem nmX0 : ∀ a, a < 7 → ∀ b, b < 7 → a ≠ b → (TX0 a).2.1 ≠ (TX0 b).2.1 := by decide +kernel
theorem tyX0_ok : ∀ k, k < 7 → parseFieldDescriptor (TX0 k).2.2.1 = some (tyX0 k) := by decide +kernel
def RX1 : String := "SlackHall$Chip"
def TX1 : u_T := fun k => match k with
  | 0 => ("SlackHall$Chip", "clocks", "[LSlackHall$Clock;", true)
  | 1 => ("SlackHall$Chip", "corners", "[LSlackHall$Corner;", true)
  | 2 => ("SlackHall$Chip", "nodes", "[LSlackHall$Node;", true)
  | 3 => ("SlackHall$Chip", "rules", "[LSlackHall$Rule;", true)
  | 4 => ("SlackHall$Chip", "clockCount", "I", false)
  | 5 => ("SlackHall$Chip", "cornerCount", "I", false)
  | 6 => ("SlackHall$Chip", "nodeCount", "I", false)
  | _ => ("SlackHall$Chip", "ruleCount", "I", false)
def tyX1 : Nat → FieldType := fun k => match k with
  | 0 => .array (.object "SlackHall$Clock")
  | 1 => .array (.object "SlackHall$Corner")
  | 2 => .array (.object "SlackHall$Node")
  | 3 => .array (.object "SlackHall$Rule")
  | 4 => .int
  | 5 => .int
  | 6 => .int
  | _ => .int
abbrev wsX10 : List Cond := u_ws RX1 TX1 8
theorem nmX1 : ∀ a, a < 8 → ∀ b, b < 8 → a ≠ b → (TX1 a).2.1 ≠ (TX1 b).2.1 := by decide +kernel
theorem tyX1_ok : ∀ k, k < 8 → parseFieldDescriptor (TX1 k).2.2.1 = some (tyX1 k) := by decide +kernel
def RX2 : String := "SlackHall$Clock"
def TX2 : u_T := fun k => match k with
  | 0 => ("SlackHall$Clock", "period", "I", false)
  | 1 => ("SlackHall$Clock", "latency", "I", false)
  | 2 => ("SlackHall$Clock", "unsure", "I", false)
  | 3 => ("SlackHall$Clock", "group", "I", false)
  | _ => ("SlackHall$Clock", "root", "I", false)
def tyX2 : Nat → FieldType := fun k => match k with
  | 0 => .int
  | 1 => .int
  | 2 => .int
  | 3 => .int
  | _ => .int
abbrev wsX20 : List Cond := u_ws RX2 TX2 5
theorem nmX2 : ∀ a, a < 5 → ∀ b, b < 5 → a ≠ b → (TX2 a).2.1 ≠ (TX2 b).2.1 := by decide +kernel
theorem tyX2_ok : ∀ k, k < 5 → parseFieldDescriptor (TX2 k).2.2.1 = some (tyX2 k) := by decide +kernel
def RX3 : String := "SlackHall$Corner"
def TX3 : u_T := fun k => match k with
  | 0 => ("SlackHall$Corner", "late", "D", false)
  | _ => ("SlackHall$Corner", "early", "D", false)
def tyX3 : Nat → FieldType := fun k => match k with
  | 0 => .double
  | _ => .double
abbrev wsX30 : List Cond := u_ws RX3 TX3 2
theorem nmX3 : ∀ a, a < 2 → ∀ b, b < 2 → a ≠ b → (TX3 a).2.1 ≠ (TX3 b).2.1 := by decide +kernel
theorem tyX3_ok : ∀ k, k < 2 → parseFieldDescriptor (TX3 k).2.2.1 = some (tyX3 k) := by decide +kernel
def RX4 : String := "SlackHall$Delays"
def TX4 : u_T := fun k => match k with
  | 0 => ("SlackHall$Delays", "chip", "LSlackHall$Chip;", true)
  | 1 => ("SlackHall$Delays", "loads", "[F", true)
  | 2 => ("SlackHall$Delays", "rises", "[D", true)
  | _ => ("SlackHall$Delays", "isFresh", "Z", false)
def tyX4 : Nat → FieldType := fun k => match k with
  | 0 => .object "SlackHall$Chip"
  | 1 => .array .float
  | 2 => .array .double
  | _ => .boolean
abbrev wsX40 : List Cond := u_ws RX4 TX4 4
theorem nmX4 : ∀ a, a < 4 → ∀ b, b < 4 → a ≠ b → (TX4 a).2.1 ≠ (TX4 b).2.1 := by decide +kernel
theorem tyX4_ok : ∀ k, k < 4 → parseFieldDescriptor (TX4 k).2.2.1 = some (tyX4 k) := by decide +kernel
def RX5 : String := "SlackHall$Node"
def TX5 : u_T := fun k => match k with
  | 0 => ("SlackHall$Node", "kind", "I", false)
  | 1 => ("SlackHall$Node", "one", "I", false)
  | 2 => ("SlackHall$Node", "other", "I", false)
  | 3 => ("SlackHall$Node", "clock", "I", false)
  | 4 => ("SlackHall$Node", "driver", "LSlackHall$Clock;", false)
  | 5 => ("SlackHall$Node", "size", "I", false)
  | 6 => ("SlackHall$Node", "wire", "F", false)
  | _ => ("SlackHall$Node", "skew", "I", false)
def tyX5 : Nat → FieldType := fun k => match k with
  | 0 => .int
  | 1 => .int
  | 2 => .int
  | 3 => .int
  | 4 => .object "SlackHall$Clock"
  | 5 => .int
  | 6 => .float
  | _ => .int
abbrev wsX50 : List Cond := u_ws RX5 TX5 8
theorem nmX5 : ∀ a, a < 8 → ∀ b, b < 8 → a ≠ b → (TX5 a).2.1 ≠ (TX5 b).2.1 := by decide +kernel
theorem tyX5_ok : ∀ k, k < 8 → parseFieldDescriptor (TX5 k).2.2.1 = some (tyX5 k) := by decide +kernel
def RX6 : String := "SlackHall$Paths"
def TX6 : u_T := fun k => match k with
  | 0 => ("SlackHall$Paths", "chip", "LSlackHall$Chip;", true)
  | 1 => ("SlackHall$Paths", "reach", "[I", true)
  | 2 => ("SlackHall$Paths", "checked", "[I", true)
  | 3 => ("SlackHall$Paths", "counts", "[I", true)
  | 4 => ("SlackHall$Paths", "gaps", "[I", true)
  | _ => ("SlackHall$Paths", "isFresh", "Z", false)
def tyX6 : Nat → FieldType := fun k => match k with
  | 0 => .object "SlackHall$Chip"
  | 1 => .array .int
  | 2 => .array .int
  | 3 => .array .int
  | 4 => .array .int
  | _ => .boolean
abbrev wsX60 : List Cond := u_ws RX6 TX6 6
theorem nmX6 : ∀ a, a < 6 → ∀ b, b < 6 → a ≠ b → (TX6 a).2.1 ≠ (TX6 b).2.1 := by decide +kernel
theorem tyX6_ok : ∀ k, k < 6 → parseFieldDescriptor (TX6 k).2.2.1 = some (tyX6 k) := by decide +kernel
def RX7 : String := "SlackHall$Rule"
def TX7 : u_T := fun k => match k with
  | 0 => ("SlackHall$Rule", "sort", "I", false)
  | 1 => ("SlackHall$Rule", "from", "I", false)
  | _ => ("SlackHall$Rule", "to", "I", false)
def tyX7 : Nat → FieldType := fun k => match k with
  | 0 => .int
  | 1 => .int
  | _ => .int
abbrev wsX70 : List Cond := u_ws RX7 TX7 3
theorem nmX7 : ∀ a, a < 3 → ∀ b, b < 3 → a ≠ b → (TX7 a).2.1 ≠ (TX7 b).2.1 := by decide +kernel
theorem tyX7_ok : ∀ k, k < 3 → parseFieldDescriptor (TX7 k).2.2.1 = some (tyX7 k) := by decide +kernel
def RX8 : String := "SlackHall$Timing"
def TX8 : u_T := fun k => match k with
  | 0 => ("SlackHall$Timing", "chip", "LSlackHall$Chip;", true)
  | 1 => ("SlackHall$Timing", "paths", "LSlackHall$Paths;", true)
  | 2 => ("SlackHall$Timing", "delays", "LSlackHall$Delays;", true)
  | 3 => ("SlackHall$Timing", "isLate", "Z", true)
  | 4 => ("SlackHall$Timing", "arrivals", "[D", true)
  | 5 => ("SlackHall$Timing", "lefts", "[D", true)
  | 6 => ("SlackHall$Timing", "leasts", "[D", true)
  | 7 => ("SlackHall$Timing", "borrows", "[D", true)
  | _ => ("SlackHall$Timing", "isFresh", "Z", false)
def tyX8 : Nat → FieldType := fun k => match k with
  | 0 => .object "SlackHall$Chip"
  | 1 => .object "SlackHall$Paths"
  | 2 => .object "SlackHall$Delays"
  | 3 => .boolean
  | 4 => .array .double
  | 5 => .array .double
  | 6 => .array .double
  | 7 => .array .double
  | _ => .boolean
abbrev wsX80 : List Cond := u_ws RX8 TX8 9
theorem nmX8 : ∀ a, a < 9 → ∀ b, b < 9 → a ≠ b → (TX8 a).2.1 ≠ (TX8 b).2.1 := by decide +kernel
theorem tyX8_ok : ∀ k, k < 9 → parseFieldDescriptor (TX8 k).2.2.1 = some (tyX8 k) := by decide +kernel
def RX9 : String := "SlackHall"
def TX9 : u_T := fun k => match k with
  | 0 => ("SlackHall", "chip", "LSlackHall$Chip;", true)
  | 1 => ("SlackHall", "analysis", "LSlackHall$Analysis;", true)
  | 2 => ("SlackHall", "isSigned", "Z", false)
  | _ => ("SlackHall", "refusals", "I", false)
def tyX9 : Nat → FieldType := fun k => match k with
  | 0 => .object "SlackHall$Chip"
  | 1 => .object "SlackHall$Analysis"
  | 2 => .boolean
  | _ => .int
abbrev wsX90 : List Cond := u_ws RX9 TX9 4
theorem nmX9 : ∀ a, a < 4 → ∀ b, b < 4 → a ≠ b → (TX9 a).2.1 ≠ (TX9 b).2.1 := by decide +kernel
theorem tyX9_ok : ∀ k, k < 4 → parseFieldDescriptor (TX9 k).2.2.1 = some (tyX9 k) := by decide +kernel
def RL : String := "SlackHallLaw"
def RJ6 : String := "java/lang/Integer"
def RJ9 : String := "java/lang/Math"
abbrev cX0_init : ByteArray := prog_2_method_1_code
def yX0_init : MethodName := ⟨RX0, "<init>", "(LSlackHall$Chip;)V"⟩
abbrev cX0_forget : ByteArray := prog_2_method_2_code
def yX0_forget : MethodName := ⟨RX0, "forget", "()V"⟩
abbrev cX0_paths : ByteArray := prog_2_method_3_code
def yX0_paths : MethodName := ⟨RX0, "paths", "()LSlackHall$Paths;"⟩
abbrev cX0_delays : ByteArray := prog_2_method_4_code
def yX0_delays : MethodName := ⟨RX0, "delays", "()LSlackHall$Delays;"⟩
abbrev cX0_timing : ByteArray := prog_2_method_5_code
def yX0_timing : MethodName := ⟨RX0, "timing", "(IZ)LSlackHall$Timing;"⟩
abbrev cX0_leastOfAll : ByteArray := prog_2_method_6_code
def yX0_leastOfAll : MethodName := ⟨RX0, "leastOfAll", "(Z)D"⟩
abbrev cX0_endsInNeed : ByteArray := prog_2_method_7_code
def yX0_endsInNeed : MethodName := ⟨RX0, "endsInNeed", "(Z)I"⟩
abbrev cX0_leastWith : ByteArray := prog_2_method_8_code
def yX0_leastWith : MethodName := ⟨RX0, "leastWith", "(II)D"⟩
abbrev cX0_bestChange : ByteArray := prog_2_method_9_code
def yX0_bestChange : MethodName := ⟨RX0, "bestChange", "()I"⟩
abbrev cX1_init : ByteArray := prog_3_method_1_code
def yX1_init : MethodName := ⟨RX1, "<init>", "()V"⟩
abbrev cX1_hasClock : ByteArray := prog_3_method_2_code
def yX1_hasClock : MethodName := ⟨RX1, "hasClock", "(I)Z"⟩
abbrev cX1_hasCorner : ByteArray := prog_3_method_3_code
def yX1_hasCorner : MethodName := ⟨RX1, "hasCorner", "(I)Z"⟩
abbrev cX1_hasNode : ByteArray := prog_3_method_4_code
def yX1_hasNode : MethodName := ⟨RX1, "hasNode", "(I)Z"⟩
abbrev cX1_addClock : ByteArray := prog_3_method_5_code
def yX1_addClock : MethodName := ⟨RX1, "addClock", "(IIIII)I"⟩
abbrev cX1_addCorner : ByteArray := prog_3_method_6_code
def yX1_addCorner : MethodName := ⟨RX1, "addCorner", "(II)I"⟩
abbrev cX1_addNode : ByteArray := prog_3_method_7_code
def yX1_addNode : MethodName := ⟨RX1, "addNode", "(IIII)I"⟩
abbrev cX1_addRule : ByteArray := prog_3_method_8_code
def yX1_addRule : MethodName := ⟨RX1, "addRule", "(III)I"⟩
abbrev cX1_timesFeed : ByteArray := prog_3_method_9_code
def yX1_timesFeed : MethodName := ⟨RX1, "timesFeed", "(I)I"⟩
abbrev cX1_winnerOf : ByteArray := prog_3_method_10_code
def yX1_winnerOf : MethodName := ⟨RX1, "winnerOf", "(II)I"⟩
abbrev cX1_isOneGroup : ByteArray := prog_3_method_11_code
def yX1_isOneGroup : MethodName := ⟨RX1, "isOneGroup", "(II)Z"⟩
abbrev cX1_gapOf : ByteArray := prog_3_method_12_code
def yX1_gapOf : MethodName := ⟨RX1, "gapOf", "(III)I"⟩
abbrev cX1_greatestDivisor : ByteArray := prog_3_method_13_code
def yX1_greatestDivisor : MethodName := ⟨RX1, "greatestDivisor", "(II)I"⟩
abbrev cX2_init : ByteArray := prog_4_method_1_code
def yX2_init : MethodName := ⟨RX2, "<init>", "()V"⟩
abbrev cX2_tell : ByteArray := prog_4_method_2_code
def yX2_tell : MethodName := ⟨RX2, "tell", "(I)I"⟩
abbrev cX3_init : ByteArray := prog_5_method_1_code
def yX3_init : MethodName := ⟨RX3, "<init>", "()V"⟩
abbrev cX4_init : ByteArray := prog_6_method_1_code
def yX4_init : MethodName := ⟨RX4, "<init>", "(LSlackHall$Chip;)V"⟩
abbrev cX4_prepare : ByteArray := prog_6_method_2_code
def yX4_prepare : MethodName := ⟨RX4, "prepare", "()V"⟩
abbrev cX4_reckon : ByteArray := prog_6_method_3_code
def yX4_reckon : MethodName := ⟨RX4, "reckon", "()V"⟩
abbrev cX4_burden : ByteArray := prog_6_method_4_code
def yX4_burden : MethodName := ⟨RX4, "burden", "(IF)V"⟩
abbrev cX4_riseOf : ByteArray := prog_6_method_5_code
def yX4_riseOf : MethodName := ⟨RX4, "riseOf", "(LSlackHall$Node;D)D"⟩
abbrev cX4_unsized : ByteArray := prog_6_method_6_code
def yX4_unsized : MethodName := ⟨RX4, "unsized", "(D)D"⟩
abbrev cX4_ofEdge : ByteArray := prog_6_method_7_code
def yX4_ofEdge : MethodName := ⟨RX4, "ofEdge", "(II)D"⟩
abbrev cX5_init : ByteArray := prog_7_method_1_code
def yX5_init : MethodName := ⟨RX5, "<init>", "(LSlackHall$Clock;)V"⟩
abbrev cX5_isStart : ByteArray := prog_7_method_2_code
def yX5_isStart : MethodName := ⟨RX5, "isStart", "()Z"⟩
abbrev cX5_isEndKind : ByteArray := prog_7_method_3_code
def yX5_isEndKind : MethodName := ⟨RX5, "isEndKind", "()Z"⟩
abbrev cX5_isGate : ByteArray := prog_7_method_4_code
def yX5_isGate : MethodName := ⟨RX5, "isGate", "()Z"⟩
abbrev cX5_lag : ByteArray := prog_7_method_5_code
def yX5_lag : MethodName := ⟨RX5, "lag", "()D"⟩
abbrev cX5_makes : ByteArray := prog_7_method_6_code
def yX5_makes : MethodName := ⟨RX5, "makes", "(II)Z"⟩
abbrev cX5_tell : ByteArray := prog_7_method_7_code
def yX5_tell : MethodName := ⟨RX5, "tell", "(I)I"⟩
abbrev cX6_init : ByteArray := prog_8_method_1_code
def yX6_init : MethodName := ⟨RX6, "<init>", "(LSlackHall$Chip;)V"⟩
abbrev cX6_prepare : ByteArray := prog_8_method_2_code
def yX6_prepare : MethodName := ⟨RX6, "prepare", "()V"⟩
abbrev cX6_join : ByteArray := prog_8_method_3_code
def yX6_join : MethodName := ⟨RX6, "join", "(II)V"⟩
abbrev cX6_check : ByteArray := prog_8_method_4_code
def yX6_check : MethodName := ⟨RX6, "check", "(I)V"⟩
abbrev cX6_reaches : ByteArray := prog_8_method_5_code
def yX6_reaches : MethodName := ⟨RX6, "reaches", "(II)Z"⟩
abbrev cX6_comesTo : ByteArray := prog_8_method_6_code
def yX6_comesTo : MethodName := ⟨RX6, "comesTo", "(II)Z"⟩
abbrev cX6_isChecked : ByteArray := prog_8_method_7_code
def yX6_isChecked : MethodName := ⟨RX6, "isChecked", "(II)Z"⟩
abbrev cX6_hasCheck : ByteArray := prog_8_method_8_code
def yX6_hasCheck : MethodName := ⟨RX6, "hasCheck", "(I)Z"⟩
abbrev cX6_gapBetween : ByteArray := prog_8_method_9_code
def yX6_gapBetween : MethodName := ⟨RX6, "gapBetween", "(II)I"⟩
abbrev cX6_waysTo : ByteArray := prog_8_method_10_code
def yX6_waysTo : MethodName := ⟨RX6, "waysTo", "(II)I"⟩
abbrev cX6_checkedPairs : ByteArray := prog_8_method_11_code
def yX6_checkedPairs : MethodName := ⟨RX6, "checkedPairs", "()I"⟩
abbrev cX6_crossings : ByteArray := prog_8_method_12_code
def yX6_crossings : MethodName := ⟨RX6, "crossings", "(Z)I"⟩
abbrev cX6_isSafe : ByteArray := prog_8_method_13_code
def yX6_isSafe : MethodName := ⟨RX6, "isSafe", "(II)Z"⟩
abbrev cX7_init : ByteArray := prog_9_method_1_code
def yX7_init : MethodName := ⟨RX7, "<init>", "()V"⟩
abbrev cX7_fits : ByteArray := prog_9_method_2_code
def yX7_fits : MethodName := ⟨RX7, "fits", "(II)Z"⟩
abbrev cX7_weight : ByteArray := prog_9_method_3_code
def yX7_weight : MethodName := ⟨RX7, "weight", "()I"⟩
abbrev cX8_init : ByteArray := prog_10_method_1_code
def yX8_init : MethodName := ⟨RX8, "<init>", "(LSlackHall$Chip;LSlackHall$Paths;LSlackHall$Delays;Z)V"⟩
abbrev cX8_reckon : ByteArray := prog_10_method_2_code
def yX8_reckon : MethodName := ⟨RX8, "reckon", "(LSlackHall$Corner;)V"⟩
abbrev cX8_delayOf : ByteArray := prog_10_method_3_code
def yX8_delayOf : MethodName := ⟨RX8, "delayOf", "(IILSlackHall$Corner;)D"⟩
abbrev cX8_depart : ByteArray := prog_10_method_4_code
def yX8_depart : MethodName := ⟨RX8, "depart", "(ILSlackHall$Corner;)V"⟩
abbrev cX8_pass : ByteArray := prog_10_method_5_code
def yX8_pass : MethodName := ⟨RX8, "pass", "(ILSlackHall$Corner;)V"⟩
abbrev cX8_sourceOf : ByteArray := prog_10_method_6_code
def yX8_sourceOf : MethodName := ⟨RX8, "sourceOf", "(II)I"⟩
abbrev cX8_beats : ByteArray := prog_10_method_7_code
def yX8_beats : MethodName := ⟨RX8, "beats", "(III)Z"⟩
abbrev cX8_settle : ByteArray := prog_10_method_8_code
def yX8_settle : MethodName := ⟨RX8, "settle", "(ILSlackHall$Corner;)V"⟩
abbrev cX8_leftForLate : ByteArray := prog_10_method_9_code
def yX8_leftForLate : MethodName := ⟨RX8, "leftForLate", "(IILSlackHall$Corner;)D"⟩
abbrev cX8_leftForEarly : ByteArray := prog_10_method_10_code
def yX8_leftForEarly : MethodName := ⟨RX8, "leftForEarly", "(IILSlackHall$Corner;)D"⟩
abbrev cX8_credit : ByteArray := prog_10_method_11_code
def yX8_credit : MethodName := ⟨RX8, "credit", "(LSlackHall$Clock;LSlackHall$Clock;LSlackHall$Corner;)D"⟩
abbrev cX8_lend : ByteArray := prog_10_method_12_code
def yX8_lend : MethodName := ⟨RX8, "lend", "(I)V"⟩
abbrev cX8_arrivalOf : ByteArray := prog_10_method_13_code
def yX8_arrivalOf : MethodName := ⟨RX8, "arrivalOf", "(III)D"⟩
abbrev cX8_leftOf : ByteArray := prog_10_method_14_code
def yX8_leftOf : MethodName := ⟨RX8, "leftOf", "(II)D"⟩
abbrev cX8_leastAt : ByteArray := prog_10_method_15_code
def yX8_leastAt : MethodName := ⟨RX8, "leastAt", "(I)D"⟩
abbrev cX8_leastOfEnds : ByteArray := prog_10_method_16_code
def yX8_leastOfEnds : MethodName := ⟨RX8, "leastOfEnds", "()D"⟩
abbrev cX8_worstWay : ByteArray := prog_10_method_17_code
def yX8_worstWay : MethodName := ⟨RX8, "worstWay", "(II)I"⟩
abbrev cX8_worstStart : ByteArray := prog_10_method_18_code
def yX8_worstStart : MethodName := ⟨RX8, "worstStart", "(I)I"⟩
abbrev cX9_init : ByteArray := prog_1_method_1_code
def yX9_init : MethodName := ⟨RX9, "<init>", "()V"⟩
abbrev cX9_clock : ByteArray := prog_1_method_2_code
def yX9_clock : MethodName := ⟨RX9, "clock", "(IIII)I"⟩
abbrev cX9_divide : ByteArray := prog_1_method_3_code
def yX9_divide : MethodName := ⟨RX9, "divide", "(III)I"⟩
abbrev cX9_corner : ByteArray := prog_1_method_4_code
def yX9_corner : MethodName := ⟨RX9, "corner", "(II)I"⟩
abbrev cX9_node : ByteArray := prog_1_method_5_code
def yX9_node : MethodName := ⟨RX9, "node", "(IIII)I"⟩
abbrev cX9_feed : ByteArray := prog_1_method_6_code
def yX9_feed : MethodName := ⟨RX9, "feed", "(II)I"⟩
abbrev cX9_size : ByteArray := prog_1_method_7_code
def yX9_size : MethodName := ⟨RX9, "size", "(II)I"⟩
abbrev cX9_wire : ByteArray := prog_1_method_8_code
def yX9_wire : MethodName := ⟨RX9, "wire", "(II)I"⟩
abbrev cX9_skew : ByteArray := prog_1_method_9_code
def yX9_skew : MethodName := ⟨RX9, "skew", "(II)I"⟩
abbrev cX9_exception : ByteArray := prog_1_method_10_code
def yX9_exception : MethodName := ⟨RX9, "exception", "(III)I"⟩
abbrev cX9_ofClock : ByteArray := prog_1_method_13_code
def yX9_ofClock : MethodName := ⟨RX9, "ofClock", "(II)I"⟩
abbrev cX9_ofNode : ByteArray := prog_1_method_14_code
def yX9_ofNode : MethodName := ⟨RX9, "ofNode", "(II)I"⟩
abbrev cX9_load : ByteArray := prog_1_method_15_code
def yX9_load : MethodName := ⟨RX9, "load", "(I)D"⟩
abbrev cX9_takes : ByteArray := prog_1_method_16_code
def yX9_takes : MethodName := ⟨RX9, "takes", "(IZ)D"⟩
abbrev cX9_arrival : ByteArray := prog_1_method_17_code
def yX9_arrival : MethodName := ⟨RX9, "arrival", "(IIIZZ)D"⟩
abbrev cX9_left : ByteArray := prog_1_method_19_code
def yX9_left : MethodName := ⟨RX9, "left", "(IIIZ)D"⟩
abbrev cX9_leftAt : ByteArray := prog_1_method_20_code
def yX9_leftAt : MethodName := ⟨RX9, "leftAt", "(IIZ)D"⟩
abbrev cX9_borrow : ByteArray := prog_1_method_21_code
def yX9_borrow : MethodName := ⟨RX9, "borrow", "(II)D"⟩
abbrev cX9_ways : ByteArray := prog_1_method_22_code
def yX9_ways : MethodName := ⟨RX9, "ways", "(II)I"⟩
abbrev cX9_worst : ByteArray := prog_1_method_23_code
def yX9_worst : MethodName := ⟨RX9, "worst", "(II)I"⟩
abbrev cX9_many : ByteArray := prog_1_method_24_code
def yX9_many : MethodName := ⟨RX9, "many", "(I)I"⟩
abbrev cX9_least : ByteArray := prog_1_method_25_code
def yX9_least : MethodName := ⟨RX9, "least", "(Z)D"⟩
abbrev cX9_best : ByteArray := prog_1_method_27_code
def yX9_best : MethodName := ⟨RX9, "best", "()I"⟩
abbrev cX9_digest : ByteArray := prog_1_method_29_code
def yX9_digest : MethodName := ⟨RX9, "digest", "()J"⟩
abbrev cX9_digestNode : ByteArray := prog_1_method_30_code
def yX9_digestNode : MethodName := ⟨RX9, "digestNode", "(JI)J"⟩
abbrev cX9_mustBeOpen : ByteArray := prog_1_method_31_code
def yX9_mustBeOpen : MethodName := ⟨RX9, "mustBeOpen", "(Z)V"⟩
abbrev cX9_mustExist : ByteArray := prog_1_method_32_code
def yX9_mustExist : MethodName := ⟨RX9, "mustExist", "(Z)V"⟩
abbrev cX9_mustFit : ByteArray := prog_1_method_33_code
def yX9_mustFit : MethodName := ⟨RX9, "mustFit", "(Z)V"⟩
abbrev cX9_mustBePair : ByteArray := prog_1_method_34_code
def yX9_mustBePair : MethodName := ⟨RX9, "mustBePair", "(II)V"⟩
abbrev cX9_isIn : ByteArray := prog_1_method_35_code
def yX9_isIn : MethodName := ⟨RX9, "isIn", "(III)Z"⟩
abbrev cX9_isSize : ByteArray := prog_1_method_36_code
def yX9_isSize : MethodName := ⟨RX9, "isSize", "(I)Z"⟩
abbrev cX9_smaller : ByteArray := prog_1_method_37_code
def yX9_smaller : MethodName := ⟨RX9, "smaller", "(DD)D"⟩
abbrev cX9_greater : ByteArray := prog_1_method_38_code
def yX9_greater : MethodName := ⟨RX9, "greater", "(DD)D"⟩
abbrev cJ6_bitCount_0f7a4 : ByteArray := prog_19_method_49_code
def yJ6_bitCount_0f7a4 : MethodName := ⟨RJ6, "bitCount", "(I)I"⟩
abbrev cJ9_min_eb370 : ByteArray := prog_20_method_72_code
def yJ9_min_eb370 : MethodName := ⟨RJ9, "min", "(DD)D"⟩
abbrev cL_below : ByteArray := method_2_code
def yL_below : MethodName := ⟨RL, "below", "(II)I"⟩
abbrev cL_cell : ByteArray := method_3_code
def yL_cell : MethodName := ⟨RL, "cell", "([II)I"⟩
abbrev cL_chip : ByteArray := method_4_code
def yL_chip : MethodName := ⟨RL, "chip", "(LSlackHall;[IIII)[[I"⟩
abbrev cL_inner : ByteArray := method_5_code
def yL_inner : MethodName := ⟨RL, "inner", "([[III)I"⟩
abbrev cL_isStart : ByteArray := method_6_code
def yL_isStart : MethodName := ⟨RL, "isStart", "(I)Z"⟩
abbrev cL_law : ByteArray := code
def yL_law : MethodName := ⟨RL, "law", "([I)Z"⟩
abbrev cL_isSound : ByteArray := method_9_code
def yL_isSound : MethodName := ⟨RL, "isSound", "(LSlackHall;IIIZ)Z"⟩
theorem dX0_init_0 : decode cX0_init 0 = .ok (.aload_n 0, 1) := by decide +kernel
theorem dX0_init_1 : decode cX0_init 1 = .ok (.invokespecial 3, 3) := by decide +kernel
theorem dX0_init_4 : decode cX0_init 4 = .ok (.aload_n 0, 1) := by decide +kernel
theorem dX0_init_5 : decode cX0_init 5 = .ok (.iconst 3, 1) := by decide +kernel
theorem dX0_init_6 : decode cX0_init 6 = .ok (.anewarray 9, 3) := by decide +kernel
theorem dX0_init_9 : decode cX0_init 9 = .ok (.putfield 11, 3) := by decide +kernel
theorem dX0_init_12 : decode cX0_init 12 = .ok (.aload_n 0, 1) := by decide +kernel
theorem dX0_init_13 : decode cX0_init 13 = .ok (.iconst 3, 1) := by decide +kernel
theorem dX0_init_14 : decode cX0_init 14 = .ok (.anewarray 9, 3) := by decide +kernel
theorem dX0_init_17 : decode cX0_init 17 = .ok (.putfield 17, 3) := by decide +kernel
theorem dX0_init_20 : decode cX0_init 20 = .ok (.aload_n 0, 1) := by decide +kernel
theorem dX0_init_21 : decode cX0_init 21 = .ok (.aload_n 1, 1) := by decide +kernel
theorem dX0_init_22 : decode cX0_init 22 = .ok (.putfield 20, 3) := by decide +kernel
theorem dX0_init_25 : decode cX0_init 25 = .ok (.aload_n 0, 1) := by decide +kernel
theorem dX0_init_26 : decode cX0_init 26 = .ok (.new 24, 3) := by decide +kernel
theorem dX0_init_29 : decode cX0_init 29 = .ok (.dup, 1) := by decide +kernel
theorem dX0_init_30 : decode cX0_init 30 = .ok (.aload_n 1, 1) := by decide +kernel
theorem dX0_init_31 : decode cX0_init 31 = .ok (.invokespecial 26, 3) := by decide +kernel
theorem dX0_init_34 : decode cX0_init 34 = .ok (.putfield 29, 3) := by decide +kernel
theorem dX0_init_37 : decode cX0_init 37 = .ok (.aload_n 0, 1) := by decide +kernel
theorem dX0_init_38 : decode cX0_init 38 = .ok (.new 33, 3) := by decide +kernel
theorem dX0_init_41 : decode cX0_init 41 = .ok (.dup, 1) := by decide +kernel
theorem dX0_init_42 : decode cX0_init 42 = .ok (.aload_n 1, 1) := by decide +kernel
theorem dX0_init_43 : decode cX0_init 43 = .ok (.invokespecial 35, 3) := by decide +kernel
theorem dX0_init_46 : decode cX0_init 46 = .ok (.putfield 36, 3) := by decide +kernel
theorem dX0_init_49 : decode cX0_init 49 = .ok (.aload_n 0, 1) := by decide +kernel
theorem dX0_init_50 : decode cX0_init 50 = .ok (.new 33, 3) := by decide +kernel
theorem dX0_init_53 : decode cX0_init 53 = .ok (.dup, 1) := by decide +kernel
theorem dX0_init_54 : decode cX0_init 54 = .ok (.aload_n 1, 1) := by decide +kernel
theorem dX0_init_55 : decode cX0_init 55 = .ok (.invokespecial 35, 3) := by decide +kernel
theorem dX0_init_58 : decode cX0_init 58 = .ok (.putfield 40, 3) := by decide +kernel
theorem dX0_init_61 : decode cX0_init 61 = .ok (.aload_n 0, 1) := by decide +kernel
theorem dX0_init_62 : decode cX0_init 62 = .ok (.new 9, 3) := by decide +kernel
theorem dX0_init_65 : decode cX0_init 65 = .ok (.dup, 1) := by decide +kernel
theorem dX0_init_66 : decode cX0_init 66 = .ok (.aload_n 1, 1) := by decide +kernel
theorem dX0_init_67 : decode cX0_init 67 = .ok (.aload_n 0, 1) := by decide +kernel
theorem dX0_init_68 : decode cX0_init 68 = .ok (.getfield 29, 3) := by decide +kernel
theorem dX0_init_71 : decode cX0_init 71 = .ok (.aload_n 0, 1) := by decide +kernel
theorem dX0_init_72 : decode cX0_init 72 = .ok (.getfield 40, 3) := by decide +kernel
theorem dX0_init_75 : decode cX0_init 75 = .ok (.iconst 1, 1) := by decide +kernel
theorem dX0_init_76 : decode cX0_init 76 = .ok (.invokespecial 43, 3) := by decide +kernel
theorem dX0_init_79 : decode cX0_init 79 = .ok (.putfield 46, 3) := by decide +kernel
theorem dX0_init_82 : decode cX0_init 82 = .ok (.iconst 0, 1) := by decide +kernel
theorem dX0_init_83 : decode cX0_init 83 = .ok (.istore_n 2, 1) := by decide +kernel
theorem dX0_init_84 : decode cX0_init 84 = .ok (.iload_n 2, 1) := by decide +kernel
theorem dX0_init_85 : decode cX0_init 85 = .ok (.iconst 3, 1) := by decide +kernel
theorem dX0_init_86 : decode cX0_init 86 = .ok (.if_icmp .ge 55, 3) := by decide +kernel
theorem dX0_init_89 : decode cX0_init 89 = .ok (.aload_n 0, 1) := by decide +kernel
theorem dX0_init_90 : decode cX0_init 90 = .ok (.getfield 11, 3) := by decide +kernel
theorem dX0_init_93 : decode cX0_init 93 = .ok (.iload_n 2, 1) := by decide +kernel
theorem dX0_init_94 : decode cX0_init 94 = .ok (.new 9, 3) := by decide +kernel
theorem dX0_init_97 : decode cX0_init 97 = .ok (.dup, 1) := by decide +kernel
theorem dX0_init_98 : decode cX0_init 98 = .ok (.aload_n 1, 1) := by decide +kernel
theorem dX0_init_99 : decode cX0_init 99 = .ok (.aload_n 0, 1) := by decide +kernel
theorem dX0_init_100 : decode cX0_init 100 = .ok (.getfield 29, 3) := by decide +kernel
theorem dX0_init_103 : decode cX0_init 103 = .ok (.aload_n 0, 1) := by decide +kernel
theorem dX0_init_104 : decode cX0_init 104 = .ok (.getfield 36, 3) := by decide +kernel
theorem dX0_init_107 : decode cX0_init 107 = .ok (.iconst 1, 1) := by decide +kernel
theorem dX0_init_108 : decode cX0_init 108 = .ok (.invokespecial 43, 3) := by decide +kernel
theorem dX0_init_111 : decode cX0_init 111 = .ok (.aastore, 1) := by decide +kernel
theorem dX0_init_112 : decode cX0_init 112 = .ok (.aload_n 0, 1) := by decide +kernel
theorem dX0_init_113 : decode cX0_init 113 = .ok (.getfield 17, 3) := by decide +kernel
theorem dX0_init_116 : decode cX0_init 116 = .ok (.iload_n 2, 1) := by decide +kernel
theorem dX0_init_117 : decode cX0_init 117 = .ok (.new 9, 3) := by decide +kernel
theorem dX0_init_120 : decode cX0_init 120 = .ok (.dup, 1) := by decide +kernel
theorem dX0_init_121 : decode cX0_init 121 = .ok (.aload_n 1, 1) := by decide +kernel
theorem dX0_init_122 : decode cX0_init 122 = .ok (.aload_n 0, 1) := by decide +kernel
theorem dX0_init_123 : decode cX0_init 123 = .ok (.getfield 29, 3) := by decide +kernel
theorem dX0_init_126 : decode cX0_init 126 = .ok (.aload_n 0, 1) := by decide +kernel
theorem dX0_init_127 : decode cX0_init 127 = .ok (.getfield 36, 3) := by decide +kernel
theorem dX0_init_130 : decode cX0_init 130 = .ok (.iconst 0, 1) := by decide +kernel
theorem dX0_init_131 : decode cX0_init 131 = .ok (.invokespecial 43, 3) := by decide +kernel
theorem dX0_init_134 : decode cX0_init 134 = .ok (.aastore, 1) := by decide +kernel
theorem dX0_init_135 : decode cX0_init 135 = .ok (.iinc 2 1, 3) := by decide +kernel
theorem dX0_init_138 : decode cX0_init 138 = .ok (.goto (-54), 3) := by decide +kernel
theorem dX0_init_141 : decode cX0_init 141 = .ok (.return_, 1) := by decide +kernel
theorem dX0_forget_0 : decode cX0_forget 0 = .ok (.aload_n 0, 1) := by decide +kernel
theorem dX0_forget_1 : decode cX0_forget 1 = .ok (.getfield 29, 3) := by decide +kernel
theorem dX0_forget_4 : decode cX0_forget 4 = .ok (.iconst 0, 1) := by decide +kernel
theorem dX0_forget_5 : decode cX0_forget 5 = .ok (.putfield 50, 3) := by decide +kernel
theorem dX0_forget_8 : decode cX0_forget 8 = .ok (.aload_n 0, 1) := by decide +kernel
theorem dX0_forget_9 : decode cX0_forget 9 = .ok (.getfield 36, 3) := by decide +kernel
theorem dX0_forget_12 : decode cX0_forget 12 = .ok (.iconst 0, 1) := by decide +kernel
theorem dX0_forget_13 : decode cX0_forget 13 = .ok (.putfield 54, 3) := by decide +kernel
theorem dX0_forget_16 : decode cX0_forget 16 = .ok (.iconst 0, 1) := by decide +kernel
theorem dX0_forget_17 : decode cX0_forget 17 = .ok (.istore_n 1, 1) := by decide +kernel
theorem dX0_forget_18 : decode cX0_forget 18 = .ok (.iload_n 1, 1) := by decide +kernel
theorem dX0_forget_19 : decode cX0_forget 19 = .ok (.iconst 3, 1) := by decide +kernel
theorem dX0_forget_20 : decode cX0_forget 20 = .ok (.if_icmp .ge 29, 3) := by decide +kernel
theorem dX0_forget_23 : decode cX0_forget 23 = .ok (.aload_n 0, 1) := by decide +kernel
theorem dX0_forget_24 : decode cX0_forget 24 = .ok (.getfield 11, 3) := by decide +kernel
theorem dX0_forget_27 : decode cX0_forget 27 = .ok (.iload_n 1, 1) := by decide +kernel
theorem dX0_forget_28 : decode cX0_forget 28 = .ok (.aaload, 1) := by decide +kernel
theorem dX0_forget_29 : decode cX0_forget 29 = .ok (.iconst 0, 1) := by decide +kernel
theorem dX0_forget_30 : decode cX0_forget 30 = .ok (.putfield 55, 3) := by decide +kernel
theorem dX0_forget_33 : decode cX0_forget 33 = .ok (.aload_n 0, 1) := by decide +kernel
theorem dX0_forget_34 : decode cX0_forget 34 = .ok (.getfield 17, 3) := by decide +kernel
theorem dX0_forget_37 : decode cX0_forget 37 = .ok (.iload_n 1, 1) := by decide +kernel
theorem dX0_forget_38 : decode cX0_forget 38 = .ok (.aaload, 1) := by decide +kernel
theorem dX0_forget_39 : decode cX0_forget 39 = .ok (.iconst 0, 1) := by decide +kernel
theorem dX0_forget_40 : decode cX0_forget 40 = .ok (.putfield 55, 3) := by decide +kernel
theorem dX0_forget_43 : decode cX0_forget 43 = .ok (.iinc 1 1, 3) := by decide +kernel
theorem dX0_forget_46 : decode cX0_forget 46 = .ok (.goto (-28), 3) := by decide +kernel
theorem dX0_forget_49 : decode cX0_forget 49 = .ok (.return_, 1) := by decide +kernel
theorem dX0_paths_0 : decode cX0_paths 0 = .ok (.aload_n 0, 1) := by decide +kernel
theorem dX0_paths_1 : decode cX0_paths 1 = .ok (.getfield 29, 3) := by decide +kernel
theorem dX0_paths_4 : decode cX0_paths 4 = .ok (.invokevirtual 56, 3) := by decide +kernel
theorem dX0_paths_7 : decode cX0_paths 7 = .ok (.aload_n 0, 1) := by decide +kernel
theorem dX0_paths_8 : decode cX0_paths 8 = .ok (.getfield 29, 3) := by decide +kernel
theorem dX0_paths_11 : decode cX0_paths 11 = .ok (.areturn, 1) := by decide +kernel
theorem dX0_delays_0 : decode cX0_delays 0 = .ok (.aload_n 0, 1) := by decide +kernel
theorem dX0_delays_1 : decode cX0_delays 1 = .ok (.getfield 36, 3) := by decide +kernel
theorem dX0_delays_4 : decode cX0_delays 4 = .ok (.invokevirtual 59, 3) := by decide +kernel
theorem dX0_delays_7 : decode cX0_delays 7 = .ok (.aload_n 0, 1) := by decide +kernel
theorem dX0_delays_8 : decode cX0_delays 8 = .ok (.getfield 36, 3) := by decide +kernel
theorem dX0_delays_11 : decode cX0_delays 11 = .ok (.areturn, 1) := by decide +kernel
theorem dX0_timing_0 : decode cX0_timing 0 = .ok (.aload_n 0, 1) := by decide +kernel
theorem dX0_timing_1 : decode cX0_timing 1 = .ok (.getfield 29, 3) := by decide +kernel
theorem dX0_timing_4 : decode cX0_timing 4 = .ok (.invokevirtual 56, 3) := by decide +kernel
theorem dX0_timing_7 : decode cX0_timing 7 = .ok (.aload_n 0, 1) := by decide +kernel
theorem dX0_timing_8 : decode cX0_timing 8 = .ok (.getfield 36, 3) := by decide +kernel
theorem dX0_timing_11 : decode cX0_timing 11 = .ok (.invokevirtual 59, 3) := by decide +kernel
theorem dX0_timing_14 : decode cX0_timing 14 = .ok (.iload_n 2, 1) := by decide +kernel
theorem dX0_timing_15 : decode cX0_timing 15 = .ok (.ifCond .eq 12, 3) := by decide +kernel
theorem dX0_timing_18 : decode cX0_timing 18 = .ok (.aload_n 0, 1) := by decide +kernel
theorem dX0_timing_19 : decode cX0_timing 19 = .ok (.getfield 11, 3) := by decide +kernel
theorem dX0_timing_22 : decode cX0_timing 22 = .ok (.iload_n 1, 1) := by decide +kernel
theorem dX0_timing_23 : decode cX0_timing 23 = .ok (.aaload, 1) := by decide +kernel
theorem dX0_timing_24 : decode cX0_timing 24 = .ok (.goto 9, 3) := by decide +kernel
theorem dX0_timing_27 : decode cX0_timing 27 = .ok (.aload_n 0, 1) := by decide +kernel
theorem dX0_timing_28 : decode cX0_timing 28 = .ok (.getfield 17, 3) := by decide +kernel
theorem dX0_timing_31 : decode cX0_timing 31 = .ok (.iload_n 1, 1) := by decide +kernel
theorem dX0_timing_32 : decode cX0_timing 32 = .ok (.aaload, 1) := by decide +kernel
theorem dX0_timing_33 : decode cX0_timing 33 = .ok (.astore_n 3, 1) := by decide +kernel
theorem dX0_timing_34 : decode cX0_timing 34 = .ok (.aload_n 3, 1) := by decide +kernel
theorem dX0_timing_35 : decode cX0_timing 35 = .ok (.getfield 55, 3) := by decide +kernel
theorem dX0_timing_38 : decode cX0_timing 38 = .ok (.ifCond .ne 16, 3) := by decide +kernel
theorem dX0_timing_41 : decode cX0_timing 41 = .ok (.aload_n 3, 1) := by decide +kernel
theorem dX0_timing_42 : decode cX0_timing 42 = .ok (.aload_n 0, 1) := by decide +kernel
theorem dX0_timing_43 : decode cX0_timing 43 = .ok (.getfield 20, 3) := by decide +kernel
theorem dX0_timing_46 : decode cX0_timing 46 = .ok (.getfield 60, 3) := by decide +kernel
theorem dX0_timing_49 : decode cX0_timing 49 = .ok (.iload_n 1, 1) := by decide +kernel
theorem dX0_timing_50 : decode cX0_timing 50 = .ok (.aaload, 1) := by decide +kernel
theorem dX0_timing_51 : decode cX0_timing 51 = .ok (.invokevirtual 66, 3) := by decide +kernel
theorem dX0_timing_54 : decode cX0_timing 54 = .ok (.aload_n 3, 1) := by decide +kernel
theorem dX0_timing_55 : decode cX0_timing 55 = .ok (.areturn, 1) := by decide +kernel
theorem dX0_leastOfAll_0 : decode cX0_leastOfAll 0 = .ok (.ldc2_w 70, 3) := by decide +kernel
theorem dX0_leastOfAll_3 : decode cX0_leastOfAll 3 = .ok (.dstore_n 2, 1) := by decide +kernel
theorem dX0_leastOfAll_4 : decode cX0_leastOfAll 4 = .ok (.iconst 0, 1) := by decide +kernel
theorem dX0_leastOfAll_5 : decode cX0_leastOfAll 5 = .ok (.istore 4, 2) := by decide +kernel
theorem dX0_leastOfAll_7 : decode cX0_leastOfAll 7 = .ok (.iload 4, 2) := by decide +kernel
theorem dX0_leastOfAll_9 : decode cX0_leastOfAll 9 = .ok (.aload_n 0, 1) := by decide +kernel
theorem dX0_leastOfAll_10 : decode cX0_leastOfAll 10 = .ok (.getfield 20, 3) := by decide +kernel
theorem dX0_leastOfAll_13 : decode cX0_leastOfAll 13 = .ok (.getfield 72, 3) := by decide +kernel
theorem dX0_leastOfAll_16 : decode cX0_leastOfAll 16 = .ok (.if_icmp .ge 24, 3) := by decide +kernel
theorem dX0_leastOfAll_19 : decode cX0_leastOfAll 19 = .ok (.dload_n 2, 1) := by decide +kernel
theorem dX0_leastOfAll_20 : decode cX0_leastOfAll 20 = .ok (.aload_n 0, 1) := by decide +kernel
theorem dX0_leastOfAll_21 : decode cX0_leastOfAll 21 = .ok (.iload 4, 2) := by decide +kernel
theorem dX0_leastOfAll_23 : decode cX0_leastOfAll 23 = .ok (.iload_n 1, 1) := by decide +kernel
theorem dX0_leastOfAll_24 : decode cX0_leastOfAll 24 = .ok (.invokevirtual 76, 3) := by decide +kernel
theorem dX0_leastOfAll_27 : decode cX0_leastOfAll 27 = .ok (.invokevirtual 80, 3) := by decide +kernel
theorem dX0_leastOfAll_30 : decode cX0_leastOfAll 30 = .ok (.invokestatic 84, 3) := by decide +kernel
theorem dX0_leastOfAll_33 : decode cX0_leastOfAll 33 = .ok (.dstore_n 2, 1) := by decide +kernel
theorem dX0_leastOfAll_34 : decode cX0_leastOfAll 34 = .ok (.iinc 4 1, 3) := by decide +kernel
theorem dX0_leastOfAll_37 : decode cX0_leastOfAll 37 = .ok (.goto (-30), 3) := by decide +kernel
theorem dX0_leastOfAll_40 : decode cX0_leastOfAll 40 = .ok (.dload_n 2, 1) := by decide +kernel
theorem dX0_leastOfAll_41 : decode cX0_leastOfAll 41 = .ok (.dreturn, 1) := by decide +kernel
theorem dX0_endsInNeed_0 : decode cX0_endsInNeed 0 = .ok (.iconst 0, 1) := by decide +kernel
theorem dX0_endsInNeed_1 : decode cX0_endsInNeed 1 = .ok (.istore_n 2, 1) := by decide +kernel
theorem dX0_endsInNeed_2 : decode cX0_endsInNeed 2 = .ok (.iconst 0, 1) := by decide +kernel
theorem dX0_endsInNeed_3 : decode cX0_endsInNeed 3 = .ok (.istore_n 3, 1) := by decide +kernel
theorem dX0_endsInNeed_4 : decode cX0_endsInNeed 4 = .ok (.iload_n 3, 1) := by decide +kernel
theorem dX0_endsInNeed_5 : decode cX0_endsInNeed 5 = .ok (.aload_n 0, 1) := by decide +kernel
theorem dX0_endsInNeed_6 : decode cX0_endsInNeed 6 = .ok (.getfield 20, 3) := by decide +kernel
theorem dX0_endsInNeed_9 : decode cX0_endsInNeed 9 = .ok (.getfield 88, 3) := by decide +kernel
theorem dX0_endsInNeed_12 : decode cX0_endsInNeed 12 = .ok (.if_icmp .ge 89, 3) := by decide +kernel
theorem dX0_endsInNeed_15 : decode cX0_endsInNeed 15 = .ok (.iconst 0, 1) := by decide +kernel
theorem dX0_endsInNeed_16 : decode cX0_endsInNeed 16 = .ok (.istore 4, 2) := by decide +kernel
theorem dX0_endsInNeed_18 : decode cX0_endsInNeed 18 = .ok (.iconst 0, 1) := by decide +kernel
theorem dX0_endsInNeed_19 : decode cX0_endsInNeed 19 = .ok (.istore 5, 2) := by decide +kernel
theorem dX0_endsInNeed_21 : decode cX0_endsInNeed 21 = .ok (.iload 5, 2) := by decide +kernel
theorem dX0_endsInNeed_23 : decode cX0_endsInNeed 23 = .ok (.aload_n 0, 1) := by decide +kernel
theorem dX0_endsInNeed_24 : decode cX0_endsInNeed 24 = .ok (.getfield 20, 3) := by decide +kernel
theorem dX0_endsInNeed_27 : decode cX0_endsInNeed 27 = .ok (.getfield 72, 3) := by decide +kernel
theorem dX0_endsInNeed_30 : decode cX0_endsInNeed 30 = .ok (.if_icmp .ge 52, 3) := by decide +kernel
theorem dX0_endsInNeed_33 : decode cX0_endsInNeed 33 = .ok (.aload_n 0, 1) := by decide +kernel
theorem dX0_endsInNeed_34 : decode cX0_endsInNeed 34 = .ok (.getfield 20, 3) := by decide +kernel
theorem dX0_endsInNeed_37 : decode cX0_endsInNeed 37 = .ok (.getfield 91, 3) := by decide +kernel
theorem dX0_endsInNeed_40 : decode cX0_endsInNeed 40 = .ok (.iload_n 3, 1) := by decide +kernel
theorem dX0_endsInNeed_41 : decode cX0_endsInNeed 41 = .ok (.aaload, 1) := by decide +kernel
theorem dX0_endsInNeed_42 : decode cX0_endsInNeed 42 = .ok (.invokevirtual 95, 3) := by decide +kernel
theorem dX0_endsInNeed_45 : decode cX0_endsInNeed 45 = .ok (.ifCond .eq 37, 3) := by decide +kernel
theorem dX0_endsInNeed_48 : decode cX0_endsInNeed 48 = .ok (.iload 4, 2) := by decide +kernel
theorem dX0_endsInNeed_50 : decode cX0_endsInNeed 50 = .ok (.ifCond .ne 19, 3) := by decide +kernel
theorem dX0_endsInNeed_53 : decode cX0_endsInNeed 53 = .ok (.aload_n 0, 1) := by decide +kernel
theorem dX0_endsInNeed_54 : decode cX0_endsInNeed 54 = .ok (.iload 5, 2) := by decide +kernel
theorem dX0_endsInNeed_56 : decode cX0_endsInNeed 56 = .ok (.iload_n 1, 1) := by decide +kernel
theorem dX0_endsInNeed_57 : decode cX0_endsInNeed 57 = .ok (.invokevirtual 76, 3) := by decide +kernel
theorem dX0_endsInNeed_60 : decode cX0_endsInNeed 60 = .ok (.iload_n 3, 1) := by decide +kernel
theorem dX0_endsInNeed_61 : decode cX0_endsInNeed 61 = .ok (.invokevirtual 101, 3) := by decide +kernel
theorem dX0_endsInNeed_64 : decode cX0_endsInNeed 64 = .ok (.dconst 0, 1) := by decide +kernel
theorem dX0_endsInNeed_65 : decode cX0_endsInNeed 65 = .ok (.dcmp .g, 1) := by decide +kernel
theorem dX0_endsInNeed_66 : decode cX0_endsInNeed 66 = .ok (.ifCond .ge 7, 3) := by decide +kernel
theorem dX0_endsInNeed_69 : decode cX0_endsInNeed 69 = .ok (.iconst 1, 1) := by decide +kernel
theorem dX0_endsInNeed_70 : decode cX0_endsInNeed 70 = .ok (.goto 4, 3) := by decide +kernel
theorem dX0_endsInNeed_73 : decode cX0_endsInNeed 73 = .ok (.iconst 0, 1) := by decide +kernel
theorem dX0_endsInNeed_74 : decode cX0_endsInNeed 74 = .ok (.istore 4, 2) := by decide +kernel
theorem dX0_endsInNeed_76 : decode cX0_endsInNeed 76 = .ok (.iinc 5 1, 3) := by decide +kernel
theorem dX0_endsInNeed_79 : decode cX0_endsInNeed 79 = .ok (.goto (-58), 3) := by decide +kernel
theorem dX0_endsInNeed_82 : decode cX0_endsInNeed 82 = .ok (.iload_n 2, 1) := by decide +kernel
theorem dX0_endsInNeed_83 : decode cX0_endsInNeed 83 = .ok (.iload 4, 2) := by decide +kernel
theorem dX0_endsInNeed_85 : decode cX0_endsInNeed 85 = .ok (.ifCond .eq 7, 3) := by decide +kernel
theorem dX0_endsInNeed_88 : decode cX0_endsInNeed 88 = .ok (.iconst 1, 1) := by decide +kernel
theorem dX0_endsInNeed_89 : decode cX0_endsInNeed 89 = .ok (.goto 4, 3) := by decide +kernel
theorem dX0_endsInNeed_92 : decode cX0_endsInNeed 92 = .ok (.iconst 0, 1) := by decide +kernel
theorem dX0_endsInNeed_93 : decode cX0_endsInNeed 93 = .ok (.iadd, 1) := by decide +kernel
theorem dX0_endsInNeed_94 : decode cX0_endsInNeed 94 = .ok (.istore_n 2, 1) := by decide +kernel
theorem dX0_endsInNeed_95 : decode cX0_endsInNeed 95 = .ok (.iinc 3 1, 3) := by decide +kernel
theorem dX0_endsInNeed_98 : decode cX0_endsInNeed 98 = .ok (.goto (-94), 3) := by decide +kernel
theorem dX0_endsInNeed_101 : decode cX0_endsInNeed 101 = .ok (.iload_n 2, 1) := by decide +kernel
theorem dX0_endsInNeed_102 : decode cX0_endsInNeed 102 = .ok (.ireturn, 1) := by decide +kernel
theorem dX0_leastWith_0 : decode cX0_leastWith 0 = .ok (.aload_n 0, 1) := by decide +kernel
theorem dX0_leastWith_1 : decode cX0_leastWith 1 = .ok (.getfield 20, 3) := by decide +kernel
theorem dX0_leastWith_4 : decode cX0_leastWith 4 = .ok (.getfield 91, 3) := by decide +kernel
theorem dX0_leastWith_7 : decode cX0_leastWith 7 = .ok (.iload_n 1, 1) := by decide +kernel
theorem dX0_leastWith_8 : decode cX0_leastWith 8 = .ok (.aaload, 1) := by decide +kernel
theorem dX0_leastWith_9 : decode cX0_leastWith 9 = .ok (.astore_n 3, 1) := by decide +kernel
theorem dX0_leastWith_10 : decode cX0_leastWith 10 = .ok (.aload_n 3, 1) := by decide +kernel
theorem dX0_leastWith_11 : decode cX0_leastWith 11 = .ok (.getfield 105, 3) := by decide +kernel
theorem dX0_leastWith_14 : decode cX0_leastWith 14 = .ok (.istore 4, 2) := by decide +kernel
theorem dX0_leastWith_16 : decode cX0_leastWith 16 = .ok (.aload_n 0, 1) := by decide +kernel
theorem dX0_leastWith_17 : decode cX0_leastWith 17 = .ok (.getfield 29, 3) := by decide +kernel
theorem dX0_leastWith_20 : decode cX0_leastWith 20 = .ok (.invokevirtual 56, 3) := by decide +kernel
theorem dX0_leastWith_23 : decode cX0_leastWith 23 = .ok (.aload_n 3, 1) := by decide +kernel
theorem dX0_leastWith_24 : decode cX0_leastWith 24 = .ok (.iload_n 2, 1) := by decide +kernel
theorem dX0_leastWith_25 : decode cX0_leastWith 25 = .ok (.putfield 105, 3) := by decide +kernel
theorem dX0_leastWith_28 : decode cX0_leastWith 28 = .ok (.aload_n 0, 1) := by decide +kernel
theorem dX0_leastWith_29 : decode cX0_leastWith 29 = .ok (.getfield 40, 3) := by decide +kernel
theorem dX0_leastWith_32 : decode cX0_leastWith 32 = .ok (.invokevirtual 108, 3) := by decide +kernel
theorem dX0_leastWith_35 : decode cX0_leastWith 35 = .ok (.ldc2_w 70, 3) := by decide +kernel
theorem dX0_leastWith_38 : decode cX0_leastWith 38 = .ok (.dstore 5, 2) := by decide +kernel
theorem dX0_leastWith_40 : decode cX0_leastWith 40 = .ok (.iconst 0, 1) := by decide +kernel
theorem dX0_leastWith_41 : decode cX0_leastWith 41 = .ok (.istore 7, 2) := by decide +kernel
theorem dX0_leastWith_43 : decode cX0_leastWith 43 = .ok (.iload 7, 2) := by decide +kernel
theorem dX0_leastWith_45 : decode cX0_leastWith 45 = .ok (.aload_n 0, 1) := by decide +kernel
theorem dX0_leastWith_46 : decode cX0_leastWith 46 = .ok (.getfield 20, 3) := by decide +kernel
theorem dX0_leastWith_49 : decode cX0_leastWith 49 = .ok (.getfield 72, 3) := by decide +kernel
theorem dX0_leastWith_52 : decode cX0_leastWith 52 = .ok (.if_icmp .ge 40, 3) := by decide +kernel
theorem dX0_leastWith_55 : decode cX0_leastWith 55 = .ok (.aload_n 0, 1) := by decide +kernel
theorem dX0_leastWith_56 : decode cX0_leastWith 56 = .ok (.getfield 46, 3) := by decide +kernel
theorem dX0_leastWith_59 : decode cX0_leastWith 59 = .ok (.aload_n 0, 1) := by decide +kernel
theorem dX0_leastWith_60 : decode cX0_leastWith 60 = .ok (.getfield 20, 3) := by decide +kernel
theorem dX0_leastWith_63 : decode cX0_leastWith 63 = .ok (.getfield 60, 3) := by decide +kernel
theorem dX0_leastWith_66 : decode cX0_leastWith 66 = .ok (.iload 7, 2) := by decide +kernel
theorem dX0_leastWith_68 : decode cX0_leastWith 68 = .ok (.aaload, 1) := by decide +kernel
theorem dX0_leastWith_69 : decode cX0_leastWith 69 = .ok (.invokevirtual 66, 3) := by decide +kernel
theorem dX0_leastWith_72 : decode cX0_leastWith 72 = .ok (.dload 5, 2) := by decide +kernel
theorem dX0_leastWith_74 : decode cX0_leastWith 74 = .ok (.aload_n 0, 1) := by decide +kernel
theorem dX0_leastWith_75 : decode cX0_leastWith 75 = .ok (.getfield 46, 3) := by decide +kernel
theorem dX0_leastWith_78 : decode cX0_leastWith 78 = .ok (.invokevirtual 80, 3) := by decide +kernel
theorem dX0_leastWith_81 : decode cX0_leastWith 81 = .ok (.invokestatic 84, 3) := by decide +kernel
theorem dX0_leastWith_84 : decode cX0_leastWith 84 = .ok (.dstore 5, 2) := by decide +kernel
theorem dX0_leastWith_86 : decode cX0_leastWith 86 = .ok (.iinc 7 1, 3) := by decide +kernel
theorem dX0_leastWith_89 : decode cX0_leastWith 89 = .ok (.goto (-46), 3) := by decide +kernel
theorem dX0_leastWith_92 : decode cX0_leastWith 92 = .ok (.aload_n 3, 1) := by decide +kernel
theorem dX0_leastWith_93 : decode cX0_leastWith 93 = .ok (.iload 4, 2) := by decide +kernel
theorem dX0_leastWith_95 : decode cX0_leastWith 95 = .ok (.putfield 105, 3) := by decide +kernel
theorem dX0_leastWith_98 : decode cX0_leastWith 98 = .ok (.dload 5, 2) := by decide +kernel
theorem dX0_leastWith_100 : decode cX0_leastWith 100 = .ok (.dreturn, 1) := by decide +kernel
theorem dX0_bestChange_0 : decode cX0_bestChange 0 = .ok (.aload_n 0, 1) := by decide +kernel
theorem dX0_bestChange_1 : decode cX0_bestChange 1 = .ok (.iconst 1, 1) := by decide +kernel
theorem dX0_bestChange_2 : decode cX0_bestChange 2 = .ok (.invokevirtual 110, 3) := by decide +kernel
theorem dX0_bestChange_5 : decode cX0_bestChange 5 = .ok (.dstore_n 1, 1) := by decide +kernel
theorem dX0_bestChange_6 : decode cX0_bestChange 6 = .ok (.iconst (-1), 1) := by decide +kernel
theorem dX0_bestChange_7 : decode cX0_bestChange 7 = .ok (.istore_n 3, 1) := by decide +kernel
theorem dX0_bestChange_8 : decode cX0_bestChange 8 = .ok (.iconst 0, 1) := by decide +kernel
theorem dX0_bestChange_9 : decode cX0_bestChange 9 = .ok (.istore 4, 2) := by decide +kernel
theorem dX0_bestChange_11 : decode cX0_bestChange 11 = .ok (.iload 4, 2) := by decide +kernel
theorem dX0_bestChange_13 : decode cX0_bestChange 13 = .ok (.aload_n 0, 1) := by decide +kernel
theorem dX0_bestChange_14 : decode cX0_bestChange 14 = .ok (.getfield 20, 3) := by decide +kernel
theorem dX0_bestChange_17 : decode cX0_bestChange 17 = .ok (.getfield 88, 3) := by decide +kernel
theorem dX0_bestChange_20 : decode cX0_bestChange 20 = .ok (.if_icmp .ge 77, 3) := by decide +kernel
theorem dX0_bestChange_23 : decode cX0_bestChange 23 = .ok (.iconst 0, 1) := by decide +kernel
theorem dX0_bestChange_24 : decode cX0_bestChange 24 = .ok (.istore 5, 2) := by decide +kernel
theorem dX0_bestChange_26 : decode cX0_bestChange 26 = .ok (.iload 5, 2) := by decide +kernel
theorem dX0_bestChange_28 : decode cX0_bestChange 28 = .ok (.iconst 3, 1) := by decide +kernel
theorem dX0_bestChange_29 : decode cX0_bestChange 29 = .ok (.if_icmp .ge 62, 3) := by decide +kernel
theorem dX0_bestChange_32 : decode cX0_bestChange 32 = .ok (.aload_n 0, 1) := by decide +kernel
theorem dX0_bestChange_33 : decode cX0_bestChange 33 = .ok (.getfield 20, 3) := by decide +kernel
theorem dX0_bestChange_36 : decode cX0_bestChange 36 = .ok (.getfield 91, 3) := by decide +kernel
theorem dX0_bestChange_39 : decode cX0_bestChange 39 = .ok (.iload 4, 2) := by decide +kernel
theorem dX0_bestChange_41 : decode cX0_bestChange 41 = .ok (.aaload, 1) := by decide +kernel
theorem dX0_bestChange_42 : decode cX0_bestChange 42 = .ok (.getfield 105, 3) := by decide +kernel
theorem dX0_bestChange_45 : decode cX0_bestChange 45 = .ok (.iconst 1, 1) := by decide +kernel
theorem dX0_bestChange_46 : decode cX0_bestChange 46 = .ok (.iload 5, 2) := by decide +kernel
theorem dX0_bestChange_48 : decode cX0_bestChange 48 = .ok (.ishl, 1) := by decide +kernel
theorem dX0_bestChange_49 : decode cX0_bestChange 49 = .ok (.if_icmp .ne 6, 3) := by decide +kernel
theorem dX0_bestChange_52 : decode cX0_bestChange 52 = .ok (.goto 33, 3) := by decide +kernel
theorem dX0_bestChange_55 : decode cX0_bestChange 55 = .ok (.aload_n 0, 1) := by decide +kernel
theorem dX0_bestChange_56 : decode cX0_bestChange 56 = .ok (.iload 4, 2) := by decide +kernel
theorem dX0_bestChange_58 : decode cX0_bestChange 58 = .ok (.iconst 1, 1) := by decide +kernel
theorem dX0_bestChange_59 : decode cX0_bestChange 59 = .ok (.iload 5, 2) := by decide +kernel
theorem dX0_bestChange_61 : decode cX0_bestChange 61 = .ok (.ishl, 1) := by decide +kernel
theorem dX0_bestChange_62 : decode cX0_bestChange 62 = .ok (.invokevirtual 114, 3) := by decide +kernel
theorem dX0_bestChange_65 : decode cX0_bestChange 65 = .ok (.dstore 6, 2) := by decide +kernel
theorem dX0_bestChange_67 : decode cX0_bestChange 67 = .ok (.dload 6, 2) := by decide +kernel
theorem dX0_bestChange_69 : decode cX0_bestChange 69 = .ok (.dload_n 1, 1) := by decide +kernel
theorem dX0_bestChange_70 : decode cX0_bestChange 70 = .ok (.dcmp .l, 1) := by decide +kernel
theorem dX0_bestChange_71 : decode cX0_bestChange 71 = .ok (.ifCond .le 14, 3) := by decide +kernel
theorem dX0_bestChange_74 : decode cX0_bestChange 74 = .ok (.dload 6, 2) := by decide +kernel
theorem dX0_bestChange_76 : decode cX0_bestChange 76 = .ok (.dstore_n 1, 1) := by decide +kernel
theorem dX0_bestChange_77 : decode cX0_bestChange 77 = .ok (.iconst 4, 1) := by decide +kernel
theorem dX0_bestChange_78 : decode cX0_bestChange 78 = .ok (.iload 4, 2) := by decide +kernel
theorem dX0_bestChange_80 : decode cX0_bestChange 80 = .ok (.imul, 1) := by decide +kernel
theorem dX0_bestChange_81 : decode cX0_bestChange 81 = .ok (.iload 5, 2) := by decide +kernel
theorem dX0_bestChange_83 : decode cX0_bestChange 83 = .ok (.iadd, 1) := by decide +kernel
theorem dX0_bestChange_84 : decode cX0_bestChange 84 = .ok (.istore_n 3, 1) := by decide +kernel
theorem dX0_bestChange_85 : decode cX0_bestChange 85 = .ok (.iinc 5 1, 3) := by decide +kernel
theorem dX0_bestChange_88 : decode cX0_bestChange 88 = .ok (.goto (-62), 3) := by decide +kernel
theorem dX0_bestChange_91 : decode cX0_bestChange 91 = .ok (.iinc 4 1, 3) := by decide +kernel
theorem dX0_bestChange_94 : decode cX0_bestChange 94 = .ok (.goto (-83), 3) := by decide +kernel
theorem dX0_bestChange_97 : decode cX0_bestChange 97 = .ok (.iload_n 3, 1) := by decide +kernel
theorem dX0_bestChange_98 : decode cX0_bestChange 98 = .ok (.ireturn, 1) := by decide +kernel
theorem dX1_init_0 : decode cX1_init 0 = .ok (.aload_n 0, 1) := by decide +kernel
theorem dX1_init_1 : decode cX1_init 1 = .ok (.invokespecial 3, 3) := by decide +kernel
theorem dX1_init_4 : decode cX1_init 4 = .ok (.aload_n 0, 1) := by decide +kernel
theorem dX1_init_5 : decode cX1_init 5 = .ok (.iconst 4, 1) := by decide +kernel
theorem dX1_init_6 : decode cX1_init 6 = .ok (.anewarray 9, 3) := by decide +kernel
theorem dX1_init_9 : decode cX1_init 9 = .ok (.putfield 11, 3) := by decide +kernel
theorem dX1_init_12 : decode cX1_init 12 = .ok (.aload_n 0, 1) := by decide +kernel
theorem dX1_init_13 : decode cX1_init 13 = .ok (.iconst 3, 1) := by decide +kernel
theorem dX1_init_14 : decode cX1_init 14 = .ok (.anewarray 17, 3) := by decide +kernel
theorem dX1_init_17 : decode cX1_init 17 = .ok (.putfield 19, 3) := by decide +kernel
theorem dX1_init_20 : decode cX1_init 20 = .ok (.aload_n 0, 1) := by decide +kernel
theorem dX1_init_21 : decode cX1_init 21 = .ok (.bipush 16, 2) := by decide +kernel
theorem dX1_init_23 : decode cX1_init 23 = .ok (.anewarray 23, 3) := by decide +kernel
theorem dX1_init_26 : decode cX1_init 26 = .ok (.putfield 25, 3) := by decide +kernel
theorem dX1_init_29 : decode cX1_init 29 = .ok (.aload_n 0, 1) := by decide +kernel
theorem dX1_init_30 : decode cX1_init 30 = .ok (.bipush 6, 2) := by decide +kernel
theorem dX1_init_32 : decode cX1_init 32 = .ok (.anewarray 29, 3) := by decide +kernel
theorem dX1_init_35 : decode cX1_init 35 = .ok (.putfield 31, 3) := by decide +kernel
theorem dX1_init_38 : decode cX1_init 38 = .ok (.aload_n 0, 1) := by decide +kernel
theorem dX1_init_39 : decode cX1_init 39 = .ok (.iconst 1, 1) := by decide +kernel
theorem dX1_init_40 : decode cX1_init 40 = .ok (.putfield 35, 3) := by decide +kernel
theorem dX1_init_43 : decode cX1_init 43 = .ok (.iconst 0, 1) := by decide +kernel
theorem dX1_init_44 : decode cX1_init 44 = .ok (.istore_n 1, 1) := by decide +kernel
theorem dX1_init_45 : decode cX1_init 45 = .ok (.iload_n 1, 1) := by decide +kernel
theorem dX1_init_46 : decode cX1_init 46 = .ok (.iconst 4, 1) := by decide +kernel
theorem dX1_init_47 : decode cX1_init 47 = .ok (.if_icmp .ge 22, 3) := by decide +kernel
theorem dX1_init_50 : decode cX1_init 50 = .ok (.aload_n 0, 1) := by decide +kernel
theorem dX1_init_51 : decode cX1_init 51 = .ok (.getfield 11, 3) := by decide +kernel
theorem dX1_init_54 : decode cX1_init 54 = .ok (.iload_n 1, 1) := by decide +kernel
theorem dX1_init_55 : decode cX1_init 55 = .ok (.new 9, 3) := by decide +kernel
theorem dX1_init_58 : decode cX1_init 58 = .ok (.dup, 1) := by decide +kernel
theorem dX1_init_59 : decode cX1_init 59 = .ok (.invokespecial 39, 3) := by decide +kernel
theorem dX1_init_62 : decode cX1_init 62 = .ok (.aastore, 1) := by decide +kernel
theorem dX1_init_63 : decode cX1_init 63 = .ok (.iinc 1 1, 3) := by decide +kernel
theorem dX1_init_66 : decode cX1_init 66 = .ok (.goto (-21), 3) := by decide +kernel
theorem dX1_init_69 : decode cX1_init 69 = .ok (.iconst 0, 1) := by decide +kernel
theorem dX1_init_70 : decode cX1_init 70 = .ok (.istore_n 1, 1) := by decide +kernel
theorem dX1_init_71 : decode cX1_init 71 = .ok (.iload_n 1, 1) := by decide +kernel
theorem dX1_init_72 : decode cX1_init 72 = .ok (.iconst 3, 1) := by decide +kernel
theorem dX1_init_73 : decode cX1_init 73 = .ok (.if_icmp .ge 22, 3) := by decide +kernel
theorem dX1_init_76 : decode cX1_init 76 = .ok (.aload_n 0, 1) := by decide +kernel
theorem dX1_init_77 : decode cX1_init 77 = .ok (.getfield 19, 3) := by decide +kernel
theorem dX1_init_80 : decode cX1_init 80 = .ok (.iload_n 1, 1) := by decide +kernel
theorem dX1_init_81 : decode cX1_init 81 = .ok (.new 17, 3) := by decide +kernel
theorem dX1_init_84 : decode cX1_init 84 = .ok (.dup, 1) := by decide +kernel
theorem dX1_init_85 : decode cX1_init 85 = .ok (.invokespecial 40, 3) := by decide +kernel
theorem dX1_init_88 : decode cX1_init 88 = .ok (.aastore, 1) := by decide +kernel
theorem dX1_init_89 : decode cX1_init 89 = .ok (.iinc 1 1, 3) := by decide +kernel
theorem dX1_init_92 : decode cX1_init 92 = .ok (.goto (-21), 3) := by decide +kernel
theorem dX1_init_95 : decode cX1_init 95 = .ok (.iconst 0, 1) := by decide +kernel
theorem dX1_init_96 : decode cX1_init 96 = .ok (.istore_n 1, 1) := by decide +kernel
theorem dX1_init_97 : decode cX1_init 97 = .ok (.iload_n 1, 1) := by decide +kernel
theorem dX1_init_98 : decode cX1_init 98 = .ok (.bipush 16, 2) := by decide +kernel
theorem dX1_init_100 : decode cX1_init 100 = .ok (.if_icmp .ge 28, 3) := by decide +kernel
theorem dX1_init_103 : decode cX1_init 103 = .ok (.aload_n 0, 1) := by decide +kernel
theorem dX1_init_104 : decode cX1_init 104 = .ok (.getfield 25, 3) := by decide +kernel
theorem dX1_init_107 : decode cX1_init 107 = .ok (.iload_n 1, 1) := by decide +kernel
theorem dX1_init_108 : decode cX1_init 108 = .ok (.new 23, 3) := by decide +kernel
theorem dX1_init_111 : decode cX1_init 111 = .ok (.dup, 1) := by decide +kernel
theorem dX1_init_112 : decode cX1_init 112 = .ok (.aload_n 0, 1) := by decide +kernel
theorem dX1_init_113 : decode cX1_init 113 = .ok (.getfield 11, 3) := by decide +kernel
theorem dX1_init_116 : decode cX1_init 116 = .ok (.iconst 0, 1) := by decide +kernel
theorem dX1_init_117 : decode cX1_init 117 = .ok (.aaload, 1) := by decide +kernel
theorem dX1_init_118 : decode cX1_init 118 = .ok (.invokespecial 41, 3) := by decide +kernel
theorem dX1_init_121 : decode cX1_init 121 = .ok (.aastore, 1) := by decide +kernel
theorem dX1_init_122 : decode cX1_init 122 = .ok (.iinc 1 1, 3) := by decide +kernel
theorem dX1_init_125 : decode cX1_init 125 = .ok (.goto (-28), 3) := by decide +kernel
theorem dX1_init_128 : decode cX1_init 128 = .ok (.iconst 0, 1) := by decide +kernel
theorem dX1_init_129 : decode cX1_init 129 = .ok (.istore_n 1, 1) := by decide +kernel
theorem dX1_init_130 : decode cX1_init 130 = .ok (.iload_n 1, 1) := by decide +kernel
theorem dX1_init_131 : decode cX1_init 131 = .ok (.bipush 6, 2) := by decide +kernel
theorem dX1_init_133 : decode cX1_init 133 = .ok (.if_icmp .ge 22, 3) := by decide +kernel
theorem dX1_init_136 : decode cX1_init 136 = .ok (.aload_n 0, 1) := by decide +kernel
theorem dX1_init_137 : decode cX1_init 137 = .ok (.getfield 31, 3) := by decide +kernel
theorem dX1_init_140 : decode cX1_init 140 = .ok (.iload_n 1, 1) := by decide +kernel
theorem dX1_init_141 : decode cX1_init 141 = .ok (.new 29, 3) := by decide +kernel
theorem dX1_init_144 : decode cX1_init 144 = .ok (.dup, 1) := by decide +kernel
theorem dX1_init_145 : decode cX1_init 145 = .ok (.invokespecial 44, 3) := by decide +kernel
theorem dX1_init_148 : decode cX1_init 148 = .ok (.aastore, 1) := by decide +kernel
theorem dX1_init_149 : decode cX1_init 149 = .ok (.iinc 1 1, 3) := by decide +kernel
theorem dX1_init_152 : decode cX1_init 152 = .ok (.goto (-22), 3) := by decide +kernel
theorem dX1_init_155 : decode cX1_init 155 = .ok (.return_, 1) := by decide +kernel
theorem dX1_hasClock_0 : decode cX1_hasClock 0 = .ok (.iload_n 1, 1) := by decide +kernel
theorem dX1_hasClock_1 : decode cX1_hasClock 1 = .ok (.ifCond .lt 15, 3) := by decide +kernel
theorem dX1_hasClock_4 : decode cX1_hasClock 4 = .ok (.iload_n 1, 1) := by decide +kernel
theorem dX1_hasClock_5 : decode cX1_hasClock 5 = .ok (.aload_n 0, 1) := by decide +kernel
theorem dX1_hasClock_6 : decode cX1_hasClock 6 = .ok (.getfield 45, 3) := by decide +kernel
theorem dX1_hasClock_9 : decode cX1_hasClock 9 = .ok (.if_icmp .ge 7, 3) := by decide +kernel
theorem dX1_hasClock_12 : decode cX1_hasClock 12 = .ok (.iconst 1, 1) := by decide +kernel
theorem dX1_hasClock_13 : decode cX1_hasClock 13 = .ok (.goto 4, 3) := by decide +kernel
theorem dX1_hasClock_16 : decode cX1_hasClock 16 = .ok (.iconst 0, 1) := by decide +kernel
theorem dX1_hasClock_17 : decode cX1_hasClock 17 = .ok (.ireturn, 1) := by decide +kernel
theorem dX1_hasCorner_0 : decode cX1_hasCorner 0 = .ok (.iload_n 1, 1) := by decide +kernel
theorem dX1_hasCorner_1 : decode cX1_hasCorner 1 = .ok (.ifCond .lt 15, 3) := by decide +kernel
theorem dX1_hasCorner_4 : decode cX1_hasCorner 4 = .ok (.iload_n 1, 1) := by decide +kernel
theorem dX1_hasCorner_5 : decode cX1_hasCorner 5 = .ok (.aload_n 0, 1) := by decide +kernel
theorem dX1_hasCorner_6 : decode cX1_hasCorner 6 = .ok (.getfield 35, 3) := by decide +kernel
theorem dX1_hasCorner_9 : decode cX1_hasCorner 9 = .ok (.if_icmp .ge 7, 3) := by decide +kernel
theorem dX1_hasCorner_12 : decode cX1_hasCorner 12 = .ok (.iconst 1, 1) := by decide +kernel
theorem dX1_hasCorner_13 : decode cX1_hasCorner 13 = .ok (.goto 4, 3) := by decide +kernel
theorem dX1_hasCorner_16 : decode cX1_hasCorner 16 = .ok (.iconst 0, 1) := by decide +kernel
theorem dX1_hasCorner_17 : decode cX1_hasCorner 17 = .ok (.ireturn, 1) := by decide +kernel
theorem dX1_hasNode_0 : decode cX1_hasNode 0 = .ok (.iload_n 1, 1) := by decide +kernel
theorem dX1_hasNode_1 : decode cX1_hasNode 1 = .ok (.ifCond .lt 15, 3) := by decide +kernel
theorem dX1_hasNode_4 : decode cX1_hasNode 4 = .ok (.iload_n 1, 1) := by decide +kernel
theorem dX1_hasNode_5 : decode cX1_hasNode 5 = .ok (.aload_n 0, 1) := by decide +kernel
theorem dX1_hasNode_6 : decode cX1_hasNode 6 = .ok (.getfield 48, 3) := by decide +kernel
theorem dX1_hasNode_9 : decode cX1_hasNode 9 = .ok (.if_icmp .ge 7, 3) := by decide +kernel
theorem dX1_hasNode_12 : decode cX1_hasNode 12 = .ok (.iconst 1, 1) := by decide +kernel
theorem dX1_hasNode_13 : decode cX1_hasNode 13 = .ok (.goto 4, 3) := by decide +kernel
theorem dX1_hasNode_16 : decode cX1_hasNode 16 = .ok (.iconst 0, 1) := by decide +kernel
theorem dX1_hasNode_17 : decode cX1_hasNode 17 = .ok (.ireturn, 1) := by decide +kernel
theorem dX1_addClock_0 : decode cX1_addClock 0 = .ok (.aload_n 0, 1) := by decide +kernel
theorem dX1_addClock_1 : decode cX1_addClock 1 = .ok (.getfield 11, 3) := by decide +kernel
theorem dX1_addClock_4 : decode cX1_addClock 4 = .ok (.aload_n 0, 1) := by decide +kernel
theorem dX1_addClock_5 : decode cX1_addClock 5 = .ok (.getfield 45, 3) := by decide +kernel
theorem dX1_addClock_8 : decode cX1_addClock 8 = .ok (.aaload, 1) := by decide +kernel
theorem dX1_addClock_9 : decode cX1_addClock 9 = .ok (.astore 6, 2) := by decide +kernel
theorem dX1_addClock_11 : decode cX1_addClock 11 = .ok (.aload 6, 2) := by decide +kernel
theorem dX1_addClock_13 : decode cX1_addClock 13 = .ok (.iload_n 1, 1) := by decide +kernel
theorem dX1_addClock_14 : decode cX1_addClock 14 = .ok (.putfield 51, 3) := by decide +kernel
theorem dX1_addClock_17 : decode cX1_addClock 17 = .ok (.aload 6, 2) := by decide +kernel
theorem dX1_addClock_19 : decode cX1_addClock 19 = .ok (.iload_n 2, 1) := by decide +kernel
theorem dX1_addClock_20 : decode cX1_addClock 20 = .ok (.putfield 54, 3) := by decide +kernel
theorem dX1_addClock_23 : decode cX1_addClock 23 = .ok (.aload 6, 2) := by decide +kernel
theorem dX1_addClock_25 : decode cX1_addClock 25 = .ok (.iload_n 3, 1) := by decide +kernel
theorem dX1_addClock_26 : decode cX1_addClock 26 = .ok (.putfield 57, 3) := by decide +kernel
theorem dX1_addClock_29 : decode cX1_addClock 29 = .ok (.aload 6, 2) := by decide +kernel
theorem dX1_addClock_31 : decode cX1_addClock 31 = .ok (.iload 4, 2) := by decide +kernel
theorem dX1_addClock_33 : decode cX1_addClock 33 = .ok (.putfield 60, 3) := by decide +kernel
theorem dX1_addClock_36 : decode cX1_addClock 36 = .ok (.aload 6, 2) := by decide +kernel
theorem dX1_addClock_38 : decode cX1_addClock 38 = .ok (.iload 5, 2) := by decide +kernel
theorem dX1_addClock_40 : decode cX1_addClock 40 = .ok (.putfield 63, 3) := by decide +kernel
theorem dX1_addClock_43 : decode cX1_addClock 43 = .ok (.aload_n 0, 1) := by decide +kernel
theorem dX1_addClock_44 : decode cX1_addClock 44 = .ok (.dup, 1) := by decide +kernel
theorem dX1_addClock_45 : decode cX1_addClock 45 = .ok (.getfield 45, 3) := by decide +kernel
theorem dX1_addClock_48 : decode cX1_addClock 48 = .ok (.dup_x1, 1) := by decide +kernel
theorem dX1_addClock_49 : decode cX1_addClock 49 = .ok (.iconst 1, 1) := by decide +kernel
theorem dX1_addClock_50 : decode cX1_addClock 50 = .ok (.iadd, 1) := by decide +kernel
theorem dX1_addClock_51 : decode cX1_addClock 51 = .ok (.putfield 45, 3) := by decide +kernel
theorem dX1_addClock_54 : decode cX1_addClock 54 = .ok (.ireturn, 1) := by decide +kernel
theorem dX1_addCorner_0 : decode cX1_addCorner 0 = .ok (.aload_n 0, 1) := by decide +kernel
theorem dX1_addCorner_1 : decode cX1_addCorner 1 = .ok (.getfield 19, 3) := by decide +kernel
theorem dX1_addCorner_4 : decode cX1_addCorner 4 = .ok (.aload_n 0, 1) := by decide +kernel
theorem dX1_addCorner_5 : decode cX1_addCorner 5 = .ok (.getfield 35, 3) := by decide +kernel
theorem dX1_addCorner_8 : decode cX1_addCorner 8 = .ok (.aaload, 1) := by decide +kernel
theorem dX1_addCorner_9 : decode cX1_addCorner 9 = .ok (.iload_n 1, 1) := by decide +kernel
theorem dX1_addCorner_10 : decode cX1_addCorner 10 = .ok (.i2d, 1) := by decide +kernel
theorem dX1_addCorner_11 : decode cX1_addCorner 11 = .ok (.ldc2_w 66, 3) := by decide +kernel
theorem dX1_addCorner_14 : decode cX1_addCorner 14 = .ok (.dmul, 1) := by decide +kernel
theorem dX1_addCorner_15 : decode cX1_addCorner 15 = .ok (.putfield 68, 3) := by decide +kernel
theorem dX1_addCorner_18 : decode cX1_addCorner 18 = .ok (.aload_n 0, 1) := by decide +kernel
theorem dX1_addCorner_19 : decode cX1_addCorner 19 = .ok (.getfield 19, 3) := by decide +kernel
theorem dX1_addCorner_22 : decode cX1_addCorner 22 = .ok (.aload_n 0, 1) := by decide +kernel
theorem dX1_addCorner_23 : decode cX1_addCorner 23 = .ok (.getfield 35, 3) := by decide +kernel
theorem dX1_addCorner_26 : decode cX1_addCorner 26 = .ok (.aaload, 1) := by decide +kernel
theorem dX1_addCorner_27 : decode cX1_addCorner 27 = .ok (.iload_n 2, 1) := by decide +kernel
theorem dX1_addCorner_28 : decode cX1_addCorner 28 = .ok (.i2d, 1) := by decide +kernel
theorem dX1_addCorner_29 : decode cX1_addCorner 29 = .ok (.ldc2_w 66, 3) := by decide +kernel
theorem dX1_addCorner_32 : decode cX1_addCorner 32 = .ok (.dmul, 1) := by decide +kernel
theorem dX1_addCorner_33 : decode cX1_addCorner 33 = .ok (.putfield 72, 3) := by decide +kernel
theorem dX1_addCorner_36 : decode cX1_addCorner 36 = .ok (.aload_n 0, 1) := by decide +kernel
theorem dX1_addCorner_37 : decode cX1_addCorner 37 = .ok (.dup, 1) := by decide +kernel
theorem dX1_addCorner_38 : decode cX1_addCorner 38 = .ok (.getfield 35, 3) := by decide +kernel
theorem dX1_addCorner_41 : decode cX1_addCorner 41 = .ok (.dup_x1, 1) := by decide +kernel
theorem dX1_addCorner_42 : decode cX1_addCorner 42 = .ok (.iconst 1, 1) := by decide +kernel
theorem dX1_addCorner_43 : decode cX1_addCorner 43 = .ok (.iadd, 1) := by decide +kernel
theorem dX1_addCorner_44 : decode cX1_addCorner 44 = .ok (.putfield 35, 3) := by decide +kernel
theorem dX1_addCorner_47 : decode cX1_addCorner 47 = .ok (.ireturn, 1) := by decide +kernel
theorem dX1_addNode_0 : decode cX1_addNode 0 = .ok (.aload_n 0, 1) := by decide +kernel
theorem dX1_addNode_1 : decode cX1_addNode 1 = .ok (.getfield 25, 3) := by decide +kernel
theorem dX1_addNode_4 : decode cX1_addNode 4 = .ok (.aload_n 0, 1) := by decide +kernel
theorem dX1_addNode_5 : decode cX1_addNode 5 = .ok (.getfield 48, 3) := by decide +kernel
theorem dX1_addNode_8 : decode cX1_addNode 8 = .ok (.aaload, 1) := by decide +kernel
theorem dX1_addNode_9 : decode cX1_addNode 9 = .ok (.astore 5, 2) := by decide +kernel
theorem dX1_addNode_11 : decode cX1_addNode 11 = .ok (.aload 5, 2) := by decide +kernel
theorem dX1_addNode_13 : decode cX1_addNode 13 = .ok (.iload_n 1, 1) := by decide +kernel
theorem dX1_addNode_14 : decode cX1_addNode 14 = .ok (.putfield 75, 3) := by decide +kernel
theorem dX1_addNode_17 : decode cX1_addNode 17 = .ok (.aload 5, 2) := by decide +kernel
theorem dX1_addNode_19 : decode cX1_addNode 19 = .ok (.iload_n 2, 1) := by decide +kernel
theorem dX1_addNode_20 : decode cX1_addNode 20 = .ok (.putfield 78, 3) := by decide +kernel
theorem dX1_addNode_23 : decode cX1_addNode 23 = .ok (.aload 5, 2) := by decide +kernel
theorem dX1_addNode_25 : decode cX1_addNode 25 = .ok (.iload_n 3, 1) := by decide +kernel
theorem dX1_addNode_26 : decode cX1_addNode 26 = .ok (.putfield 81, 3) := by decide +kernel
theorem dX1_addNode_29 : decode cX1_addNode 29 = .ok (.aload 5, 2) := by decide +kernel
theorem dX1_addNode_31 : decode cX1_addNode 31 = .ok (.iload 4, 2) := by decide +kernel
theorem dX1_addNode_33 : decode cX1_addNode 33 = .ok (.putfield 84, 3) := by decide +kernel
theorem dX1_addNode_36 : decode cX1_addNode 36 = .ok (.aload_n 0, 1) := by decide +kernel
theorem dX1_addNode_37 : decode cX1_addNode 37 = .ok (.iload 4, 2) := by decide +kernel
theorem dX1_addNode_39 : decode cX1_addNode 39 = .ok (.invokevirtual 87, 3) := by decide +kernel
theorem dX1_addNode_42 : decode cX1_addNode 42 = .ok (.ifCond .eq 15, 3) := by decide +kernel
theorem dX1_addNode_45 : decode cX1_addNode 45 = .ok (.aload 5, 2) := by decide +kernel
theorem dX1_addNode_47 : decode cX1_addNode 47 = .ok (.aload_n 0, 1) := by decide +kernel
theorem dX1_addNode_48 : decode cX1_addNode 48 = .ok (.getfield 11, 3) := by decide +kernel
theorem dX1_addNode_51 : decode cX1_addNode 51 = .ok (.iload 4, 2) := by decide +kernel
theorem dX1_addNode_53 : decode cX1_addNode 53 = .ok (.aaload, 1) := by decide +kernel
theorem dX1_addNode_54 : decode cX1_addNode 54 = .ok (.putfield 91, 3) := by decide +kernel
theorem dX1_addNode_57 : decode cX1_addNode 57 = .ok (.aload_n 0, 1) := by decide +kernel
theorem dX1_addNode_58 : decode cX1_addNode 58 = .ok (.dup, 1) := by decide +kernel
theorem dX1_addNode_59 : decode cX1_addNode 59 = .ok (.getfield 48, 3) := by decide +kernel
theorem dX1_addNode_62 : decode cX1_addNode 62 = .ok (.dup_x1, 1) := by decide +kernel
theorem dX1_addNode_63 : decode cX1_addNode 63 = .ok (.iconst 1, 1) := by decide +kernel
theorem dX1_addNode_64 : decode cX1_addNode 64 = .ok (.iadd, 1) := by decide +kernel
theorem dX1_addNode_65 : decode cX1_addNode 65 = .ok (.putfield 48, 3) := by decide +kernel
theorem dX1_addNode_68 : decode cX1_addNode 68 = .ok (.ireturn, 1) := by decide +kernel
theorem dX1_addRule_0 : decode cX1_addRule 0 = .ok (.aload_n 0, 1) := by decide +kernel
theorem dX1_addRule_1 : decode cX1_addRule 1 = .ok (.getfield 31, 3) := by decide +kernel
theorem dX1_addRule_4 : decode cX1_addRule 4 = .ok (.aload_n 0, 1) := by decide +kernel
theorem dX1_addRule_5 : decode cX1_addRule 5 = .ok (.getfield 95, 3) := by decide +kernel
theorem dX1_addRule_8 : decode cX1_addRule 8 = .ok (.aaload, 1) := by decide +kernel
theorem dX1_addRule_9 : decode cX1_addRule 9 = .ok (.astore 4, 2) := by decide +kernel
theorem dX1_addRule_11 : decode cX1_addRule 11 = .ok (.aload 4, 2) := by decide +kernel
theorem dX1_addRule_13 : decode cX1_addRule 13 = .ok (.iload_n 1, 1) := by decide +kernel
theorem dX1_addRule_14 : decode cX1_addRule 14 = .ok (.putfield 98, 3) := by decide +kernel
theorem dX1_addRule_17 : decode cX1_addRule 17 = .ok (.aload 4, 2) := by decide +kernel
theorem dX1_addRule_19 : decode cX1_addRule 19 = .ok (.iload_n 2, 1) := by decide +kernel
theorem dX1_addRule_20 : decode cX1_addRule 20 = .ok (.putfield 101, 3) := by decide +kernel
theorem dX1_addRule_23 : decode cX1_addRule 23 = .ok (.aload 4, 2) := by decide +kernel
theorem dX1_addRule_25 : decode cX1_addRule 25 = .ok (.iload_n 3, 1) := by decide +kernel
theorem dX1_addRule_26 : decode cX1_addRule 26 = .ok (.putfield 104, 3) := by decide +kernel
theorem dX1_addRule_29 : decode cX1_addRule 29 = .ok (.aload_n 0, 1) := by decide +kernel
theorem dX1_addRule_30 : decode cX1_addRule 30 = .ok (.dup, 1) := by decide +kernel
theorem dX1_addRule_31 : decode cX1_addRule 31 = .ok (.getfield 95, 3) := by decide +kernel
theorem dX1_addRule_34 : decode cX1_addRule 34 = .ok (.dup_x1, 1) := by decide +kernel
theorem dX1_addRule_35 : decode cX1_addRule 35 = .ok (.iconst 1, 1) := by decide +kernel
theorem dX1_addRule_36 : decode cX1_addRule 36 = .ok (.iadd, 1) := by decide +kernel
theorem dX1_addRule_37 : decode cX1_addRule 37 = .ok (.putfield 95, 3) := by decide +kernel
theorem dX1_addRule_40 : decode cX1_addRule 40 = .ok (.ireturn, 1) := by decide +kernel
theorem dX1_timesFeed_0 : decode cX1_timesFeed 0 = .ok (.iconst 0, 1) := by decide +kernel
theorem dX1_timesFeed_1 : decode cX1_timesFeed 1 = .ok (.istore_n 2, 1) := by decide +kernel
theorem dX1_timesFeed_2 : decode cX1_timesFeed 2 = .ok (.iconst 0, 1) := by decide +kernel
theorem dX1_timesFeed_3 : decode cX1_timesFeed 3 = .ok (.istore_n 3, 1) := by decide +kernel
theorem dX1_timesFeed_4 : decode cX1_timesFeed 4 = .ok (.iload_n 3, 1) := by decide +kernel
theorem dX1_timesFeed_5 : decode cX1_timesFeed 5 = .ok (.aload_n 0, 1) := by decide +kernel
theorem dX1_timesFeed_6 : decode cX1_timesFeed 6 = .ok (.getfield 48, 3) := by decide +kernel
theorem dX1_timesFeed_9 : decode cX1_timesFeed 9 = .ok (.if_icmp .ge 49, 3) := by decide +kernel
theorem dX1_timesFeed_12 : decode cX1_timesFeed 12 = .ok (.iload_n 2, 1) := by decide +kernel
theorem dX1_timesFeed_13 : decode cX1_timesFeed 13 = .ok (.aload_n 0, 1) := by decide +kernel
theorem dX1_timesFeed_14 : decode cX1_timesFeed 14 = .ok (.getfield 25, 3) := by decide +kernel
theorem dX1_timesFeed_17 : decode cX1_timesFeed 17 = .ok (.iload_n 3, 1) := by decide +kernel
theorem dX1_timesFeed_18 : decode cX1_timesFeed 18 = .ok (.aaload, 1) := by decide +kernel
theorem dX1_timesFeed_19 : decode cX1_timesFeed 19 = .ok (.getfield 78, 3) := by decide +kernel
theorem dX1_timesFeed_22 : decode cX1_timesFeed 22 = .ok (.iload_n 1, 1) := by decide +kernel
theorem dX1_timesFeed_23 : decode cX1_timesFeed 23 = .ok (.if_icmp .ne 7, 3) := by decide +kernel
theorem dX1_timesFeed_26 : decode cX1_timesFeed 26 = .ok (.iconst 1, 1) := by decide +kernel
theorem dX1_timesFeed_27 : decode cX1_timesFeed 27 = .ok (.goto 4, 3) := by decide +kernel
theorem dX1_timesFeed_30 : decode cX1_timesFeed 30 = .ok (.iconst 0, 1) := by decide +kernel
theorem dX1_timesFeed_31 : decode cX1_timesFeed 31 = .ok (.aload_n 0, 1) := by decide +kernel
theorem dX1_timesFeed_32 : decode cX1_timesFeed 32 = .ok (.getfield 25, 3) := by decide +kernel
theorem dX1_timesFeed_35 : decode cX1_timesFeed 35 = .ok (.iload_n 3, 1) := by decide +kernel
theorem dX1_timesFeed_36 : decode cX1_timesFeed 36 = .ok (.aaload, 1) := by decide +kernel
theorem dX1_timesFeed_37 : decode cX1_timesFeed 37 = .ok (.getfield 81, 3) := by decide +kernel
theorem dX1_timesFeed_40 : decode cX1_timesFeed 40 = .ok (.iload_n 1, 1) := by decide +kernel
theorem dX1_timesFeed_41 : decode cX1_timesFeed 41 = .ok (.if_icmp .ne 7, 3) := by decide +kernel
theorem dX1_timesFeed_44 : decode cX1_timesFeed 44 = .ok (.iconst 1, 1) := by decide +kernel
theorem dX1_timesFeed_45 : decode cX1_timesFeed 45 = .ok (.goto 4, 3) := by decide +kernel
theorem dX1_timesFeed_48 : decode cX1_timesFeed 48 = .ok (.iconst 0, 1) := by decide +kernel
theorem dX1_timesFeed_49 : decode cX1_timesFeed 49 = .ok (.iadd, 1) := by decide +kernel
theorem dX1_timesFeed_50 : decode cX1_timesFeed 50 = .ok (.iadd, 1) := by decide +kernel
theorem dX1_timesFeed_51 : decode cX1_timesFeed 51 = .ok (.istore_n 2, 1) := by decide +kernel
theorem dX1_timesFeed_52 : decode cX1_timesFeed 52 = .ok (.iinc 3 1, 3) := by decide +kernel
theorem dX1_timesFeed_55 : decode cX1_timesFeed 55 = .ok (.goto (-51), 3) := by decide +kernel
theorem dX1_timesFeed_58 : decode cX1_timesFeed 58 = .ok (.iload_n 2, 1) := by decide +kernel
theorem dX1_timesFeed_59 : decode cX1_timesFeed 59 = .ok (.ireturn, 1) := by decide +kernel
theorem dX1_winnerOf_0 : decode cX1_winnerOf 0 = .ok (.iconst (-1), 1) := by decide +kernel
theorem dX1_winnerOf_1 : decode cX1_winnerOf 1 = .ok (.istore_n 3, 1) := by decide +kernel
theorem dX1_winnerOf_2 : decode cX1_winnerOf 2 = .ok (.iconst 0, 1) := by decide +kernel
theorem dX1_winnerOf_3 : decode cX1_winnerOf 3 = .ok (.istore 4, 2) := by decide +kernel
theorem dX1_winnerOf_5 : decode cX1_winnerOf 5 = .ok (.iconst 0, 1) := by decide +kernel
theorem dX1_winnerOf_6 : decode cX1_winnerOf 6 = .ok (.istore 5, 2) := by decide +kernel
theorem dX1_winnerOf_8 : decode cX1_winnerOf 8 = .ok (.iload 5, 2) := by decide +kernel
theorem dX1_winnerOf_10 : decode cX1_winnerOf 10 = .ok (.aload_n 0, 1) := by decide +kernel
theorem dX1_winnerOf_11 : decode cX1_winnerOf 11 = .ok (.getfield 95, 3) := by decide +kernel
theorem dX1_winnerOf_14 : decode cX1_winnerOf 14 = .ok (.if_icmp .ge 54, 3) := by decide +kernel
theorem dX1_winnerOf_17 : decode cX1_winnerOf 17 = .ok (.aload_n 0, 1) := by decide +kernel
theorem dX1_winnerOf_18 : decode cX1_winnerOf 18 = .ok (.getfield 31, 3) := by decide +kernel
theorem dX1_winnerOf_21 : decode cX1_winnerOf 21 = .ok (.iload 5, 2) := by decide +kernel
theorem dX1_winnerOf_23 : decode cX1_winnerOf 23 = .ok (.aaload, 1) := by decide +kernel
theorem dX1_winnerOf_24 : decode cX1_winnerOf 24 = .ok (.iload_n 1, 1) := by decide +kernel
theorem dX1_winnerOf_25 : decode cX1_winnerOf 25 = .ok (.iload_n 2, 1) := by decide +kernel
theorem dX1_winnerOf_26 : decode cX1_winnerOf 26 = .ok (.invokevirtual 107, 3) := by decide +kernel
theorem dX1_winnerOf_29 : decode cX1_winnerOf 29 = .ok (.ifCond .eq 33, 3) := by decide +kernel
theorem dX1_winnerOf_32 : decode cX1_winnerOf 32 = .ok (.aload_n 0, 1) := by decide +kernel
theorem dX1_winnerOf_33 : decode cX1_winnerOf 33 = .ok (.getfield 31, 3) := by decide +kernel
theorem dX1_winnerOf_36 : decode cX1_winnerOf 36 = .ok (.iload 5, 2) := by decide +kernel
theorem dX1_winnerOf_38 : decode cX1_winnerOf 38 = .ok (.aaload, 1) := by decide +kernel
theorem dX1_winnerOf_39 : decode cX1_winnerOf 39 = .ok (.invokevirtual 111, 3) := by decide +kernel
theorem dX1_winnerOf_42 : decode cX1_winnerOf 42 = .ok (.iload 4, 2) := by decide +kernel
theorem dX1_winnerOf_44 : decode cX1_winnerOf 44 = .ok (.if_icmp .lt 18, 3) := by decide +kernel
theorem dX1_winnerOf_47 : decode cX1_winnerOf 47 = .ok (.iload 5, 2) := by decide +kernel
theorem dX1_winnerOf_49 : decode cX1_winnerOf 49 = .ok (.istore_n 3, 1) := by decide +kernel
theorem dX1_winnerOf_50 : decode cX1_winnerOf 50 = .ok (.aload_n 0, 1) := by decide +kernel
theorem dX1_winnerOf_51 : decode cX1_winnerOf 51 = .ok (.getfield 31, 3) := by decide +kernel
theorem dX1_winnerOf_54 : decode cX1_winnerOf 54 = .ok (.iload 5, 2) := by decide +kernel
theorem dX1_winnerOf_56 : decode cX1_winnerOf 56 = .ok (.aaload, 1) := by decide +kernel
theorem dX1_winnerOf_57 : decode cX1_winnerOf 57 = .ok (.invokevirtual 111, 3) := by decide +kernel
theorem dX1_winnerOf_60 : decode cX1_winnerOf 60 = .ok (.istore 4, 2) := by decide +kernel
theorem dX1_winnerOf_62 : decode cX1_winnerOf 62 = .ok (.iinc 5 1, 3) := by decide +kernel
theorem dX1_winnerOf_65 : decode cX1_winnerOf 65 = .ok (.goto (-57), 3) := by decide +kernel
theorem dX1_winnerOf_68 : decode cX1_winnerOf 68 = .ok (.iload_n 3, 1) := by decide +kernel
theorem dX1_winnerOf_69 : decode cX1_winnerOf 69 = .ok (.ireturn, 1) := by decide +kernel
theorem dX1_isOneGroup_0 : decode cX1_isOneGroup 0 = .ok (.aload_n 0, 1) := by decide +kernel
theorem dX1_isOneGroup_1 : decode cX1_isOneGroup 1 = .ok (.getfield 25, 3) := by decide +kernel
theorem dX1_isOneGroup_4 : decode cX1_isOneGroup 4 = .ok (.iload_n 1, 1) := by decide +kernel
theorem dX1_isOneGroup_5 : decode cX1_isOneGroup 5 = .ok (.aaload, 1) := by decide +kernel
theorem dX1_isOneGroup_6 : decode cX1_isOneGroup 6 = .ok (.getfield 91, 3) := by decide +kernel
theorem dX1_isOneGroup_9 : decode cX1_isOneGroup 9 = .ok (.getfield 60, 3) := by decide +kernel
theorem dX1_isOneGroup_12 : decode cX1_isOneGroup 12 = .ok (.aload_n 0, 1) := by decide +kernel
theorem dX1_isOneGroup_13 : decode cX1_isOneGroup 13 = .ok (.getfield 25, 3) := by decide +kernel
theorem dX1_isOneGroup_16 : decode cX1_isOneGroup 16 = .ok (.iload_n 2, 1) := by decide +kernel
theorem dX1_isOneGroup_17 : decode cX1_isOneGroup 17 = .ok (.aaload, 1) := by decide +kernel
theorem dX1_isOneGroup_18 : decode cX1_isOneGroup 18 = .ok (.getfield 91, 3) := by decide +kernel
theorem dX1_isOneGroup_21 : decode cX1_isOneGroup 21 = .ok (.getfield 60, 3) := by decide +kernel
theorem dX1_isOneGroup_24 : decode cX1_isOneGroup 24 = .ok (.if_icmp .ne 7, 3) := by decide +kernel
theorem dX1_isOneGroup_27 : decode cX1_isOneGroup 27 = .ok (.iconst 1, 1) := by decide +kernel
theorem dX1_isOneGroup_28 : decode cX1_isOneGroup 28 = .ok (.goto 4, 3) := by decide +kernel
theorem dX1_isOneGroup_31 : decode cX1_isOneGroup 31 = .ok (.iconst 0, 1) := by decide +kernel
theorem dX1_isOneGroup_32 : decode cX1_isOneGroup 32 = .ok (.ireturn, 1) := by decide +kernel
theorem dX1_gapOf_0 : decode cX1_gapOf 0 = .ok (.aload_n 0, 1) := by decide +kernel
theorem dX1_gapOf_1 : decode cX1_gapOf 1 = .ok (.getfield 25, 3) := by decide +kernel
theorem dX1_gapOf_4 : decode cX1_gapOf 4 = .ok (.iload_n 2, 1) := by decide +kernel
theorem dX1_gapOf_5 : decode cX1_gapOf 5 = .ok (.aaload, 1) := by decide +kernel
theorem dX1_gapOf_6 : decode cX1_gapOf 6 = .ok (.getfield 91, 3) := by decide +kernel
theorem dX1_gapOf_9 : decode cX1_gapOf 9 = .ok (.getfield 51, 3) := by decide +kernel
theorem dX1_gapOf_12 : decode cX1_gapOf 12 = .ok (.istore 4, 2) := by decide +kernel
theorem dX1_gapOf_14 : decode cX1_gapOf 14 = .ok (.aload_n 0, 1) := by decide +kernel
theorem dX1_gapOf_15 : decode cX1_gapOf 15 = .ok (.getfield 25, 3) := by decide +kernel
theorem dX1_gapOf_18 : decode cX1_gapOf 18 = .ok (.iload_n 1, 1) := by decide +kernel
theorem dX1_gapOf_19 : decode cX1_gapOf 19 = .ok (.aaload, 1) := by decide +kernel
theorem dX1_gapOf_20 : decode cX1_gapOf 20 = .ok (.getfield 91, 3) := by decide +kernel
theorem dX1_gapOf_23 : decode cX1_gapOf 23 = .ok (.getfield 51, 3) := by decide +kernel
theorem dX1_gapOf_26 : decode cX1_gapOf 26 = .ok (.iload 4, 2) := by decide +kernel
theorem dX1_gapOf_28 : decode cX1_gapOf 28 = .ok (.invokestatic 115, 3) := by decide +kernel
theorem dX1_gapOf_31 : decode cX1_gapOf 31 = .ok (.iload_n 3, 1) := by decide +kernel
theorem dX1_gapOf_32 : decode cX1_gapOf 32 = .ok (.iconst 1, 1) := by decide +kernel
theorem dX1_gapOf_33 : decode cX1_gapOf 33 = .ok (.isub, 1) := by decide +kernel
theorem dX1_gapOf_34 : decode cX1_gapOf 34 = .ok (.iload 4, 2) := by decide +kernel
theorem dX1_gapOf_36 : decode cX1_gapOf 36 = .ok (.imul, 1) := by decide +kernel
theorem dX1_gapOf_37 : decode cX1_gapOf 37 = .ok (.iadd, 1) := by decide +kernel
theorem dX1_gapOf_38 : decode cX1_gapOf 38 = .ok (.ireturn, 1) := by decide +kernel
theorem dX1_greatestDivisor_0 : decode cX1_greatestDivisor 0 = .ok (.iload_n 0, 1) := by decide +kernel
theorem dX1_greatestDivisor_1 : decode cX1_greatestDivisor 1 = .ok (.istore_n 2, 1) := by decide +kernel
theorem dX1_greatestDivisor_2 : decode cX1_greatestDivisor 2 = .ok (.iload_n 1, 1) := by decide +kernel
theorem dX1_greatestDivisor_3 : decode cX1_greatestDivisor 3 = .ok (.istore_n 3, 1) := by decide +kernel
theorem dX1_greatestDivisor_4 : decode cX1_greatestDivisor 4 = .ok (.iconst 0, 1) := by decide +kernel
theorem dX1_greatestDivisor_5 : decode cX1_greatestDivisor 5 = .ok (.istore 4, 2) := by decide +kernel
theorem dX1_greatestDivisor_7 : decode cX1_greatestDivisor 7 = .ok (.iload 4, 2) := by decide +kernel
theorem dX1_greatestDivisor_9 : decode cX1_greatestDivisor 9 = .ok (.bipush 64, 2) := by decide +kernel
theorem dX1_greatestDivisor_11 : decode cX1_greatestDivisor 11 = .ok (.if_icmp .ge 23, 3) := by decide +kernel
theorem dX1_greatestDivisor_14 : decode cX1_greatestDivisor 14 = .ok (.iload_n 3, 1) := by decide +kernel
theorem dX1_greatestDivisor_15 : decode cX1_greatestDivisor 15 = .ok (.ifCond .eq 19, 3) := by decide +kernel
theorem dX1_greatestDivisor_18 : decode cX1_greatestDivisor 18 = .ok (.iload_n 2, 1) := by decide +kernel
theorem dX1_greatestDivisor_19 : decode cX1_greatestDivisor 19 = .ok (.iload_n 3, 1) := by decide +kernel
theorem dX1_greatestDivisor_20 : decode cX1_greatestDivisor 20 = .ok (.irem, 1) := by decide +kernel
theorem dX1_greatestDivisor_21 : decode cX1_greatestDivisor 21 = .ok (.istore 5, 2) := by decide +kernel
theorem dX1_greatestDivisor_23 : decode cX1_greatestDivisor 23 = .ok (.iload_n 3, 1) := by decide +kernel
theorem dX1_greatestDivisor_24 : decode cX1_greatestDivisor 24 = .ok (.istore_n 2, 1) := by decide +kernel
theorem dX1_greatestDivisor_25 : decode cX1_greatestDivisor 25 = .ok (.iload 5, 2) := by decide +kernel
theorem dX1_greatestDivisor_27 : decode cX1_greatestDivisor 27 = .ok (.istore_n 3, 1) := by decide +kernel
theorem dX1_greatestDivisor_28 : decode cX1_greatestDivisor 28 = .ok (.iinc 4 1, 3) := by decide +kernel
theorem dX1_greatestDivisor_31 : decode cX1_greatestDivisor 31 = .ok (.goto (-24), 3) := by decide +kernel
theorem dX1_greatestDivisor_34 : decode cX1_greatestDivisor 34 = .ok (.iload_n 2, 1) := by decide +kernel
theorem dX1_greatestDivisor_35 : decode cX1_greatestDivisor 35 = .ok (.ireturn, 1) := by decide +kernel
theorem dX2_init_0 : decode cX2_init 0 = .ok (.aload_n 0, 1) := by decide +kernel
theorem dX2_init_1 : decode cX2_init 1 = .ok (.invokespecial 1, 3) := by decide +kernel
theorem dX2_init_4 : decode cX2_init 4 = .ok (.return_, 1) := by decide +kernel
theorem dX2_tell_0 : decode cX2_tell 0 = .ok (.iload_n 1, 1) := by decide +kernel
theorem dX2_tell_1 : decode cX2_tell 1 = .ok (.tableswitch 51 0 3 #[31, 36, 41, 46], 31) := by decide +kernel
theorem dX2_tell_32 : decode cX2_tell 32 = .ok (.aload_n 0, 1) := by decide +kernel
theorem dX2_tell_33 : decode cX2_tell 33 = .ok (.getfield 7, 3) := by decide +kernel
theorem dX2_tell_36 : decode cX2_tell 36 = .ok (.ireturn, 1) := by decide +kernel
theorem dX2_tell_37 : decode cX2_tell 37 = .ok (.aload_n 0, 1) := by decide +kernel
theorem dX2_tell_38 : decode cX2_tell 38 = .ok (.getfield 13, 3) := by decide +kernel
theorem dX2_tell_41 : decode cX2_tell 41 = .ok (.ireturn, 1) := by decide +kernel
theorem dX2_tell_42 : decode cX2_tell 42 = .ok (.aload_n 0, 1) := by decide +kernel
theorem dX2_tell_43 : decode cX2_tell 43 = .ok (.getfield 16, 3) := by decide +kernel
theorem dX2_tell_46 : decode cX2_tell 46 = .ok (.ireturn, 1) := by decide +kernel
theorem dX2_tell_47 : decode cX2_tell 47 = .ok (.aload_n 0, 1) := by decide +kernel
theorem dX2_tell_48 : decode cX2_tell 48 = .ok (.getfield 19, 3) := by decide +kernel
theorem dX2_tell_51 : decode cX2_tell 51 = .ok (.ireturn, 1) := by decide +kernel
theorem dX2_tell_52 : decode cX2_tell 52 = .ok (.aload_n 0, 1) := by decide +kernel
theorem dX2_tell_53 : decode cX2_tell 53 = .ok (.getfield 22, 3) := by decide +kernel
theorem dX2_tell_56 : decode cX2_tell 56 = .ok (.ireturn, 1) := by decide +kernel
theorem dX3_init_0 : decode cX3_init 0 = .ok (.aload_n 0, 1) := by decide +kernel
theorem dX3_init_1 : decode cX3_init 1 = .ok (.invokespecial 1, 3) := by decide +kernel
theorem dX3_init_4 : decode cX3_init 4 = .ok (.aload_n 0, 1) := by decide +kernel
theorem dX3_init_5 : decode cX3_init 5 = .ok (.dconst 1, 1) := by decide +kernel
theorem dX3_init_6 : decode cX3_init 6 = .ok (.putfield 7, 3) := by decide +kernel
theorem dX3_init_9 : decode cX3_init 9 = .ok (.aload_n 0, 1) := by decide +kernel
theorem dX3_init_10 : decode cX3_init 10 = .ok (.dconst 1, 1) := by decide +kernel
theorem dX3_init_11 : decode cX3_init 11 = .ok (.putfield 13, 3) := by decide +kernel
theorem dX3_init_14 : decode cX3_init 14 = .ok (.return_, 1) := by decide +kernel
theorem dX4_init_0 : decode cX4_init 0 = .ok (.aload_n 0, 1) := by decide +kernel
theorem dX4_init_1 : decode cX4_init 1 = .ok (.invokespecial 3, 3) := by decide +kernel
theorem dX4_init_4 : decode cX4_init 4 = .ok (.aload_n 0, 1) := by decide +kernel
theorem dX4_init_5 : decode cX4_init 5 = .ok (.bipush 16, 2) := by decide +kernel
theorem dX4_init_7 : decode cX4_init 7 = .ok (.newarray .float, 2) := by decide +kernel
theorem dX4_init_9 : decode cX4_init 9 = .ok (.putfield 9, 3) := by decide +kernel
theorem dX4_init_12 : decode cX4_init 12 = .ok (.aload_n 0, 1) := by decide +kernel
theorem dX4_init_13 : decode cX4_init 13 = .ok (.bipush 16, 2) := by decide +kernel
theorem dX4_init_15 : decode cX4_init 15 = .ok (.newarray .double, 2) := by decide +kernel
theorem dX4_init_17 : decode cX4_init 17 = .ok (.putfield 15, 3) := by decide +kernel
theorem dX4_init_20 : decode cX4_init 20 = .ok (.aload_n 0, 1) := by decide +kernel
theorem dX4_init_21 : decode cX4_init 21 = .ok (.aload_n 1, 1) := by decide +kernel
theorem dX4_init_22 : decode cX4_init 22 = .ok (.putfield 19, 3) := by decide +kernel
theorem dX4_init_25 : decode cX4_init 25 = .ok (.return_, 1) := by decide +kernel
theorem dX4_prepare_0 : decode cX4_prepare 0 = .ok (.aload_n 0, 1) := by decide +kernel
theorem dX4_prepare_1 : decode cX4_prepare 1 = .ok (.getfield 23, 3) := by decide +kernel
theorem dX4_prepare_4 : decode cX4_prepare 4 = .ok (.ifCond .ne 12, 3) := by decide +kernel
theorem dX4_prepare_7 : decode cX4_prepare 7 = .ok (.aload_n 0, 1) := by decide +kernel
theorem dX4_prepare_8 : decode cX4_prepare 8 = .ok (.invokevirtual 27, 3) := by decide +kernel
theorem dX4_prepare_11 : decode cX4_prepare 11 = .ok (.aload_n 0, 1) := by decide +kernel
theorem dX4_prepare_12 : decode cX4_prepare 12 = .ok (.iconst 1, 1) := by decide +kernel
theorem dX4_prepare_13 : decode cX4_prepare 13 = .ok (.putfield 23, 3) := by decide +kernel
theorem dX4_prepare_16 : decode cX4_prepare 16 = .ok (.return_, 1) := by decide +kernel
theorem dX4_reckon_0 : decode cX4_reckon 0 = .ok (.iconst 0, 1) := by decide +kernel
theorem dX4_reckon_1 : decode cX4_reckon 1 = .ok (.istore_n 1, 1) := by decide +kernel
theorem dX4_reckon_2 : decode cX4_reckon 2 = .ok (.iload_n 1, 1) := by decide +kernel
theorem dX4_reckon_3 : decode cX4_reckon 3 = .ok (.aload_n 0, 1) := by decide +kernel
theorem dX4_reckon_4 : decode cX4_reckon 4 = .ok (.getfield 19, 3) := by decide +kernel
theorem dX4_reckon_7 : decode cX4_reckon 7 = .ok (.getfield 30, 3) := by decide +kernel
theorem dX4_reckon_10 : decode cX4_reckon 10 = .ok (.if_icmp .ge 27, 3) := by decide +kernel
theorem dX4_reckon_13 : decode cX4_reckon 13 = .ok (.aload_n 0, 1) := by decide +kernel
theorem dX4_reckon_14 : decode cX4_reckon 14 = .ok (.getfield 9, 3) := by decide +kernel
theorem dX4_reckon_17 : decode cX4_reckon 17 = .ok (.iload_n 1, 1) := by decide +kernel
theorem dX4_reckon_18 : decode cX4_reckon 18 = .ok (.aload_n 0, 1) := by decide +kernel
theorem dX4_reckon_19 : decode cX4_reckon 19 = .ok (.getfield 19, 3) := by decide +kernel
theorem dX4_reckon_22 : decode cX4_reckon 22 = .ok (.getfield 36, 3) := by decide +kernel
theorem dX4_reckon_25 : decode cX4_reckon 25 = .ok (.iload_n 1, 1) := by decide +kernel
theorem dX4_reckon_26 : decode cX4_reckon 26 = .ok (.aaload, 1) := by decide +kernel
theorem dX4_reckon_27 : decode cX4_reckon 27 = .ok (.getfield 40, 3) := by decide +kernel
theorem dX4_reckon_30 : decode cX4_reckon 30 = .ok (.fastore, 1) := by decide +kernel
theorem dX4_reckon_31 : decode cX4_reckon 31 = .ok (.iinc 1 1, 3) := by decide +kernel
theorem dX4_reckon_34 : decode cX4_reckon 34 = .ok (.goto (-32), 3) := by decide +kernel
theorem dX4_reckon_37 : decode cX4_reckon 37 = .ok (.iconst 0, 1) := by decide +kernel
theorem dX4_reckon_38 : decode cX4_reckon 38 = .ok (.istore_n 1, 1) := by decide +kernel
theorem dX4_reckon_39 : decode cX4_reckon 39 = .ok (.iload_n 1, 1) := by decide +kernel
theorem dX4_reckon_40 : decode cX4_reckon 40 = .ok (.aload_n 0, 1) := by decide +kernel
theorem dX4_reckon_41 : decode cX4_reckon 41 = .ok (.getfield 19, 3) := by decide +kernel
theorem dX4_reckon_44 : decode cX4_reckon 44 = .ok (.getfield 30, 3) := by decide +kernel
theorem dX4_reckon_47 : decode cX4_reckon 47 = .ok (.if_icmp .ge 59, 3) := by decide +kernel
theorem dX4_reckon_50 : decode cX4_reckon 50 = .ok (.aload_n 0, 1) := by decide +kernel
theorem dX4_reckon_51 : decode cX4_reckon 51 = .ok (.getfield 19, 3) := by decide +kernel
theorem dX4_reckon_54 : decode cX4_reckon 54 = .ok (.getfield 36, 3) := by decide +kernel
theorem dX4_reckon_57 : decode cX4_reckon 57 = .ok (.iload_n 1, 1) := by decide +kernel
theorem dX4_reckon_58 : decode cX4_reckon 58 = .ok (.aaload, 1) := by decide +kernel
theorem dX4_reckon_59 : decode cX4_reckon 59 = .ok (.astore_n 2, 1) := by decide +kernel
theorem dX4_reckon_60 : decode cX4_reckon 60 = .ok (.aload_n 2, 1) := by decide +kernel
theorem dX4_reckon_61 : decode cX4_reckon 61 = .ok (.getfield 46, 3) := by decide +kernel
theorem dX4_reckon_64 : decode cX4_reckon 64 = .ok (.bipush 8, 2) := by decide +kernel
theorem dX4_reckon_66 : decode cX4_reckon 66 = .ok (.if_icmp .ne 7, 3) := by decide +kernel
theorem dX4_reckon_69 : decode cX4_reckon 69 = .ok (.fconst 2, 1) := by decide +kernel
theorem dX4_reckon_70 : decode cX4_reckon 70 = .ok (.goto 11, 3) := by decide +kernel
theorem dX4_reckon_73 : decode cX4_reckon 73 = .ok (.ldc 49, 2) := by decide +kernel
theorem dX4_reckon_75 : decode cX4_reckon 75 = .ok (.aload_n 2, 1) := by decide +kernel
theorem dX4_reckon_76 : decode cX4_reckon 76 = .ok (.getfield 50, 3) := by decide +kernel
theorem dX4_reckon_79 : decode cX4_reckon 79 = .ok (.i2f, 1) := by decide +kernel
theorem dX4_reckon_80 : decode cX4_reckon 80 = .ok (.fmul, 1) := by decide +kernel
theorem dX4_reckon_81 : decode cX4_reckon 81 = .ok (.fstore_n 3, 1) := by decide +kernel
theorem dX4_reckon_82 : decode cX4_reckon 82 = .ok (.aload_n 0, 1) := by decide +kernel
theorem dX4_reckon_83 : decode cX4_reckon 83 = .ok (.aload_n 2, 1) := by decide +kernel
theorem dX4_reckon_84 : decode cX4_reckon 84 = .ok (.getfield 53, 3) := by decide +kernel
theorem dX4_reckon_87 : decode cX4_reckon 87 = .ok (.fload_n 3, 1) := by decide +kernel
theorem dX4_reckon_88 : decode cX4_reckon 88 = .ok (.invokevirtual 56, 3) := by decide +kernel
theorem dX4_reckon_91 : decode cX4_reckon 91 = .ok (.aload_n 0, 1) := by decide +kernel
theorem dX4_reckon_92 : decode cX4_reckon 92 = .ok (.aload_n 2, 1) := by decide +kernel
theorem dX4_reckon_93 : decode cX4_reckon 93 = .ok (.getfield 60, 3) := by decide +kernel
theorem dX4_reckon_96 : decode cX4_reckon 96 = .ok (.fload_n 3, 1) := by decide +kernel
theorem dX4_reckon_97 : decode cX4_reckon 97 = .ok (.invokevirtual 56, 3) := by decide +kernel
theorem dX4_reckon_100 : decode cX4_reckon 100 = .ok (.iinc 1 1, 3) := by decide +kernel
theorem dX4_reckon_103 : decode cX4_reckon 103 = .ok (.goto (-64), 3) := by decide +kernel
theorem dX4_reckon_106 : decode cX4_reckon 106 = .ok (.iconst 0, 1) := by decide +kernel
theorem dX4_reckon_107 : decode cX4_reckon 107 = .ok (.istore_n 1, 1) := by decide +kernel
theorem dX4_reckon_108 : decode cX4_reckon 108 = .ok (.iload_n 1, 1) := by decide +kernel
theorem dX4_reckon_109 : decode cX4_reckon 109 = .ok (.aload_n 0, 1) := by decide +kernel
theorem dX4_reckon_110 : decode cX4_reckon 110 = .ok (.getfield 19, 3) := by decide +kernel
theorem dX4_reckon_113 : decode cX4_reckon 113 = .ok (.getfield 30, 3) := by decide +kernel
theorem dX4_reckon_116 : decode cX4_reckon 116 = .ok (.if_icmp .ge 34, 3) := by decide +kernel
theorem dX4_reckon_119 : decode cX4_reckon 119 = .ok (.aload_n 0, 1) := by decide +kernel
theorem dX4_reckon_120 : decode cX4_reckon 120 = .ok (.getfield 15, 3) := by decide +kernel
theorem dX4_reckon_123 : decode cX4_reckon 123 = .ok (.iload_n 1, 1) := by decide +kernel
theorem dX4_reckon_124 : decode cX4_reckon 124 = .ok (.aload_n 0, 1) := by decide +kernel
theorem dX4_reckon_125 : decode cX4_reckon 125 = .ok (.getfield 19, 3) := by decide +kernel
theorem dX4_reckon_128 : decode cX4_reckon 128 = .ok (.getfield 36, 3) := by decide +kernel
theorem dX4_reckon_131 : decode cX4_reckon 131 = .ok (.iload_n 1, 1) := by decide +kernel
theorem dX4_reckon_132 : decode cX4_reckon 132 = .ok (.aaload, 1) := by decide +kernel
theorem dX4_reckon_133 : decode cX4_reckon 133 = .ok (.aload_n 0, 1) := by decide +kernel
theorem dX4_reckon_134 : decode cX4_reckon 134 = .ok (.getfield 9, 3) := by decide +kernel
theorem dX4_reckon_137 : decode cX4_reckon 137 = .ok (.iload_n 1, 1) := by decide +kernel
theorem dX4_reckon_138 : decode cX4_reckon 138 = .ok (.faload, 1) := by decide +kernel
theorem dX4_reckon_139 : decode cX4_reckon 139 = .ok (.f2d, 1) := by decide +kernel
theorem dX4_reckon_140 : decode cX4_reckon 140 = .ok (.invokestatic 63, 3) := by decide +kernel
theorem dX4_reckon_143 : decode cX4_reckon 143 = .ok (.dastore, 1) := by decide +kernel
theorem dX4_reckon_144 : decode cX4_reckon 144 = .ok (.iinc 1 1, 3) := by decide +kernel
theorem dX4_reckon_147 : decode cX4_reckon 147 = .ok (.goto (-39), 3) := by decide +kernel
theorem dX4_reckon_150 : decode cX4_reckon 150 = .ok (.return_, 1) := by decide +kernel
theorem dX4_burden_0 : decode cX4_burden 0 = .ok (.aload_n 0, 1) := by decide +kernel
theorem dX4_burden_1 : decode cX4_burden 1 = .ok (.getfield 19, 3) := by decide +kernel
theorem dX4_burden_4 : decode cX4_burden 4 = .ok (.iload_n 1, 1) := by decide +kernel
theorem dX4_burden_5 : decode cX4_burden 5 = .ok (.invokevirtual 67, 3) := by decide +kernel
theorem dX4_burden_8 : decode cX4_burden 8 = .ok (.ifCond .eq 13, 3) := by decide +kernel
theorem dX4_burden_11 : decode cX4_burden 11 = .ok (.aload_n 0, 1) := by decide +kernel
theorem dX4_burden_12 : decode cX4_burden 12 = .ok (.getfield 9, 3) := by decide +kernel
theorem dX4_burden_15 : decode cX4_burden 15 = .ok (.iload_n 1, 1) := by decide +kernel
theorem dX4_burden_16 : decode cX4_burden 16 = .ok (.dup2, 1) := by decide +kernel
theorem dX4_burden_17 : decode cX4_burden 17 = .ok (.faload, 1) := by decide +kernel
theorem dX4_burden_18 : decode cX4_burden 18 = .ok (.fload_n 2, 1) := by decide +kernel
theorem dX4_burden_19 : decode cX4_burden 19 = .ok (.fadd, 1) := by decide +kernel
theorem dX4_burden_20 : decode cX4_burden 20 = .ok (.fastore, 1) := by decide +kernel
theorem dX4_burden_21 : decode cX4_burden 21 = .ok (.return_, 1) := by decide +kernel
theorem dX4_riseOf_0 : decode cX4_riseOf 0 = .ok (.aload_n 0, 1) := by decide +kernel
theorem dX4_riseOf_1 : decode cX4_riseOf 1 = .ok (.getfield 46, 3) := by decide +kernel
theorem dX4_riseOf_4 : decode cX4_riseOf 4 = .ok (.ifCond .eq 22, 3) := by decide +kernel
theorem dX4_riseOf_7 : decode cX4_riseOf 7 = .ok (.aload_n 0, 1) := by decide +kernel
theorem dX4_riseOf_8 : decode cX4_riseOf 8 = .ok (.getfield 46, 3) := by decide +kernel
theorem dX4_riseOf_11 : decode cX4_riseOf 11 = .ok (.bipush 8, 2) := by decide +kernel
theorem dX4_riseOf_13 : decode cX4_riseOf 13 = .ok (.if_icmp .eq 13, 3) := by decide +kernel
theorem dX4_riseOf_16 : decode cX4_riseOf 16 = .ok (.aload_n 0, 1) := by decide +kernel
theorem dX4_riseOf_17 : decode cX4_riseOf 17 = .ok (.getfield 50, 3) := by decide +kernel
theorem dX4_riseOf_20 : decode cX4_riseOf 20 = .ok (.invokestatic 71, 3) := by decide +kernel
theorem dX4_riseOf_23 : decode cX4_riseOf 23 = .ok (.ifCond .ne 5, 3) := by decide +kernel
theorem dX4_riseOf_26 : decode cX4_riseOf 26 = .ok (.dconst 0, 1) := by decide +kernel
theorem dX4_riseOf_27 : decode cX4_riseOf 27 = .ok (.dreturn, 1) := by decide +kernel
theorem dX4_riseOf_28 : decode cX4_riseOf 28 = .ok (.dload_n 1, 1) := by decide +kernel
theorem dX4_riseOf_29 : decode cX4_riseOf 29 = .ok (.invokestatic 74, 3) := by decide +kernel
theorem dX4_riseOf_32 : decode cX4_riseOf 32 = .ok (.aload_n 0, 1) := by decide +kernel
theorem dX4_riseOf_33 : decode cX4_riseOf 33 = .ok (.getfield 50, 3) := by decide +kernel
theorem dX4_riseOf_36 : decode cX4_riseOf 36 = .ok (.i2d, 1) := by decide +kernel
theorem dX4_riseOf_37 : decode cX4_riseOf 37 = .ok (.ddiv, 1) := by decide +kernel
theorem dX4_riseOf_38 : decode cX4_riseOf 38 = .ok (.dstore_n 3, 1) := by decide +kernel
theorem dX4_riseOf_39 : decode cX4_riseOf 39 = .ok (.aload_n 0, 1) := by decide +kernel
theorem dX4_riseOf_40 : decode cX4_riseOf 40 = .ok (.invokevirtual 78, 3) := by decide +kernel
theorem dX4_riseOf_43 : decode cX4_riseOf 43 = .ok (.ifCond .eq 7, 3) := by decide +kernel
theorem dX4_riseOf_46 : decode cX4_riseOf 46 = .ok (.dload_n 3, 1) := by decide +kernel
theorem dX4_riseOf_47 : decode cX4_riseOf 47 = .ok (.goto 8, 3) := by decide +kernel
theorem dX4_riseOf_50 : decode cX4_riseOf 50 = .ok (.dload_n 3, 1) := by decide +kernel
theorem dX4_riseOf_51 : decode cX4_riseOf 51 = .ok (.ldc2_w 82, 3) := by decide +kernel
theorem dX4_riseOf_54 : decode cX4_riseOf 54 = .ok (.dadd, 1) := by decide +kernel
theorem dX4_riseOf_55 : decode cX4_riseOf 55 = .ok (.dreturn, 1) := by decide +kernel
theorem dX4_unsized_0 : decode cX4_unsized 0 = .ok (.dload_n 0, 1) := by decide +kernel
theorem dX4_unsized_1 : decode cX4_unsized 1 = .ok (.ldc2_w 84, 3) := by decide +kernel
theorem dX4_unsized_4 : decode cX4_unsized 4 = .ok (.dcmp .g, 1) := by decide +kernel
theorem dX4_unsized_5 : decode cX4_unsized 5 = .ok (.ifCond .gt 11, 3) := by decide +kernel
theorem dX4_unsized_8 : decode cX4_unsized 8 = .ok (.dconst 1, 1) := by decide +kernel
theorem dX4_unsized_9 : decode cX4_unsized 9 = .ok (.dload_n 0, 1) := by decide +kernel
theorem dX4_unsized_10 : decode cX4_unsized 10 = .ok (.ldc2_w 86, 3) := by decide +kernel
theorem dX4_unsized_13 : decode cX4_unsized 13 = .ok (.dmul, 1) := by decide +kernel
theorem dX4_unsized_14 : decode cX4_unsized 14 = .ok (.dadd, 1) := by decide +kernel
theorem dX4_unsized_15 : decode cX4_unsized 15 = .ok (.dreturn, 1) := by decide +kernel
theorem dX4_unsized_16 : decode cX4_unsized 16 = .ok (.dload_n 0, 1) := by decide +kernel
theorem dX4_unsized_17 : decode cX4_unsized 17 = .ok (.ldc2_w 88, 3) := by decide +kernel
theorem dX4_unsized_20 : decode cX4_unsized 20 = .ok (.dcmp .g, 1) := by decide +kernel
theorem dX4_unsized_21 : decode cX4_unsized 21 = .ok (.ifCond .gt 17, 3) := by decide +kernel
theorem dX4_unsized_24 : decode cX4_unsized 24 = .ok (.ldc2_w 82, 3) := by decide +kernel
theorem dX4_unsized_27 : decode cX4_unsized 27 = .ok (.dload_n 0, 1) := by decide +kernel
theorem dX4_unsized_28 : decode cX4_unsized 28 = .ok (.ldc2_w 84, 3) := by decide +kernel
theorem dX4_unsized_31 : decode cX4_unsized 31 = .ok (.dsub, 1) := by decide +kernel
theorem dX4_unsized_32 : decode cX4_unsized 32 = .ok (.ldc2_w 90, 3) := by decide +kernel
theorem dX4_unsized_35 : decode cX4_unsized 35 = .ok (.dmul, 1) := by decide +kernel
theorem dX4_unsized_36 : decode cX4_unsized 36 = .ok (.dadd, 1) := by decide +kernel
theorem dX4_unsized_37 : decode cX4_unsized 37 = .ok (.dreturn, 1) := by decide +kernel
theorem dX4_unsized_38 : decode cX4_unsized 38 = .ok (.dload_n 0, 1) := by decide +kernel
theorem dX4_unsized_39 : decode cX4_unsized 39 = .ok (.ldc2_w 92, 3) := by decide +kernel
theorem dX4_unsized_42 : decode cX4_unsized 42 = .ok (.dcmp .g, 1) := by decide +kernel
theorem dX4_unsized_43 : decode cX4_unsized 43 = .ok (.ifCond .gt 17, 3) := by decide +kernel
theorem dX4_unsized_46 : decode cX4_unsized 46 = .ok (.ldc2_w 94, 3) := by decide +kernel
theorem dX4_unsized_49 : decode cX4_unsized 49 = .ok (.dload_n 0, 1) := by decide +kernel
theorem dX4_unsized_50 : decode cX4_unsized 50 = .ok (.ldc2_w 88, 3) := by decide +kernel
theorem dX4_unsized_53 : decode cX4_unsized 53 = .ok (.dsub, 1) := by decide +kernel
theorem dX4_unsized_54 : decode cX4_unsized 54 = .ok (.ldc2_w 90, 3) := by decide +kernel
theorem dX4_unsized_57 : decode cX4_unsized 57 = .ok (.dmul, 1) := by decide +kernel
theorem dX4_unsized_58 : decode cX4_unsized 58 = .ok (.dadd, 1) := by decide +kernel
theorem dX4_unsized_59 : decode cX4_unsized 59 = .ok (.dreturn, 1) := by decide +kernel
theorem dX4_unsized_60 : decode cX4_unsized 60 = .ok (.ldc2_w 96, 3) := by decide +kernel
theorem dX4_unsized_63 : decode cX4_unsized 63 = .ok (.dload_n 0, 1) := by decide +kernel
theorem dX4_unsized_64 : decode cX4_unsized 64 = .ok (.ldc2_w 92, 3) := by decide +kernel
theorem dX4_unsized_67 : decode cX4_unsized 67 = .ok (.dsub, 1) := by decide +kernel
theorem dX4_unsized_68 : decode cX4_unsized 68 = .ok (.ldc2_w 98, 3) := by decide +kernel
theorem dX4_unsized_71 : decode cX4_unsized 71 = .ok (.dmul, 1) := by decide +kernel
theorem dX4_unsized_72 : decode cX4_unsized 72 = .ok (.dadd, 1) := by decide +kernel
theorem dX4_unsized_73 : decode cX4_unsized 73 = .ok (.dreturn, 1) := by decide +kernel
theorem dX4_ofEdge_0 : decode cX4_ofEdge 0 = .ok (.iload_n 2, 1) := by decide +kernel
theorem dX4_ofEdge_1 : decode cX4_ofEdge 1 = .ok (.ifCond .ne 12, 3) := by decide +kernel
theorem dX4_ofEdge_4 : decode cX4_ofEdge 4 = .ok (.aload_n 0, 1) := by decide +kernel
theorem dX4_ofEdge_5 : decode cX4_ofEdge 5 = .ok (.getfield 15, 3) := by decide +kernel
theorem dX4_ofEdge_8 : decode cX4_ofEdge 8 = .ok (.iload_n 1, 1) := by decide +kernel
theorem dX4_ofEdge_9 : decode cX4_ofEdge 9 = .ok (.daload, 1) := by decide +kernel
theorem dX4_ofEdge_10 : decode cX4_ofEdge 10 = .ok (.goto 13, 3) := by decide +kernel
theorem dX4_ofEdge_13 : decode cX4_ofEdge 13 = .ok (.ldc2_w 100, 3) := by decide +kernel
theorem dX4_ofEdge_16 : decode cX4_ofEdge 16 = .ok (.aload_n 0, 1) := by decide +kernel
theorem dX4_ofEdge_17 : decode cX4_ofEdge 17 = .ok (.getfield 15, 3) := by decide +kernel
theorem dX4_ofEdge_20 : decode cX4_ofEdge 20 = .ok (.iload_n 1, 1) := by decide +kernel
theorem dX4_ofEdge_21 : decode cX4_ofEdge 21 = .ok (.daload, 1) := by decide +kernel
theorem dX4_ofEdge_22 : decode cX4_ofEdge 22 = .ok (.dmul, 1) := by decide +kernel
theorem dX4_ofEdge_23 : decode cX4_ofEdge 23 = .ok (.dreturn, 1) := by decide +kernel
theorem dX5_init_0 : decode cX5_init 0 = .ok (.aload_n 0, 1) := by decide +kernel
theorem dX5_init_1 : decode cX5_init 1 = .ok (.invokespecial 3, 3) := by decide +kernel
theorem dX5_init_4 : decode cX5_init 4 = .ok (.aload_n 0, 1) := by decide +kernel
theorem dX5_init_5 : decode cX5_init 5 = .ok (.iconst (-1), 1) := by decide +kernel
theorem dX5_init_6 : decode cX5_init 6 = .ok (.putfield 9, 3) := by decide +kernel
theorem dX5_init_9 : decode cX5_init 9 = .ok (.aload_n 0, 1) := by decide +kernel
theorem dX5_init_10 : decode cX5_init 10 = .ok (.iconst (-1), 1) := by decide +kernel
theorem dX5_init_11 : decode cX5_init 11 = .ok (.putfield 15, 3) := by decide +kernel
theorem dX5_init_14 : decode cX5_init 14 = .ok (.aload_n 0, 1) := by decide +kernel
theorem dX5_init_15 : decode cX5_init 15 = .ok (.iconst (-1), 1) := by decide +kernel
theorem dX5_init_16 : decode cX5_init 16 = .ok (.putfield 18, 3) := by decide +kernel
theorem dX5_init_19 : decode cX5_init 19 = .ok (.aload_n 0, 1) := by decide +kernel
theorem dX5_init_20 : decode cX5_init 20 = .ok (.iconst 1, 1) := by decide +kernel
theorem dX5_init_21 : decode cX5_init 21 = .ok (.putfield 21, 3) := by decide +kernel
theorem dX5_init_24 : decode cX5_init 24 = .ok (.aload_n 0, 1) := by decide +kernel
theorem dX5_init_25 : decode cX5_init 25 = .ok (.fconst 1, 1) := by decide +kernel
theorem dX5_init_26 : decode cX5_init 26 = .ok (.putfield 24, 3) := by decide +kernel
theorem dX5_init_29 : decode cX5_init 29 = .ok (.aload_n 0, 1) := by decide +kernel
theorem dX5_init_30 : decode cX5_init 30 = .ok (.aload_n 1, 1) := by decide +kernel
theorem dX5_init_31 : decode cX5_init 31 = .ok (.putfield 28, 3) := by decide +kernel
theorem dX5_init_34 : decode cX5_init 34 = .ok (.return_, 1) := by decide +kernel
theorem dX5_isStart_0 : decode cX5_isStart 0 = .ok (.aload_n 0, 1) := by decide +kernel
theorem dX5_isStart_1 : decode cX5_isStart 1 = .ok (.getfield 32, 3) := by decide +kernel
theorem dX5_isStart_4 : decode cX5_isStart 4 = .ok (.ifCond .eq 21, 3) := by decide +kernel
theorem dX5_isStart_7 : decode cX5_isStart 7 = .ok (.aload_n 0, 1) := by decide +kernel
theorem dX5_isStart_8 : decode cX5_isStart 8 = .ok (.getfield 32, 3) := by decide +kernel
theorem dX5_isStart_11 : decode cX5_isStart 11 = .ok (.bipush 6, 2) := by decide +kernel
theorem dX5_isStart_13 : decode cX5_isStart 13 = .ok (.if_icmp .eq 12, 3) := by decide +kernel
theorem dX5_isStart_16 : decode cX5_isStart 16 = .ok (.aload_n 0, 1) := by decide +kernel
theorem dX5_isStart_17 : decode cX5_isStart 17 = .ok (.getfield 32, 3) := by decide +kernel
theorem dX5_isStart_20 : decode cX5_isStart 20 = .ok (.bipush 7, 2) := by decide +kernel
theorem dX5_isStart_22 : decode cX5_isStart 22 = .ok (.if_icmp .ne 7, 3) := by decide +kernel
theorem dX5_isStart_25 : decode cX5_isStart 25 = .ok (.iconst 1, 1) := by decide +kernel
theorem dX5_isStart_26 : decode cX5_isStart 26 = .ok (.goto 4, 3) := by decide +kernel
theorem dX5_isStart_29 : decode cX5_isStart 29 = .ok (.iconst 0, 1) := by decide +kernel
theorem dX5_isStart_30 : decode cX5_isStart 30 = .ok (.ireturn, 1) := by decide +kernel
theorem dX5_isEndKind_0 : decode cX5_isEndKind 0 = .ok (.aload_n 0, 1) := by decide +kernel
theorem dX5_isEndKind_1 : decode cX5_isEndKind 1 = .ok (.getfield 32, 3) := by decide +kernel
theorem dX5_isEndKind_4 : decode cX5_isEndKind 4 = .ok (.bipush 6, 2) := by decide +kernel
theorem dX5_isEndKind_6 : decode cX5_isEndKind 6 = .ok (.if_icmp .eq 21, 3) := by decide +kernel
theorem dX5_isEndKind_9 : decode cX5_isEndKind 9 = .ok (.aload_n 0, 1) := by decide +kernel
theorem dX5_isEndKind_10 : decode cX5_isEndKind 10 = .ok (.getfield 32, 3) := by decide +kernel
theorem dX5_isEndKind_13 : decode cX5_isEndKind 13 = .ok (.bipush 7, 2) := by decide +kernel
theorem dX5_isEndKind_15 : decode cX5_isEndKind 15 = .ok (.if_icmp .eq 12, 3) := by decide +kernel
theorem dX5_isEndKind_18 : decode cX5_isEndKind 18 = .ok (.aload_n 0, 1) := by decide +kernel
theorem dX5_isEndKind_19 : decode cX5_isEndKind 19 = .ok (.getfield 32, 3) := by decide +kernel
theorem dX5_isEndKind_22 : decode cX5_isEndKind 22 = .ok (.bipush 8, 2) := by decide +kernel
theorem dX5_isEndKind_24 : decode cX5_isEndKind 24 = .ok (.if_icmp .ne 7, 3) := by decide +kernel
theorem dX5_isEndKind_27 : decode cX5_isEndKind 27 = .ok (.iconst 1, 1) := by decide +kernel
theorem dX5_isEndKind_28 : decode cX5_isEndKind 28 = .ok (.goto 4, 3) := by decide +kernel
theorem dX5_isEndKind_31 : decode cX5_isEndKind 31 = .ok (.iconst 0, 1) := by decide +kernel
theorem dX5_isEndKind_32 : decode cX5_isEndKind 32 = .ok (.ireturn, 1) := by decide +kernel
theorem dX5_isGate_0 : decode cX5_isGate 0 = .ok (.aload_n 0, 1) := by decide +kernel
theorem dX5_isGate_1 : decode cX5_isGate 1 = .ok (.getfield 32, 3) := by decide +kernel
theorem dX5_isGate_4 : decode cX5_isGate 4 = .ok (.iconst 1, 1) := by decide +kernel
theorem dX5_isGate_5 : decode cX5_isGate 5 = .ok (.if_icmp .lt 15, 3) := by decide +kernel
theorem dX5_isGate_8 : decode cX5_isGate 8 = .ok (.aload_n 0, 1) := by decide +kernel
theorem dX5_isGate_9 : decode cX5_isGate 9 = .ok (.getfield 32, 3) := by decide +kernel
theorem dX5_isGate_12 : decode cX5_isGate 12 = .ok (.iconst 5, 1) := by decide +kernel
theorem dX5_isGate_13 : decode cX5_isGate 13 = .ok (.if_icmp .gt 7, 3) := by decide +kernel
theorem dX5_isGate_16 : decode cX5_isGate 16 = .ok (.iconst 1, 1) := by decide +kernel
theorem dX5_isGate_17 : decode cX5_isGate 17 = .ok (.goto 4, 3) := by decide +kernel
theorem dX5_isGate_20 : decode cX5_isGate 20 = .ok (.iconst 0, 1) := by decide +kernel
theorem dX5_isGate_21 : decode cX5_isGate 21 = .ok (.ireturn, 1) := by decide +kernel
theorem dX5_lag_0 : decode cX5_lag 0 = .ok (.aload_n 0, 1) := by decide +kernel
theorem dX5_lag_1 : decode cX5_lag 1 = .ok (.getfield 28, 3) := by decide +kernel
theorem dX5_lag_4 : decode cX5_lag 4 = .ok (.getfield 35, 3) := by decide +kernel
theorem dX5_lag_7 : decode cX5_lag 7 = .ok (.aload_n 0, 1) := by decide +kernel
theorem dX5_lag_8 : decode cX5_lag 8 = .ok (.getfield 40, 3) := by decide +kernel
theorem dX5_lag_11 : decode cX5_lag 11 = .ok (.iadd, 1) := by decide +kernel
theorem dX5_lag_12 : decode cX5_lag 12 = .ok (.i2d, 1) := by decide +kernel
theorem dX5_lag_13 : decode cX5_lag 13 = .ok (.ldc2_w 43, 3) := by decide +kernel
theorem dX5_lag_16 : decode cX5_lag 16 = .ok (.dmul, 1) := by decide +kernel
theorem dX5_lag_17 : decode cX5_lag 17 = .ok (.dreturn, 1) := by decide +kernel
theorem dX5_makes_0 : decode cX5_makes 0 = .ok (.aload_n 0, 1) := by decide +kernel
theorem dX5_makes_1 : decode cX5_makes 1 = .ok (.getfield 32, 3) := by decide +kernel
theorem dX5_makes_4 : decode cX5_makes 4 = .ok (.iconst 5, 1) := by decide +kernel
theorem dX5_makes_5 : decode cX5_makes 5 = .ok (.if_icmp .ne 5, 3) := by decide +kernel
theorem dX5_makes_8 : decode cX5_makes 8 = .ok (.iconst 1, 1) := by decide +kernel
theorem dX5_makes_9 : decode cX5_makes 9 = .ok (.ireturn, 1) := by decide +kernel
theorem dX5_makes_10 : decode cX5_makes 10 = .ok (.aload_n 0, 1) := by decide +kernel
theorem dX5_makes_11 : decode cX5_makes 11 = .ok (.getfield 32, 3) := by decide +kernel
theorem dX5_makes_14 : decode cX5_makes 14 = .ok (.iconst 2, 1) := by decide +kernel
theorem dX5_makes_15 : decode cX5_makes 15 = .ok (.if_icmp .eq 11, 3) := by decide +kernel
theorem dX5_makes_18 : decode cX5_makes 18 = .ok (.aload_n 0, 1) := by decide +kernel
theorem dX5_makes_19 : decode cX5_makes 19 = .ok (.getfield 32, 3) := by decide +kernel
theorem dX5_makes_22 : decode cX5_makes 22 = .ok (.iconst 4, 1) := by decide +kernel
theorem dX5_makes_23 : decode cX5_makes 23 = .ok (.if_icmp .ne 7, 3) := by decide +kernel
theorem dX5_makes_26 : decode cX5_makes 26 = .ok (.iconst 1, 1) := by decide +kernel
theorem dX5_makes_27 : decode cX5_makes 27 = .ok (.goto 4, 3) := by decide +kernel
theorem dX5_makes_30 : decode cX5_makes 30 = .ok (.iconst 0, 1) := by decide +kernel
theorem dX5_makes_31 : decode cX5_makes 31 = .ok (.istore_n 3, 1) := by decide +kernel
theorem dX5_makes_32 : decode cX5_makes 32 = .ok (.iload_n 3, 1) := by decide +kernel
theorem dX5_makes_33 : decode cX5_makes 33 = .ok (.ifCond .eq 16, 3) := by decide +kernel
theorem dX5_makes_36 : decode cX5_makes 36 = .ok (.iload_n 1, 1) := by decide +kernel
theorem dX5_makes_37 : decode cX5_makes 37 = .ok (.iload_n 2, 1) := by decide +kernel
theorem dX5_makes_38 : decode cX5_makes 38 = .ok (.if_icmp .eq 7, 3) := by decide +kernel
theorem dX5_makes_41 : decode cX5_makes 41 = .ok (.iconst 1, 1) := by decide +kernel
theorem dX5_makes_42 : decode cX5_makes 42 = .ok (.goto 17, 3) := by decide +kernel
theorem dX5_makes_45 : decode cX5_makes 45 = .ok (.iconst 0, 1) := by decide +kernel
theorem dX5_makes_46 : decode cX5_makes 46 = .ok (.goto 13, 3) := by decide +kernel
theorem dX5_makes_49 : decode cX5_makes 49 = .ok (.iload_n 1, 1) := by decide +kernel
theorem dX5_makes_50 : decode cX5_makes 50 = .ok (.iload_n 2, 1) := by decide +kernel
theorem dX5_makes_51 : decode cX5_makes 51 = .ok (.if_icmp .ne 7, 3) := by decide +kernel
theorem dX5_makes_54 : decode cX5_makes 54 = .ok (.iconst 1, 1) := by decide +kernel
theorem dX5_makes_55 : decode cX5_makes 55 = .ok (.goto 4, 3) := by decide +kernel
theorem dX5_makes_58 : decode cX5_makes 58 = .ok (.iconst 0, 1) := by decide +kernel
theorem dX5_makes_59 : decode cX5_makes 59 = .ok (.ireturn, 1) := by decide +kernel
theorem dX5_tell_0 : decode cX5_tell 0 = .ok (.iload_n 1, 1) := by decide +kernel
theorem dX5_tell_1 : decode cX5_tell 1 = .ok (.tableswitch 60 0 4 #[35, 40, 45, 50, 55], 35) := by decide +kernel
theorem dX5_tell_36 : decode cX5_tell 36 = .ok (.aload_n 0, 1) := by decide +kernel
theorem dX5_tell_37 : decode cX5_tell 37 = .ok (.getfield 32, 3) := by decide +kernel
theorem dX5_tell_40 : decode cX5_tell 40 = .ok (.ireturn, 1) := by decide +kernel
theorem dX5_tell_41 : decode cX5_tell 41 = .ok (.aload_n 0, 1) := by decide +kernel
theorem dX5_tell_42 : decode cX5_tell 42 = .ok (.getfield 9, 3) := by decide +kernel
theorem dX5_tell_45 : decode cX5_tell 45 = .ok (.ireturn, 1) := by decide +kernel
theorem dX5_tell_46 : decode cX5_tell 46 = .ok (.aload_n 0, 1) := by decide +kernel
theorem dX5_tell_47 : decode cX5_tell 47 = .ok (.getfield 15, 3) := by decide +kernel
theorem dX5_tell_50 : decode cX5_tell 50 = .ok (.ireturn, 1) := by decide +kernel
theorem dX5_tell_51 : decode cX5_tell 51 = .ok (.aload_n 0, 1) := by decide +kernel
theorem dX5_tell_52 : decode cX5_tell 52 = .ok (.getfield 18, 3) := by decide +kernel
theorem dX5_tell_55 : decode cX5_tell 55 = .ok (.ireturn, 1) := by decide +kernel
theorem dX5_tell_56 : decode cX5_tell 56 = .ok (.aload_n 0, 1) := by decide +kernel
theorem dX5_tell_57 : decode cX5_tell 57 = .ok (.getfield 21, 3) := by decide +kernel
theorem dX5_tell_60 : decode cX5_tell 60 = .ok (.ireturn, 1) := by decide +kernel
theorem dX5_tell_61 : decode cX5_tell 61 = .ok (.aload_n 0, 1) := by decide +kernel
theorem dX5_tell_62 : decode cX5_tell 62 = .ok (.getfield 40, 3) := by decide +kernel
theorem dX5_tell_65 : decode cX5_tell 65 = .ok (.ireturn, 1) := by decide +kernel
theorem dX6_init_0 : decode cX6_init 0 = .ok (.aload_n 0, 1) := by decide +kernel
theorem dX6_init_1 : decode cX6_init 1 = .ok (.invokespecial 3, 3) := by decide +kernel
theorem dX6_init_4 : decode cX6_init 4 = .ok (.aload_n 0, 1) := by decide +kernel
theorem dX6_init_5 : decode cX6_init 5 = .ok (.bipush 16, 2) := by decide +kernel
theorem dX6_init_7 : decode cX6_init 7 = .ok (.newarray .int, 2) := by decide +kernel
theorem dX6_init_9 : decode cX6_init 9 = .ok (.putfield 9, 3) := by decide +kernel
theorem dX6_init_12 : decode cX6_init 12 = .ok (.aload_n 0, 1) := by decide +kernel
theorem dX6_init_13 : decode cX6_init 13 = .ok (.bipush 16, 2) := by decide +kernel
theorem dX6_init_15 : decode cX6_init 15 = .ok (.newarray .int, 2) := by decide +kernel
theorem dX6_init_17 : decode cX6_init 17 = .ok (.putfield 15, 3) := by decide +kernel
theorem dX6_init_20 : decode cX6_init 20 = .ok (.aload_n 0, 1) := by decide +kernel
theorem dX6_init_21 : decode cX6_init 21 = .ok (.sipush 256, 3) := by decide +kernel
theorem dX6_init_24 : decode cX6_init 24 = .ok (.newarray .int, 2) := by decide +kernel
theorem dX6_init_26 : decode cX6_init 26 = .ok (.putfield 18, 3) := by decide +kernel
theorem dX6_init_29 : decode cX6_init 29 = .ok (.aload_n 0, 1) := by decide +kernel
theorem dX6_init_30 : decode cX6_init 30 = .ok (.sipush 256, 3) := by decide +kernel
theorem dX6_init_33 : decode cX6_init 33 = .ok (.newarray .int, 2) := by decide +kernel
theorem dX6_init_35 : decode cX6_init 35 = .ok (.putfield 21, 3) := by decide +kernel
theorem dX6_init_38 : decode cX6_init 38 = .ok (.aload_n 0, 1) := by decide +kernel
theorem dX6_init_39 : decode cX6_init 39 = .ok (.aload_n 1, 1) := by decide +kernel
theorem dX6_init_40 : decode cX6_init 40 = .ok (.putfield 24, 3) := by decide +kernel
theorem dX6_init_43 : decode cX6_init 43 = .ok (.return_, 1) := by decide +kernel
theorem dX6_prepare_0 : decode cX6_prepare 0 = .ok (.aload_n 0, 1) := by decide +kernel
theorem dX6_prepare_1 : decode cX6_prepare 1 = .ok (.getfield 28, 3) := by decide +kernel
theorem dX6_prepare_4 : decode cX6_prepare 4 = .ok (.ifCond .eq 4, 3) := by decide +kernel
theorem dX6_prepare_7 : decode cX6_prepare 7 = .ok (.return_, 1) := by decide +kernel
theorem dX6_prepare_8 : decode cX6_prepare 8 = .ok (.iconst 0, 1) := by decide +kernel
theorem dX6_prepare_9 : decode cX6_prepare 9 = .ok (.istore_n 1, 1) := by decide +kernel
theorem dX6_prepare_10 : decode cX6_prepare 10 = .ok (.iload_n 1, 1) := by decide +kernel
theorem dX6_prepare_11 : decode cX6_prepare 11 = .ok (.aload_n 0, 1) := by decide +kernel
theorem dX6_prepare_12 : decode cX6_prepare 12 = .ok (.getfield 24, 3) := by decide +kernel
theorem dX6_prepare_15 : decode cX6_prepare 15 = .ok (.getfield 32, 3) := by decide +kernel
theorem dX6_prepare_18 : decode cX6_prepare 18 = .ok (.if_icmp .ge 113, 3) := by decide +kernel
theorem dX6_prepare_21 : decode cX6_prepare 21 = .ok (.aload_n 0, 1) := by decide +kernel
theorem dX6_prepare_22 : decode cX6_prepare 22 = .ok (.getfield 24, 3) := by decide +kernel
theorem dX6_prepare_25 : decode cX6_prepare 25 = .ok (.getfield 38, 3) := by decide +kernel
theorem dX6_prepare_28 : decode cX6_prepare 28 = .ok (.iload_n 1, 1) := by decide +kernel
theorem dX6_prepare_29 : decode cX6_prepare 29 = .ok (.aaload, 1) := by decide +kernel
theorem dX6_prepare_30 : decode cX6_prepare 30 = .ok (.astore_n 2, 1) := by decide +kernel
theorem dX6_prepare_31 : decode cX6_prepare 31 = .ok (.iconst 0, 1) := by decide +kernel
theorem dX6_prepare_32 : decode cX6_prepare 32 = .ok (.istore_n 3, 1) := by decide +kernel
theorem dX6_prepare_33 : decode cX6_prepare 33 = .ok (.iload_n 3, 1) := by decide +kernel
theorem dX6_prepare_34 : decode cX6_prepare 34 = .ok (.aload_n 0, 1) := by decide +kernel
theorem dX6_prepare_35 : decode cX6_prepare 35 = .ok (.getfield 24, 3) := by decide +kernel
theorem dX6_prepare_38 : decode cX6_prepare 38 = .ok (.getfield 32, 3) := by decide +kernel
theorem dX6_prepare_41 : decode cX6_prepare 41 = .ok (.if_icmp .ge 21, 3) := by decide +kernel
theorem dX6_prepare_44 : decode cX6_prepare 44 = .ok (.aload_n 0, 1) := by decide +kernel
theorem dX6_prepare_45 : decode cX6_prepare 45 = .ok (.getfield 18, 3) := by decide +kernel
theorem dX6_prepare_48 : decode cX6_prepare 48 = .ok (.iload_n 3, 1) := by decide +kernel
theorem dX6_prepare_49 : decode cX6_prepare 49 = .ok (.bipush 16, 2) := by decide +kernel
theorem dX6_prepare_51 : decode cX6_prepare 51 = .ok (.imul, 1) := by decide +kernel
theorem dX6_prepare_52 : decode cX6_prepare 52 = .ok (.iload_n 1, 1) := by decide +kernel
theorem dX6_prepare_53 : decode cX6_prepare 53 = .ok (.iadd, 1) := by decide +kernel
theorem dX6_prepare_54 : decode cX6_prepare 54 = .ok (.iconst 0, 1) := by decide +kernel
theorem dX6_prepare_55 : decode cX6_prepare 55 = .ok (.iastore, 1) := by decide +kernel
theorem dX6_prepare_56 : decode cX6_prepare 56 = .ok (.iinc 3 1, 3) := by decide +kernel
theorem dX6_prepare_59 : decode cX6_prepare 59 = .ok (.goto (-26), 3) := by decide +kernel
theorem dX6_prepare_62 : decode cX6_prepare 62 = .ok (.aload_n 0, 1) := by decide +kernel
theorem dX6_prepare_63 : decode cX6_prepare 63 = .ok (.getfield 9, 3) := by decide +kernel
theorem dX6_prepare_66 : decode cX6_prepare 66 = .ok (.iload_n 1, 1) := by decide +kernel
theorem dX6_prepare_67 : decode cX6_prepare 67 = .ok (.iconst 0, 1) := by decide +kernel
theorem dX6_prepare_68 : decode cX6_prepare 68 = .ok (.iastore, 1) := by decide +kernel
theorem dX6_prepare_69 : decode cX6_prepare 69 = .ok (.aload_n 2, 1) := by decide +kernel
theorem dX6_prepare_70 : decode cX6_prepare 70 = .ok (.invokevirtual 42, 3) := by decide +kernel
theorem dX6_prepare_73 : decode cX6_prepare 73 = .ok (.ifCond .eq 27, 3) := by decide +kernel
theorem dX6_prepare_76 : decode cX6_prepare 76 = .ok (.aload_n 0, 1) := by decide +kernel
theorem dX6_prepare_77 : decode cX6_prepare 77 = .ok (.getfield 9, 3) := by decide +kernel
theorem dX6_prepare_80 : decode cX6_prepare 80 = .ok (.iload_n 1, 1) := by decide +kernel
theorem dX6_prepare_81 : decode cX6_prepare 81 = .ok (.iconst 1, 1) := by decide +kernel
theorem dX6_prepare_82 : decode cX6_prepare 82 = .ok (.iload_n 1, 1) := by decide +kernel
theorem dX6_prepare_83 : decode cX6_prepare 83 = .ok (.ishl, 1) := by decide +kernel
theorem dX6_prepare_84 : decode cX6_prepare 84 = .ok (.iastore, 1) := by decide +kernel
theorem dX6_prepare_85 : decode cX6_prepare 85 = .ok (.aload_n 0, 1) := by decide +kernel
theorem dX6_prepare_86 : decode cX6_prepare 86 = .ok (.getfield 18, 3) := by decide +kernel
theorem dX6_prepare_89 : decode cX6_prepare 89 = .ok (.iload_n 1, 1) := by decide +kernel
theorem dX6_prepare_90 : decode cX6_prepare 90 = .ok (.bipush 16, 2) := by decide +kernel
theorem dX6_prepare_92 : decode cX6_prepare 92 = .ok (.imul, 1) := by decide +kernel
theorem dX6_prepare_93 : decode cX6_prepare 93 = .ok (.iload_n 1, 1) := by decide +kernel
theorem dX6_prepare_94 : decode cX6_prepare 94 = .ok (.iadd, 1) := by decide +kernel
theorem dX6_prepare_95 : decode cX6_prepare 95 = .ok (.iconst 1, 1) := by decide +kernel
theorem dX6_prepare_96 : decode cX6_prepare 96 = .ok (.iastore, 1) := by decide +kernel
theorem dX6_prepare_97 : decode cX6_prepare 97 = .ok (.goto 28, 3) := by decide +kernel
theorem dX6_prepare_100 : decode cX6_prepare 100 = .ok (.aload_n 2, 1) := by decide +kernel
theorem dX6_prepare_101 : decode cX6_prepare 101 = .ok (.invokevirtual 48, 3) := by decide +kernel
theorem dX6_prepare_104 : decode cX6_prepare 104 = .ok (.ifCond .eq 21, 3) := by decide +kernel
theorem dX6_prepare_107 : decode cX6_prepare 107 = .ok (.aload_n 0, 1) := by decide +kernel
theorem dX6_prepare_108 : decode cX6_prepare 108 = .ok (.iload_n 1, 1) := by decide +kernel
theorem dX6_prepare_109 : decode cX6_prepare 109 = .ok (.aload_n 2, 1) := by decide +kernel
theorem dX6_prepare_110 : decode cX6_prepare 110 = .ok (.getfield 51, 3) := by decide +kernel
theorem dX6_prepare_113 : decode cX6_prepare 113 = .ok (.invokevirtual 54, 3) := by decide +kernel
theorem dX6_prepare_116 : decode cX6_prepare 116 = .ok (.aload_n 0, 1) := by decide +kernel
theorem dX6_prepare_117 : decode cX6_prepare 117 = .ok (.iload_n 1, 1) := by decide +kernel
theorem dX6_prepare_118 : decode cX6_prepare 118 = .ok (.aload_n 2, 1) := by decide +kernel
theorem dX6_prepare_119 : decode cX6_prepare 119 = .ok (.getfield 58, 3) := by decide +kernel
theorem dX6_prepare_122 : decode cX6_prepare 122 = .ok (.invokevirtual 54, 3) := by decide +kernel
theorem dX6_prepare_125 : decode cX6_prepare 125 = .ok (.iinc 1 1, 3) := by decide +kernel
theorem dX6_prepare_128 : decode cX6_prepare 128 = .ok (.goto (-118), 3) := by decide +kernel
theorem dX6_prepare_131 : decode cX6_prepare 131 = .ok (.iconst 0, 1) := by decide +kernel
theorem dX6_prepare_132 : decode cX6_prepare 132 = .ok (.istore_n 1, 1) := by decide +kernel
theorem dX6_prepare_133 : decode cX6_prepare 133 = .ok (.iload_n 1, 1) := by decide +kernel
theorem dX6_prepare_134 : decode cX6_prepare 134 = .ok (.aload_n 0, 1) := by decide +kernel
theorem dX6_prepare_135 : decode cX6_prepare 135 = .ok (.getfield 24, 3) := by decide +kernel
theorem dX6_prepare_138 : decode cX6_prepare 138 = .ok (.getfield 32, 3) := by decide +kernel
theorem dX6_prepare_141 : decode cX6_prepare 141 = .ok (.if_icmp .ge 14, 3) := by decide +kernel
theorem dX6_prepare_144 : decode cX6_prepare 144 = .ok (.aload_n 0, 1) := by decide +kernel
theorem dX6_prepare_145 : decode cX6_prepare 145 = .ok (.iload_n 1, 1) := by decide +kernel
theorem dX6_prepare_146 : decode cX6_prepare 146 = .ok (.invokevirtual 61, 3) := by decide +kernel
theorem dX6_prepare_149 : decode cX6_prepare 149 = .ok (.iinc 1 1, 3) := by decide +kernel
theorem dX6_prepare_152 : decode cX6_prepare 152 = .ok (.goto (-19), 3) := by decide +kernel
theorem dX6_prepare_155 : decode cX6_prepare 155 = .ok (.aload_n 0, 1) := by decide +kernel
theorem dX6_prepare_156 : decode cX6_prepare 156 = .ok (.iconst 1, 1) := by decide +kernel
theorem dX6_prepare_157 : decode cX6_prepare 157 = .ok (.putfield 28, 3) := by decide +kernel
theorem dX6_prepare_160 : decode cX6_prepare 160 = .ok (.return_, 1) := by decide +kernel
theorem dX6_join_0 : decode cX6_join 0 = .ok (.aload_n 0, 1) := by decide +kernel
theorem dX6_join_1 : decode cX6_join 1 = .ok (.getfield 24, 3) := by decide +kernel
theorem dX6_join_4 : decode cX6_join 4 = .ok (.iload_n 2, 1) := by decide +kernel
theorem dX6_join_5 : decode cX6_join 5 = .ok (.invokevirtual 65, 3) := by decide +kernel
theorem dX6_join_8 : decode cX6_join 8 = .ok (.ifCond .ne 4, 3) := by decide +kernel
theorem dX6_join_11 : decode cX6_join 11 = .ok (.return_, 1) := by decide +kernel
theorem dX6_join_12 : decode cX6_join 12 = .ok (.aload_n 0, 1) := by decide +kernel
theorem dX6_join_13 : decode cX6_join 13 = .ok (.getfield 9, 3) := by decide +kernel
theorem dX6_join_16 : decode cX6_join 16 = .ok (.iload_n 1, 1) := by decide +kernel
theorem dX6_join_17 : decode cX6_join 17 = .ok (.dup2, 1) := by decide +kernel
theorem dX6_join_18 : decode cX6_join 18 = .ok (.iaload, 1) := by decide +kernel
theorem dX6_join_19 : decode cX6_join 19 = .ok (.aload_n 0, 1) := by decide +kernel
theorem dX6_join_20 : decode cX6_join 20 = .ok (.getfield 9, 3) := by decide +kernel
theorem dX6_join_23 : decode cX6_join 23 = .ok (.iload_n 2, 1) := by decide +kernel
theorem dX6_join_24 : decode cX6_join 24 = .ok (.iaload, 1) := by decide +kernel
theorem dX6_join_25 : decode cX6_join 25 = .ok (.ior, 1) := by decide +kernel
theorem dX6_join_26 : decode cX6_join 26 = .ok (.iastore, 1) := by decide +kernel
theorem dX6_join_27 : decode cX6_join 27 = .ok (.iconst 0, 1) := by decide +kernel
theorem dX6_join_28 : decode cX6_join 28 = .ok (.istore_n 3, 1) := by decide +kernel
theorem dX6_join_29 : decode cX6_join 29 = .ok (.iload_n 3, 1) := by decide +kernel
theorem dX6_join_30 : decode cX6_join 30 = .ok (.iload_n 2, 1) := by decide +kernel
theorem dX6_join_31 : decode cX6_join 31 = .ok (.if_icmp .gt 34, 3) := by decide +kernel
theorem dX6_join_34 : decode cX6_join 34 = .ok (.aload_n 0, 1) := by decide +kernel
theorem dX6_join_35 : decode cX6_join 35 = .ok (.getfield 18, 3) := by decide +kernel
theorem dX6_join_38 : decode cX6_join 38 = .ok (.iload_n 3, 1) := by decide +kernel
theorem dX6_join_39 : decode cX6_join 39 = .ok (.bipush 16, 2) := by decide +kernel
theorem dX6_join_41 : decode cX6_join 41 = .ok (.imul, 1) := by decide +kernel
theorem dX6_join_42 : decode cX6_join 42 = .ok (.iload_n 1, 1) := by decide +kernel
theorem dX6_join_43 : decode cX6_join 43 = .ok (.iadd, 1) := by decide +kernel
theorem dX6_join_44 : decode cX6_join 44 = .ok (.dup2, 1) := by decide +kernel
theorem dX6_join_45 : decode cX6_join 45 = .ok (.iaload, 1) := by decide +kernel
theorem dX6_join_46 : decode cX6_join 46 = .ok (.aload_n 0, 1) := by decide +kernel
theorem dX6_join_47 : decode cX6_join 47 = .ok (.getfield 18, 3) := by decide +kernel
theorem dX6_join_50 : decode cX6_join 50 = .ok (.iload_n 3, 1) := by decide +kernel
theorem dX6_join_51 : decode cX6_join 51 = .ok (.bipush 16, 2) := by decide +kernel
theorem dX6_join_53 : decode cX6_join 53 = .ok (.imul, 1) := by decide +kernel
theorem dX6_join_54 : decode cX6_join 54 = .ok (.iload_n 2, 1) := by decide +kernel
theorem dX6_join_55 : decode cX6_join 55 = .ok (.iadd, 1) := by decide +kernel
theorem dX6_join_56 : decode cX6_join 56 = .ok (.iaload, 1) := by decide +kernel
theorem dX6_join_57 : decode cX6_join 57 = .ok (.iadd, 1) := by decide +kernel
theorem dX6_join_58 : decode cX6_join 58 = .ok (.iastore, 1) := by decide +kernel
theorem dX6_join_59 : decode cX6_join 59 = .ok (.iinc 3 1, 3) := by decide +kernel
theorem dX6_join_62 : decode cX6_join 62 = .ok (.goto (-33), 3) := by decide +kernel
theorem dX6_join_65 : decode cX6_join 65 = .ok (.return_, 1) := by decide +kernel
theorem dX6_check_0 : decode cX6_check 0 = .ok (.aload_n 0, 1) := by decide +kernel
theorem dX6_check_1 : decode cX6_check 1 = .ok (.getfield 15, 3) := by decide +kernel
theorem dX6_check_4 : decode cX6_check 4 = .ok (.iload_n 1, 1) := by decide +kernel
theorem dX6_check_5 : decode cX6_check 5 = .ok (.iconst 0, 1) := by decide +kernel
theorem dX6_check_6 : decode cX6_check 6 = .ok (.iastore, 1) := by decide +kernel
theorem dX6_check_7 : decode cX6_check 7 = .ok (.iconst 0, 1) := by decide +kernel
theorem dX6_check_8 : decode cX6_check 8 = .ok (.istore_n 2, 1) := by decide +kernel
theorem dX6_check_9 : decode cX6_check 9 = .ok (.iload_n 2, 1) := by decide +kernel
theorem dX6_check_10 : decode cX6_check 10 = .ok (.aload_n 0, 1) := by decide +kernel
theorem dX6_check_11 : decode cX6_check 11 = .ok (.getfield 24, 3) := by decide +kernel
theorem dX6_check_14 : decode cX6_check 14 = .ok (.getfield 32, 3) := by decide +kernel
theorem dX6_check_17 : decode cX6_check 17 = .ok (.if_icmp .ge 102, 3) := by decide +kernel
theorem dX6_check_20 : decode cX6_check 20 = .ok (.aload_n 0, 1) := by decide +kernel
theorem dX6_check_21 : decode cX6_check 21 = .ok (.iload_n 2, 1) := by decide +kernel
theorem dX6_check_22 : decode cX6_check 22 = .ok (.iload_n 1, 1) := by decide +kernel
theorem dX6_check_23 : decode cX6_check 23 = .ok (.invokevirtual 69, 3) := by decide +kernel
theorem dX6_check_26 : decode cX6_check 26 = .ok (.ifCond .eq 87, 3) := by decide +kernel
theorem dX6_check_29 : decode cX6_check 29 = .ok (.aload_n 0, 1) := by decide +kernel
theorem dX6_check_30 : decode cX6_check 30 = .ok (.getfield 24, 3) := by decide +kernel
theorem dX6_check_33 : decode cX6_check 33 = .ok (.iload_n 2, 1) := by decide +kernel
theorem dX6_check_34 : decode cX6_check 34 = .ok (.iload_n 1, 1) := by decide +kernel
theorem dX6_check_35 : decode cX6_check 35 = .ok (.invokevirtual 73, 3) := by decide +kernel
theorem dX6_check_38 : decode cX6_check 38 = .ok (.ifCond .eq 75, 3) := by decide +kernel
theorem dX6_check_41 : decode cX6_check 41 = .ok (.aload_n 0, 1) := by decide +kernel
theorem dX6_check_42 : decode cX6_check 42 = .ok (.getfield 24, 3) := by decide +kernel
theorem dX6_check_45 : decode cX6_check 45 = .ok (.iload_n 2, 1) := by decide +kernel
theorem dX6_check_46 : decode cX6_check 46 = .ok (.iload_n 1, 1) := by decide +kernel
theorem dX6_check_47 : decode cX6_check 47 = .ok (.invokevirtual 76, 3) := by decide +kernel
theorem dX6_check_50 : decode cX6_check 50 = .ok (.istore_n 3, 1) := by decide +kernel
theorem dX6_check_51 : decode cX6_check 51 = .ok (.iload_n 3, 1) := by decide +kernel
theorem dX6_check_52 : decode cX6_check 52 = .ok (.iconst (-1), 1) := by decide +kernel
theorem dX6_check_53 : decode cX6_check 53 = .ok (.if_icmp .ne 7, 3) := by decide +kernel
theorem dX6_check_56 : decode cX6_check 56 = .ok (.iconst 1, 1) := by decide +kernel
theorem dX6_check_57 : decode cX6_check 57 = .ok (.goto 15, 3) := by decide +kernel
theorem dX6_check_60 : decode cX6_check 60 = .ok (.aload_n 0, 1) := by decide +kernel
theorem dX6_check_61 : decode cX6_check 61 = .ok (.getfield 24, 3) := by decide +kernel
theorem dX6_check_64 : decode cX6_check 64 = .ok (.getfield 80, 3) := by decide +kernel
theorem dX6_check_67 : decode cX6_check 67 = .ok (.iload_n 3, 1) := by decide +kernel
theorem dX6_check_68 : decode cX6_check 68 = .ok (.aaload, 1) := by decide +kernel
theorem dX6_check_69 : decode cX6_check 69 = .ok (.getfield 84, 3) := by decide +kernel
theorem dX6_check_72 : decode cX6_check 72 = .ok (.istore 4, 2) := by decide +kernel
theorem dX6_check_74 : decode cX6_check 74 = .ok (.iload 4, 2) := by decide +kernel
theorem dX6_check_76 : decode cX6_check 76 = .ok (.ifCond .eq 37, 3) := by decide +kernel
theorem dX6_check_79 : decode cX6_check 79 = .ok (.aload_n 0, 1) := by decide +kernel
theorem dX6_check_80 : decode cX6_check 80 = .ok (.getfield 15, 3) := by decide +kernel
theorem dX6_check_83 : decode cX6_check 83 = .ok (.iload_n 1, 1) := by decide +kernel
theorem dX6_check_84 : decode cX6_check 84 = .ok (.dup2, 1) := by decide +kernel
theorem dX6_check_85 : decode cX6_check 85 = .ok (.iaload, 1) := by decide +kernel
theorem dX6_check_86 : decode cX6_check 86 = .ok (.iconst 1, 1) := by decide +kernel
theorem dX6_check_87 : decode cX6_check 87 = .ok (.iload_n 2, 1) := by decide +kernel
theorem dX6_check_88 : decode cX6_check 88 = .ok (.ishl, 1) := by decide +kernel
theorem dX6_check_89 : decode cX6_check 89 = .ok (.ior, 1) := by decide +kernel
theorem dX6_check_90 : decode cX6_check 90 = .ok (.iastore, 1) := by decide +kernel
theorem dX6_check_91 : decode cX6_check 91 = .ok (.aload_n 0, 1) := by decide +kernel
theorem dX6_check_92 : decode cX6_check 92 = .ok (.getfield 21, 3) := by decide +kernel
theorem dX6_check_95 : decode cX6_check 95 = .ok (.iload_n 2, 1) := by decide +kernel
theorem dX6_check_96 : decode cX6_check 96 = .ok (.bipush 16, 2) := by decide +kernel
theorem dX6_check_98 : decode cX6_check 98 = .ok (.imul, 1) := by decide +kernel
theorem dX6_check_99 : decode cX6_check 99 = .ok (.iload_n 1, 1) := by decide +kernel
theorem dX6_check_100 : decode cX6_check 100 = .ok (.iadd, 1) := by decide +kernel
theorem dX6_check_101 : decode cX6_check 101 = .ok (.aload_n 0, 1) := by decide +kernel
theorem dX6_check_102 : decode cX6_check 102 = .ok (.getfield 24, 3) := by decide +kernel
theorem dX6_check_105 : decode cX6_check 105 = .ok (.iload_n 2, 1) := by decide +kernel
theorem dX6_check_106 : decode cX6_check 106 = .ok (.iload_n 1, 1) := by decide +kernel
theorem dX6_check_107 : decode cX6_check 107 = .ok (.iload 4, 2) := by decide +kernel
theorem dX6_check_109 : decode cX6_check 109 = .ok (.invokevirtual 89, 3) := by decide +kernel
theorem dX6_check_112 : decode cX6_check 112 = .ok (.iastore, 1) := by decide +kernel
theorem dX6_check_113 : decode cX6_check 113 = .ok (.iinc 2 1, 3) := by decide +kernel
theorem dX6_check_116 : decode cX6_check 116 = .ok (.goto (-107), 3) := by decide +kernel
theorem dX6_check_119 : decode cX6_check 119 = .ok (.return_, 1) := by decide +kernel
theorem dX6_reaches_0 : decode cX6_reaches 0 = .ok (.aload_n 0, 1) := by decide +kernel
theorem dX6_reaches_1 : decode cX6_reaches 1 = .ok (.getfield 9, 3) := by decide +kernel
theorem dX6_reaches_4 : decode cX6_reaches 4 = .ok (.iload_n 2, 1) := by decide +kernel
theorem dX6_reaches_5 : decode cX6_reaches 5 = .ok (.iaload, 1) := by decide +kernel
theorem dX6_reaches_6 : decode cX6_reaches 6 = .ok (.iload_n 1, 1) := by decide +kernel
theorem dX6_reaches_7 : decode cX6_reaches 7 = .ok (.ishr, 1) := by decide +kernel
theorem dX6_reaches_8 : decode cX6_reaches 8 = .ok (.iconst 1, 1) := by decide +kernel
theorem dX6_reaches_9 : decode cX6_reaches 9 = .ok (.iand, 1) := by decide +kernel
theorem dX6_reaches_10 : decode cX6_reaches 10 = .ok (.ifCond .eq 7, 3) := by decide +kernel
theorem dX6_reaches_13 : decode cX6_reaches 13 = .ok (.iconst 1, 1) := by decide +kernel
theorem dX6_reaches_14 : decode cX6_reaches 14 = .ok (.goto 4, 3) := by decide +kernel
theorem dX6_reaches_17 : decode cX6_reaches 17 = .ok (.iconst 0, 1) := by decide +kernel
theorem dX6_reaches_18 : decode cX6_reaches 18 = .ok (.ireturn, 1) := by decide +kernel
theorem dX6_comesTo_0 : decode cX6_comesTo 0 = .ok (.aload_n 0, 1) := by decide +kernel
theorem dX6_comesTo_1 : decode cX6_comesTo 1 = .ok (.getfield 24, 3) := by decide +kernel
theorem dX6_comesTo_4 : decode cX6_comesTo 4 = .ok (.getfield 38, 3) := by decide +kernel
theorem dX6_comesTo_7 : decode cX6_comesTo 7 = .ok (.iload_n 2, 1) := by decide +kernel
theorem dX6_comesTo_8 : decode cX6_comesTo 8 = .ok (.aaload, 1) := by decide +kernel
theorem dX6_comesTo_9 : decode cX6_comesTo 9 = .ok (.getfield 51, 3) := by decide +kernel
theorem dX6_comesTo_12 : decode cX6_comesTo 12 = .ok (.istore_n 3, 1) := by decide +kernel
theorem dX6_comesTo_13 : decode cX6_comesTo 13 = .ok (.aload_n 0, 1) := by decide +kernel
theorem dX6_comesTo_14 : decode cX6_comesTo 14 = .ok (.getfield 24, 3) := by decide +kernel
theorem dX6_comesTo_17 : decode cX6_comesTo 17 = .ok (.getfield 38, 3) := by decide +kernel
theorem dX6_comesTo_20 : decode cX6_comesTo 20 = .ok (.iload_n 2, 1) := by decide +kernel
theorem dX6_comesTo_21 : decode cX6_comesTo 21 = .ok (.aaload, 1) := by decide +kernel
theorem dX6_comesTo_22 : decode cX6_comesTo 22 = .ok (.invokevirtual 93, 3) := by decide +kernel
theorem dX6_comesTo_25 : decode cX6_comesTo 25 = .ok (.ifCond .eq 21, 3) := by decide +kernel
theorem dX6_comesTo_28 : decode cX6_comesTo 28 = .ok (.iload_n 3, 1) := by decide +kernel
theorem dX6_comesTo_29 : decode cX6_comesTo 29 = .ok (.iconst (-1), 1) := by decide +kernel
theorem dX6_comesTo_30 : decode cX6_comesTo 30 = .ok (.if_icmp .eq 16, 3) := by decide +kernel
theorem dX6_comesTo_33 : decode cX6_comesTo 33 = .ok (.aload_n 0, 1) := by decide +kernel
theorem dX6_comesTo_34 : decode cX6_comesTo 34 = .ok (.iload_n 1, 1) := by decide +kernel
theorem dX6_comesTo_35 : decode cX6_comesTo 35 = .ok (.iload_n 3, 1) := by decide +kernel
theorem dX6_comesTo_36 : decode cX6_comesTo 36 = .ok (.invokevirtual 96, 3) := by decide +kernel
theorem dX6_comesTo_39 : decode cX6_comesTo 39 = .ok (.ifCond .eq 7, 3) := by decide +kernel
theorem dX6_comesTo_42 : decode cX6_comesTo 42 = .ok (.iconst 1, 1) := by decide +kernel
theorem dX6_comesTo_43 : decode cX6_comesTo 43 = .ok (.goto 4, 3) := by decide +kernel
theorem dX6_comesTo_46 : decode cX6_comesTo 46 = .ok (.iconst 0, 1) := by decide +kernel
theorem dX6_comesTo_47 : decode cX6_comesTo 47 = .ok (.ireturn, 1) := by decide +kernel
theorem dX6_isChecked_0 : decode cX6_isChecked 0 = .ok (.aload_n 0, 1) := by decide +kernel
theorem dX6_isChecked_1 : decode cX6_isChecked 1 = .ok (.getfield 15, 3) := by decide +kernel
theorem dX6_isChecked_4 : decode cX6_isChecked 4 = .ok (.iload_n 2, 1) := by decide +kernel
theorem dX6_isChecked_5 : decode cX6_isChecked 5 = .ok (.iaload, 1) := by decide +kernel
theorem dX6_isChecked_6 : decode cX6_isChecked 6 = .ok (.iload_n 1, 1) := by decide +kernel
theorem dX6_isChecked_7 : decode cX6_isChecked 7 = .ok (.ishr, 1) := by decide +kernel
theorem dX6_isChecked_8 : decode cX6_isChecked 8 = .ok (.iconst 1, 1) := by decide +kernel
theorem dX6_isChecked_9 : decode cX6_isChecked 9 = .ok (.iand, 1) := by decide +kernel
theorem dX6_isChecked_10 : decode cX6_isChecked 10 = .ok (.ifCond .eq 7, 3) := by decide +kernel
theorem dX6_isChecked_13 : decode cX6_isChecked 13 = .ok (.iconst 1, 1) := by decide +kernel
theorem dX6_isChecked_14 : decode cX6_isChecked 14 = .ok (.goto 4, 3) := by decide +kernel
theorem dX6_isChecked_17 : decode cX6_isChecked 17 = .ok (.iconst 0, 1) := by decide +kernel
theorem dX6_isChecked_18 : decode cX6_isChecked 18 = .ok (.ireturn, 1) := by decide +kernel
theorem dX6_hasCheck_0 : decode cX6_hasCheck 0 = .ok (.aload_n 0, 1) := by decide +kernel
theorem dX6_hasCheck_1 : decode cX6_hasCheck 1 = .ok (.getfield 15, 3) := by decide +kernel
theorem dX6_hasCheck_4 : decode cX6_hasCheck 4 = .ok (.iload_n 1, 1) := by decide +kernel
theorem dX6_hasCheck_5 : decode cX6_hasCheck 5 = .ok (.iaload, 1) := by decide +kernel
theorem dX6_hasCheck_6 : decode cX6_hasCheck 6 = .ok (.ifCond .eq 7, 3) := by decide +kernel
theorem dX6_hasCheck_9 : decode cX6_hasCheck 9 = .ok (.iconst 1, 1) := by decide +kernel
theorem dX6_hasCheck_10 : decode cX6_hasCheck 10 = .ok (.goto 4, 3) := by decide +kernel
theorem dX6_hasCheck_13 : decode cX6_hasCheck 13 = .ok (.iconst 0, 1) := by decide +kernel
theorem dX6_hasCheck_14 : decode cX6_hasCheck 14 = .ok (.ireturn, 1) := by decide +kernel
theorem dX6_gapBetween_0 : decode cX6_gapBetween 0 = .ok (.aload_n 0, 1) := by decide +kernel
theorem dX6_gapBetween_1 : decode cX6_gapBetween 1 = .ok (.getfield 21, 3) := by decide +kernel
theorem dX6_gapBetween_4 : decode cX6_gapBetween 4 = .ok (.iload_n 1, 1) := by decide +kernel
theorem dX6_gapBetween_5 : decode cX6_gapBetween 5 = .ok (.bipush 16, 2) := by decide +kernel
theorem dX6_gapBetween_7 : decode cX6_gapBetween 7 = .ok (.imul, 1) := by decide +kernel
theorem dX6_gapBetween_8 : decode cX6_gapBetween 8 = .ok (.iload_n 2, 1) := by decide +kernel
theorem dX6_gapBetween_9 : decode cX6_gapBetween 9 = .ok (.iadd, 1) := by decide +kernel
theorem dX6_gapBetween_10 : decode cX6_gapBetween 10 = .ok (.iaload, 1) := by decide +kernel
theorem dX6_gapBetween_11 : decode cX6_gapBetween 11 = .ok (.ireturn, 1) := by decide +kernel
theorem dX6_waysTo_0 : decode cX6_waysTo 0 = .ok (.aload_n 0, 1) := by decide +kernel
theorem dX6_waysTo_1 : decode cX6_waysTo 1 = .ok (.getfield 18, 3) := by decide +kernel
theorem dX6_waysTo_4 : decode cX6_waysTo 4 = .ok (.iload_n 1, 1) := by decide +kernel
theorem dX6_waysTo_5 : decode cX6_waysTo 5 = .ok (.bipush 16, 2) := by decide +kernel
theorem dX6_waysTo_7 : decode cX6_waysTo 7 = .ok (.imul, 1) := by decide +kernel
theorem dX6_waysTo_8 : decode cX6_waysTo 8 = .ok (.iload_n 2, 1) := by decide +kernel
theorem dX6_waysTo_9 : decode cX6_waysTo 9 = .ok (.iadd, 1) := by decide +kernel
theorem dX6_waysTo_10 : decode cX6_waysTo 10 = .ok (.iaload, 1) := by decide +kernel
theorem dX6_waysTo_11 : decode cX6_waysTo 11 = .ok (.ireturn, 1) := by decide +kernel
theorem dX6_checkedPairs_0 : decode cX6_checkedPairs 0 = .ok (.iconst 0, 1) := by decide +kernel
theorem dX6_checkedPairs_1 : decode cX6_checkedPairs 1 = .ok (.istore_n 1, 1) := by decide +kernel
theorem dX6_checkedPairs_2 : decode cX6_checkedPairs 2 = .ok (.iconst 0, 1) := by decide +kernel
theorem dX6_checkedPairs_3 : decode cX6_checkedPairs 3 = .ok (.istore_n 2, 1) := by decide +kernel
theorem dX6_checkedPairs_4 : decode cX6_checkedPairs 4 = .ok (.iload_n 2, 1) := by decide +kernel
theorem dX6_checkedPairs_5 : decode cX6_checkedPairs 5 = .ok (.aload_n 0, 1) := by decide +kernel
theorem dX6_checkedPairs_6 : decode cX6_checkedPairs 6 = .ok (.getfield 24, 3) := by decide +kernel
theorem dX6_checkedPairs_9 : decode cX6_checkedPairs 9 = .ok (.getfield 32, 3) := by decide +kernel
theorem dX6_checkedPairs_12 : decode cX6_checkedPairs 12 = .ok (.if_icmp .ge 21, 3) := by decide +kernel
theorem dX6_checkedPairs_15 : decode cX6_checkedPairs 15 = .ok (.iload_n 1, 1) := by decide +kernel
theorem dX6_checkedPairs_16 : decode cX6_checkedPairs 16 = .ok (.aload_n 0, 1) := by decide +kernel
theorem dX6_checkedPairs_17 : decode cX6_checkedPairs 17 = .ok (.getfield 15, 3) := by decide +kernel
theorem dX6_checkedPairs_20 : decode cX6_checkedPairs 20 = .ok (.iload_n 2, 1) := by decide +kernel
theorem dX6_checkedPairs_21 : decode cX6_checkedPairs 21 = .ok (.iaload, 1) := by decide +kernel
theorem dX6_checkedPairs_22 : decode cX6_checkedPairs 22 = .ok (.invokestatic 99, 3) := by decide +kernel
theorem dX6_checkedPairs_25 : decode cX6_checkedPairs 25 = .ok (.iadd, 1) := by decide +kernel
theorem dX6_checkedPairs_26 : decode cX6_checkedPairs 26 = .ok (.istore_n 1, 1) := by decide +kernel
theorem dX6_checkedPairs_27 : decode cX6_checkedPairs 27 = .ok (.iinc 2 1, 3) := by decide +kernel
theorem dX6_checkedPairs_30 : decode cX6_checkedPairs 30 = .ok (.goto (-26), 3) := by decide +kernel
theorem dX6_checkedPairs_33 : decode cX6_checkedPairs 33 = .ok (.iload_n 1, 1) := by decide +kernel
theorem dX6_checkedPairs_34 : decode cX6_checkedPairs 34 = .ok (.ireturn, 1) := by decide +kernel
theorem dX6_crossings_0 : decode cX6_crossings 0 = .ok (.iconst 0, 1) := by decide +kernel
theorem dX6_crossings_1 : decode cX6_crossings 1 = .ok (.istore_n 2, 1) := by decide +kernel
theorem dX6_crossings_2 : decode cX6_crossings 2 = .ok (.iconst 0, 1) := by decide +kernel
theorem dX6_crossings_3 : decode cX6_crossings 3 = .ok (.istore_n 3, 1) := by decide +kernel
theorem dX6_crossings_4 : decode cX6_crossings 4 = .ok (.iload_n 3, 1) := by decide +kernel
theorem dX6_crossings_5 : decode cX6_crossings 5 = .ok (.aload_n 0, 1) := by decide +kernel
theorem dX6_crossings_6 : decode cX6_crossings 6 = .ok (.getfield 24, 3) := by decide +kernel
theorem dX6_crossings_9 : decode cX6_crossings 9 = .ok (.getfield 32, 3) := by decide +kernel
theorem dX6_crossings_12 : decode cX6_crossings 12 = .ok (.if_icmp .ge 70, 3) := by decide +kernel
theorem dX6_crossings_15 : decode cX6_crossings 15 = .ok (.iconst 0, 1) := by decide +kernel
theorem dX6_crossings_16 : decode cX6_crossings 16 = .ok (.istore 4, 2) := by decide +kernel
theorem dX6_crossings_18 : decode cX6_crossings 18 = .ok (.iload 4, 2) := by decide +kernel
theorem dX6_crossings_20 : decode cX6_crossings 20 = .ok (.aload_n 0, 1) := by decide +kernel
theorem dX6_crossings_21 : decode cX6_crossings 21 = .ok (.getfield 24, 3) := by decide +kernel
theorem dX6_crossings_24 : decode cX6_crossings 24 = .ok (.getfield 32, 3) := by decide +kernel
theorem dX6_crossings_27 : decode cX6_crossings 27 = .ok (.if_icmp .ge 49, 3) := by decide +kernel
theorem dX6_crossings_30 : decode cX6_crossings 30 = .ok (.aload_n 0, 1) := by decide +kernel
theorem dX6_crossings_31 : decode cX6_crossings 31 = .ok (.iload_n 3, 1) := by decide +kernel
theorem dX6_crossings_32 : decode cX6_crossings 32 = .ok (.iload 4, 2) := by decide +kernel
theorem dX6_crossings_34 : decode cX6_crossings 34 = .ok (.invokevirtual 69, 3) := by decide +kernel
theorem dX6_crossings_37 : decode cX6_crossings 37 = .ok (.ifCond .eq 33, 3) := by decide +kernel
theorem dX6_crossings_40 : decode cX6_crossings 40 = .ok (.aload_n 0, 1) := by decide +kernel
theorem dX6_crossings_41 : decode cX6_crossings 41 = .ok (.getfield 24, 3) := by decide +kernel
theorem dX6_crossings_44 : decode cX6_crossings 44 = .ok (.iload_n 3, 1) := by decide +kernel
theorem dX6_crossings_45 : decode cX6_crossings 45 = .ok (.iload 4, 2) := by decide +kernel
theorem dX6_crossings_47 : decode cX6_crossings 47 = .ok (.invokevirtual 73, 3) := by decide +kernel
theorem dX6_crossings_50 : decode cX6_crossings 50 = .ok (.ifCond .ne 20, 3) := by decide +kernel
theorem dX6_crossings_53 : decode cX6_crossings 53 = .ok (.iload_n 1, 1) := by decide +kernel
theorem dX6_crossings_54 : decode cX6_crossings 54 = .ok (.ifCond .eq 13, 3) := by decide +kernel
theorem dX6_crossings_57 : decode cX6_crossings 57 = .ok (.aload_n 0, 1) := by decide +kernel
theorem dX6_crossings_58 : decode cX6_crossings 58 = .ok (.iload_n 3, 1) := by decide +kernel
theorem dX6_crossings_59 : decode cX6_crossings 59 = .ok (.iload 4, 2) := by decide +kernel
theorem dX6_crossings_61 : decode cX6_crossings 61 = .ok (.invokevirtual 105, 3) := by decide +kernel
theorem dX6_crossings_64 : decode cX6_crossings 64 = .ok (.ifCond .eq 6, 3) := by decide +kernel
theorem dX6_crossings_67 : decode cX6_crossings 67 = .ok (.iinc 2 1, 3) := by decide +kernel
theorem dX6_crossings_70 : decode cX6_crossings 70 = .ok (.iinc 4 1, 3) := by decide +kernel
theorem dX6_crossings_73 : decode cX6_crossings 73 = .ok (.goto (-55), 3) := by decide +kernel
theorem dX6_crossings_76 : decode cX6_crossings 76 = .ok (.iinc 3 1, 3) := by decide +kernel
theorem dX6_crossings_79 : decode cX6_crossings 79 = .ok (.goto (-75), 3) := by decide +kernel
theorem dX6_crossings_82 : decode cX6_crossings 82 = .ok (.iload_n 2, 1) := by decide +kernel
theorem dX6_crossings_83 : decode cX6_crossings 83 = .ok (.ireturn, 1) := by decide +kernel
theorem dX6_isSafe_0 : decode cX6_isSafe 0 = .ok (.aload_n 0, 1) := by decide +kernel
theorem dX6_isSafe_1 : decode cX6_isSafe 1 = .ok (.getfield 24, 3) := by decide +kernel
theorem dX6_isSafe_4 : decode cX6_isSafe 4 = .ok (.getfield 38, 3) := by decide +kernel
theorem dX6_isSafe_7 : decode cX6_isSafe 7 = .ok (.iload_n 1, 1) := by decide +kernel
theorem dX6_isSafe_8 : decode cX6_isSafe 8 = .ok (.aaload, 1) := by decide +kernel
theorem dX6_isSafe_9 : decode cX6_isSafe 9 = .ok (.getfield 108, 3) := by decide +kernel
theorem dX6_isSafe_12 : decode cX6_isSafe 12 = .ok (.bipush 6, 2) := by decide +kernel
theorem dX6_isSafe_14 : decode cX6_isSafe 14 = .ok (.if_icmp .ne 40, 3) := by decide +kernel
theorem dX6_isSafe_17 : decode cX6_isSafe 17 = .ok (.aload_n 0, 1) := by decide +kernel
theorem dX6_isSafe_18 : decode cX6_isSafe 18 = .ok (.getfield 24, 3) := by decide +kernel
theorem dX6_isSafe_21 : decode cX6_isSafe 21 = .ok (.getfield 38, 3) := by decide +kernel
theorem dX6_isSafe_24 : decode cX6_isSafe 24 = .ok (.iload_n 2, 1) := by decide +kernel
theorem dX6_isSafe_25 : decode cX6_isSafe 25 = .ok (.aaload, 1) := by decide +kernel
theorem dX6_isSafe_26 : decode cX6_isSafe 26 = .ok (.getfield 108, 3) := by decide +kernel
theorem dX6_isSafe_29 : decode cX6_isSafe 29 = .ok (.bipush 6, 2) := by decide +kernel
theorem dX6_isSafe_31 : decode cX6_isSafe 31 = .ok (.if_icmp .ne 23, 3) := by decide +kernel
theorem dX6_isSafe_34 : decode cX6_isSafe 34 = .ok (.aload_n 0, 1) := by decide +kernel
theorem dX6_isSafe_35 : decode cX6_isSafe 35 = .ok (.getfield 24, 3) := by decide +kernel
theorem dX6_isSafe_38 : decode cX6_isSafe 38 = .ok (.getfield 38, 3) := by decide +kernel
theorem dX6_isSafe_41 : decode cX6_isSafe 41 = .ok (.iload_n 2, 1) := by decide +kernel
theorem dX6_isSafe_42 : decode cX6_isSafe 42 = .ok (.aaload, 1) := by decide +kernel
theorem dX6_isSafe_43 : decode cX6_isSafe 43 = .ok (.getfield 51, 3) := by decide +kernel
theorem dX6_isSafe_46 : decode cX6_isSafe 46 = .ok (.iload_n 1, 1) := by decide +kernel
theorem dX6_isSafe_47 : decode cX6_isSafe 47 = .ok (.if_icmp .ne 7, 3) := by decide +kernel
theorem dX6_isSafe_50 : decode cX6_isSafe 50 = .ok (.iconst 1, 1) := by decide +kernel
theorem dX6_isSafe_51 : decode cX6_isSafe 51 = .ok (.goto 4, 3) := by decide +kernel
theorem dX6_isSafe_54 : decode cX6_isSafe 54 = .ok (.iconst 0, 1) := by decide +kernel
theorem dX6_isSafe_55 : decode cX6_isSafe 55 = .ok (.ireturn, 1) := by decide +kernel
theorem dX7_init_0 : decode cX7_init 0 = .ok (.aload_n 0, 1) := by decide +kernel
theorem dX7_init_1 : decode cX7_init 1 = .ok (.invokespecial 3, 3) := by decide +kernel
theorem dX7_init_4 : decode cX7_init 4 = .ok (.aload_n 0, 1) := by decide +kernel
theorem dX7_init_5 : decode cX7_init 5 = .ok (.iconst (-1), 1) := by decide +kernel
theorem dX7_init_6 : decode cX7_init 6 = .ok (.putfield 9, 3) := by decide +kernel
theorem dX7_init_9 : decode cX7_init 9 = .ok (.aload_n 0, 1) := by decide +kernel
theorem dX7_init_10 : decode cX7_init 10 = .ok (.iconst (-1), 1) := by decide +kernel
theorem dX7_init_11 : decode cX7_init 11 = .ok (.putfield 15, 3) := by decide +kernel
theorem dX7_init_14 : decode cX7_init 14 = .ok (.return_, 1) := by decide +kernel
theorem dX7_fits_0 : decode cX7_fits 0 = .ok (.aload_n 0, 1) := by decide +kernel
theorem dX7_fits_1 : decode cX7_fits 1 = .ok (.getfield 9, 3) := by decide +kernel
theorem dX7_fits_4 : decode cX7_fits 4 = .ok (.iconst (-1), 1) := by decide +kernel
theorem dX7_fits_5 : decode cX7_fits 5 = .ok (.if_icmp .eq 11, 3) := by decide +kernel
theorem dX7_fits_8 : decode cX7_fits 8 = .ok (.aload_n 0, 1) := by decide +kernel
theorem dX7_fits_9 : decode cX7_fits 9 = .ok (.getfield 9, 3) := by decide +kernel
theorem dX7_fits_12 : decode cX7_fits 12 = .ok (.iload_n 1, 1) := by decide +kernel
theorem dX7_fits_13 : decode cX7_fits 13 = .ok (.if_icmp .ne 23, 3) := by decide +kernel
theorem dX7_fits_16 : decode cX7_fits 16 = .ok (.aload_n 0, 1) := by decide +kernel
theorem dX7_fits_17 : decode cX7_fits 17 = .ok (.getfield 15, 3) := by decide +kernel
theorem dX7_fits_20 : decode cX7_fits 20 = .ok (.iconst (-1), 1) := by decide +kernel
theorem dX7_fits_21 : decode cX7_fits 21 = .ok (.if_icmp .eq 11, 3) := by decide +kernel
theorem dX7_fits_24 : decode cX7_fits 24 = .ok (.aload_n 0, 1) := by decide +kernel
theorem dX7_fits_25 : decode cX7_fits 25 = .ok (.getfield 15, 3) := by decide +kernel
theorem dX7_fits_28 : decode cX7_fits 28 = .ok (.iload_n 2, 1) := by decide +kernel
theorem dX7_fits_29 : decode cX7_fits 29 = .ok (.if_icmp .ne 7, 3) := by decide +kernel
theorem dX7_fits_32 : decode cX7_fits 32 = .ok (.iconst 1, 1) := by decide +kernel
theorem dX7_fits_33 : decode cX7_fits 33 = .ok (.goto 4, 3) := by decide +kernel
theorem dX7_fits_36 : decode cX7_fits 36 = .ok (.iconst 0, 1) := by decide +kernel
theorem dX7_fits_37 : decode cX7_fits 37 = .ok (.ireturn, 1) := by decide +kernel
theorem dX7_weight_0 : decode cX7_weight 0 = .ok (.aload_n 0, 1) := by decide +kernel
theorem dX7_weight_1 : decode cX7_weight 1 = .ok (.getfield 18, 3) := by decide +kernel
theorem dX7_weight_4 : decode cX7_weight 4 = .ok (.ifCond .ne 7, 3) := by decide +kernel
theorem dX7_weight_7 : decode cX7_weight 7 = .ok (.iconst 4, 1) := by decide +kernel
theorem dX7_weight_8 : decode cX7_weight 8 = .ok (.goto 4, 3) := by decide +kernel
theorem dX7_weight_11 : decode cX7_weight 11 = .ok (.iconst 0, 1) := by decide +kernel
theorem dX7_weight_12 : decode cX7_weight 12 = .ok (.aload_n 0, 1) := by decide +kernel
theorem dX7_weight_13 : decode cX7_weight 13 = .ok (.getfield 9, 3) := by decide +kernel
theorem dX7_weight_16 : decode cX7_weight 16 = .ok (.iconst (-1), 1) := by decide +kernel
theorem dX7_weight_17 : decode cX7_weight 17 = .ok (.if_icmp .ne 7, 3) := by decide +kernel
theorem dX7_weight_20 : decode cX7_weight 20 = .ok (.iconst 0, 1) := by decide +kernel
theorem dX7_weight_21 : decode cX7_weight 21 = .ok (.goto 4, 3) := by decide +kernel
theorem dX7_weight_24 : decode cX7_weight 24 = .ok (.iconst 2, 1) := by decide +kernel
theorem dX7_weight_25 : decode cX7_weight 25 = .ok (.iadd, 1) := by decide +kernel
theorem dX7_weight_26 : decode cX7_weight 26 = .ok (.aload_n 0, 1) := by decide +kernel
theorem dX7_weight_27 : decode cX7_weight 27 = .ok (.getfield 15, 3) := by decide +kernel
theorem dX7_weight_30 : decode cX7_weight 30 = .ok (.iconst (-1), 1) := by decide +kernel
theorem dX7_weight_31 : decode cX7_weight 31 = .ok (.if_icmp .ne 7, 3) := by decide +kernel
theorem dX7_weight_34 : decode cX7_weight 34 = .ok (.iconst 0, 1) := by decide +kernel
theorem dX7_weight_35 : decode cX7_weight 35 = .ok (.goto 4, 3) := by decide +kernel
theorem dX7_weight_38 : decode cX7_weight 38 = .ok (.iconst 1, 1) := by decide +kernel
theorem dX7_weight_39 : decode cX7_weight 39 = .ok (.iadd, 1) := by decide +kernel
theorem dX7_weight_40 : decode cX7_weight 40 = .ok (.ireturn, 1) := by decide +kernel
theorem dX8_init_0 : decode cX8_init 0 = .ok (.aload_n 0, 1) := by decide +kernel
theorem dX8_init_1 : decode cX8_init 1 = .ok (.invokespecial 3, 3) := by decide +kernel
theorem dX8_init_4 : decode cX8_init 4 = .ok (.aload_n 0, 1) := by decide +kernel
theorem dX8_init_5 : decode cX8_init 5 = .ok (.sipush 512, 3) := by decide +kernel
theorem dX8_init_8 : decode cX8_init 8 = .ok (.newarray .double, 2) := by decide +kernel
theorem dX8_init_10 : decode cX8_init 10 = .ok (.putfield 9, 3) := by decide +kernel
theorem dX8_init_13 : decode cX8_init 13 = .ok (.aload_n 0, 1) := by decide +kernel
theorem dX8_init_14 : decode cX8_init 14 = .ok (.sipush 256, 3) := by decide +kernel
theorem dX8_init_17 : decode cX8_init 17 = .ok (.newarray .double, 2) := by decide +kernel
theorem dX8_init_19 : decode cX8_init 19 = .ok (.putfield 15, 3) := by decide +kernel
theorem dX8_init_22 : decode cX8_init 22 = .ok (.aload_n 0, 1) := by decide +kernel
theorem dX8_init_23 : decode cX8_init 23 = .ok (.bipush 16, 2) := by decide +kernel
theorem dX8_init_25 : decode cX8_init 25 = .ok (.newarray .double, 2) := by decide +kernel
theorem dX8_init_27 : decode cX8_init 27 = .ok (.putfield 18, 3) := by decide +kernel
theorem dX8_init_30 : decode cX8_init 30 = .ok (.aload_n 0, 1) := by decide +kernel
theorem dX8_init_31 : decode cX8_init 31 = .ok (.bipush 16, 2) := by decide +kernel
theorem dX8_init_33 : decode cX8_init 33 = .ok (.newarray .double, 2) := by decide +kernel
theorem dX8_init_35 : decode cX8_init 35 = .ok (.putfield 21, 3) := by decide +kernel
theorem dX8_init_38 : decode cX8_init 38 = .ok (.aload_n 0, 1) := by decide +kernel
theorem dX8_init_39 : decode cX8_init 39 = .ok (.aload_n 1, 1) := by decide +kernel
theorem dX8_init_40 : decode cX8_init 40 = .ok (.putfield 24, 3) := by decide +kernel
theorem dX8_init_43 : decode cX8_init 43 = .ok (.aload_n 0, 1) := by decide +kernel
theorem dX8_init_44 : decode cX8_init 44 = .ok (.aload_n 2, 1) := by decide +kernel
theorem dX8_init_45 : decode cX8_init 45 = .ok (.putfield 28, 3) := by decide +kernel
theorem dX8_init_48 : decode cX8_init 48 = .ok (.aload_n 0, 1) := by decide +kernel
theorem dX8_init_49 : decode cX8_init 49 = .ok (.aload_n 3, 1) := by decide +kernel
theorem dX8_init_50 : decode cX8_init 50 = .ok (.putfield 32, 3) := by decide +kernel
theorem dX8_init_53 : decode cX8_init 53 = .ok (.aload_n 0, 1) := by decide +kernel
theorem dX8_init_54 : decode cX8_init 54 = .ok (.iload 4, 2) := by decide +kernel
theorem dX8_init_56 : decode cX8_init 56 = .ok (.putfield 36, 3) := by decide +kernel
theorem dX8_init_59 : decode cX8_init 59 = .ok (.return_, 1) := by decide +kernel
theorem dX8_reckon_0 : decode cX8_reckon 0 = .ok (.iconst 0, 1) := by decide +kernel
theorem dX8_reckon_1 : decode cX8_reckon 1 = .ok (.istore_n 2, 1) := by decide +kernel
theorem dX8_reckon_2 : decode cX8_reckon 2 = .ok (.iload_n 2, 1) := by decide +kernel
theorem dX8_reckon_3 : decode cX8_reckon 3 = .ok (.aload_n 0, 1) := by decide +kernel
theorem dX8_reckon_4 : decode cX8_reckon 4 = .ok (.getfield 24, 3) := by decide +kernel
theorem dX8_reckon_7 : decode cX8_reckon 7 = .ok (.getfield 40, 3) := by decide +kernel
theorem dX8_reckon_10 : decode cX8_reckon 10 = .ok (.if_icmp .ge 70, 3) := by decide +kernel
theorem dX8_reckon_13 : decode cX8_reckon 13 = .ok (.aload_n 0, 1) := by decide +kernel
theorem dX8_reckon_14 : decode cX8_reckon 14 = .ok (.getfield 24, 3) := by decide +kernel
theorem dX8_reckon_17 : decode cX8_reckon 17 = .ok (.getfield 46, 3) := by decide +kernel
theorem dX8_reckon_20 : decode cX8_reckon 20 = .ok (.iload_n 2, 1) := by decide +kernel
theorem dX8_reckon_21 : decode cX8_reckon 21 = .ok (.aaload, 1) := by decide +kernel
theorem dX8_reckon_22 : decode cX8_reckon 22 = .ok (.astore_n 3, 1) := by decide +kernel
theorem dX8_reckon_23 : decode cX8_reckon 23 = .ok (.aload_n 0, 1) := by decide +kernel
theorem dX8_reckon_24 : decode cX8_reckon 24 = .ok (.getfield 21, 3) := by decide +kernel
theorem dX8_reckon_27 : decode cX8_reckon 27 = .ok (.iload_n 2, 1) := by decide +kernel
theorem dX8_reckon_28 : decode cX8_reckon 28 = .ok (.dconst 0, 1) := by decide +kernel
theorem dX8_reckon_29 : decode cX8_reckon 29 = .ok (.dastore, 1) := by decide +kernel
theorem dX8_reckon_30 : decode cX8_reckon 30 = .ok (.aload_n 3, 1) := by decide +kernel
theorem dX8_reckon_31 : decode cX8_reckon 31 = .ok (.getfield 50, 3) := by decide +kernel
theorem dX8_reckon_34 : decode cX8_reckon 34 = .ok (.bipush 7, 2) := by decide +kernel
theorem dX8_reckon_36 : decode cX8_reckon 36 = .ok (.if_icmp .ne 9, 3) := by decide +kernel
theorem dX8_reckon_39 : decode cX8_reckon 39 = .ok (.aload_n 0, 1) := by decide +kernel
theorem dX8_reckon_40 : decode cX8_reckon 40 = .ok (.iload_n 2, 1) := by decide +kernel
theorem dX8_reckon_41 : decode cX8_reckon 41 = .ok (.aload_n 1, 1) := by decide +kernel
theorem dX8_reckon_42 : decode cX8_reckon 42 = .ok (.invokevirtual 55, 3) := by decide +kernel
theorem dX8_reckon_45 : decode cX8_reckon 45 = .ok (.aload_n 3, 1) := by decide +kernel
theorem dX8_reckon_46 : decode cX8_reckon 46 = .ok (.invokevirtual 59, 3) := by decide +kernel
theorem dX8_reckon_49 : decode cX8_reckon 49 = .ok (.ifCond .eq 12, 3) := by decide +kernel
theorem dX8_reckon_52 : decode cX8_reckon 52 = .ok (.aload_n 0, 1) := by decide +kernel
theorem dX8_reckon_53 : decode cX8_reckon 53 = .ok (.iload_n 2, 1) := by decide +kernel
theorem dX8_reckon_54 : decode cX8_reckon 54 = .ok (.aload_n 1, 1) := by decide +kernel
theorem dX8_reckon_55 : decode cX8_reckon 55 = .ok (.invokevirtual 63, 3) := by decide +kernel
theorem dX8_reckon_58 : decode cX8_reckon 58 = .ok (.goto 16, 3) := by decide +kernel
theorem dX8_reckon_61 : decode cX8_reckon 61 = .ok (.aload_n 3, 1) := by decide +kernel
theorem dX8_reckon_62 : decode cX8_reckon 62 = .ok (.invokevirtual 66, 3) := by decide +kernel
theorem dX8_reckon_65 : decode cX8_reckon 65 = .ok (.ifCond .eq 9, 3) := by decide +kernel
theorem dX8_reckon_68 : decode cX8_reckon 68 = .ok (.aload_n 0, 1) := by decide +kernel
theorem dX8_reckon_69 : decode cX8_reckon 69 = .ok (.iload_n 2, 1) := by decide +kernel
theorem dX8_reckon_70 : decode cX8_reckon 70 = .ok (.aload_n 1, 1) := by decide +kernel
theorem dX8_reckon_71 : decode cX8_reckon 71 = .ok (.invokevirtual 69, 3) := by decide +kernel
theorem dX8_reckon_74 : decode cX8_reckon 74 = .ok (.iinc 2 1, 3) := by decide +kernel
theorem dX8_reckon_77 : decode cX8_reckon 77 = .ok (.goto (-75), 3) := by decide +kernel
theorem dX8_reckon_80 : decode cX8_reckon 80 = .ok (.iconst 0, 1) := by decide +kernel
theorem dX8_reckon_81 : decode cX8_reckon 81 = .ok (.istore_n 2, 1) := by decide +kernel
theorem dX8_reckon_82 : decode cX8_reckon 82 = .ok (.iload_n 2, 1) := by decide +kernel
theorem dX8_reckon_83 : decode cX8_reckon 83 = .ok (.aload_n 0, 1) := by decide +kernel
theorem dX8_reckon_84 : decode cX8_reckon 84 = .ok (.getfield 24, 3) := by decide +kernel
theorem dX8_reckon_87 : decode cX8_reckon 87 = .ok (.getfield 40, 3) := by decide +kernel
theorem dX8_reckon_90 : decode cX8_reckon 90 = .ok (.if_icmp .ge 49, 3) := by decide +kernel
theorem dX8_reckon_93 : decode cX8_reckon 93 = .ok (.aload_n 0, 1) := by decide +kernel
theorem dX8_reckon_94 : decode cX8_reckon 94 = .ok (.getfield 24, 3) := by decide +kernel
theorem dX8_reckon_97 : decode cX8_reckon 97 = .ok (.getfield 46, 3) := by decide +kernel
theorem dX8_reckon_100 : decode cX8_reckon 100 = .ok (.iload_n 2, 1) := by decide +kernel
theorem dX8_reckon_101 : decode cX8_reckon 101 = .ok (.aaload, 1) := by decide +kernel
theorem dX8_reckon_102 : decode cX8_reckon 102 = .ok (.getfield 50, 3) := by decide +kernel
theorem dX8_reckon_105 : decode cX8_reckon 105 = .ok (.bipush 6, 2) := by decide +kernel
theorem dX8_reckon_107 : decode cX8_reckon 107 = .ok (.if_icmp .eq 20, 3) := by decide +kernel
theorem dX8_reckon_110 : decode cX8_reckon 110 = .ok (.aload_n 0, 1) := by decide +kernel
theorem dX8_reckon_111 : decode cX8_reckon 111 = .ok (.getfield 24, 3) := by decide +kernel
theorem dX8_reckon_114 : decode cX8_reckon 114 = .ok (.getfield 46, 3) := by decide +kernel
theorem dX8_reckon_117 : decode cX8_reckon 117 = .ok (.iload_n 2, 1) := by decide +kernel
theorem dX8_reckon_118 : decode cX8_reckon 118 = .ok (.aaload, 1) := by decide +kernel
theorem dX8_reckon_119 : decode cX8_reckon 119 = .ok (.getfield 50, 3) := by decide +kernel
theorem dX8_reckon_122 : decode cX8_reckon 122 = .ok (.bipush 8, 2) := by decide +kernel
theorem dX8_reckon_124 : decode cX8_reckon 124 = .ok (.if_icmp .ne 9, 3) := by decide +kernel
theorem dX8_reckon_127 : decode cX8_reckon 127 = .ok (.aload_n 0, 1) := by decide +kernel
theorem dX8_reckon_128 : decode cX8_reckon 128 = .ok (.iload_n 2, 1) := by decide +kernel
theorem dX8_reckon_129 : decode cX8_reckon 129 = .ok (.aload_n 1, 1) := by decide +kernel
theorem dX8_reckon_130 : decode cX8_reckon 130 = .ok (.invokevirtual 55, 3) := by decide +kernel
theorem dX8_reckon_133 : decode cX8_reckon 133 = .ok (.iinc 2 1, 3) := by decide +kernel
theorem dX8_reckon_136 : decode cX8_reckon 136 = .ok (.goto (-54), 3) := by decide +kernel
theorem dX8_reckon_139 : decode cX8_reckon 139 = .ok (.aload_n 0, 1) := by decide +kernel
theorem dX8_reckon_140 : decode cX8_reckon 140 = .ok (.iconst 1, 1) := by decide +kernel
theorem dX8_reckon_141 : decode cX8_reckon 141 = .ok (.putfield 72, 3) := by decide +kernel
theorem dX8_reckon_144 : decode cX8_reckon 144 = .ok (.return_, 1) := by decide +kernel
theorem dX8_delayOf_0 : decode cX8_delayOf 0 = .ok (.aload_n 0, 1) := by decide +kernel
theorem dX8_delayOf_1 : decode cX8_delayOf 1 = .ok (.getfield 36, 3) := by decide +kernel
theorem dX8_delayOf_4 : decode cX8_delayOf 4 = .ok (.ifCond .eq 10, 3) := by decide +kernel
theorem dX8_delayOf_7 : decode cX8_delayOf 7 = .ok (.aload_n 3, 1) := by decide +kernel
theorem dX8_delayOf_8 : decode cX8_delayOf 8 = .ok (.getfield 75, 3) := by decide +kernel
theorem dX8_delayOf_11 : decode cX8_delayOf 11 = .ok (.goto 7, 3) := by decide +kernel
theorem dX8_delayOf_14 : decode cX8_delayOf 14 = .ok (.aload_n 3, 1) := by decide +kernel
theorem dX8_delayOf_15 : decode cX8_delayOf 15 = .ok (.getfield 81, 3) := by decide +kernel
theorem dX8_delayOf_18 : decode cX8_delayOf 18 = .ok (.aload_n 0, 1) := by decide +kernel
theorem dX8_delayOf_19 : decode cX8_delayOf 19 = .ok (.getfield 32, 3) := by decide +kernel
theorem dX8_delayOf_22 : decode cX8_delayOf 22 = .ok (.iload_n 1, 1) := by decide +kernel
theorem dX8_delayOf_23 : decode cX8_delayOf 23 = .ok (.iload_n 2, 1) := by decide +kernel
theorem dX8_delayOf_24 : decode cX8_delayOf 24 = .ok (.invokevirtual 84, 3) := by decide +kernel
theorem dX8_delayOf_27 : decode cX8_delayOf 27 = .ok (.dmul, 1) := by decide +kernel
theorem dX8_delayOf_28 : decode cX8_delayOf 28 = .ok (.dreturn, 1) := by decide +kernel
theorem dX8_depart_0 : decode cX8_depart 0 = .ok (.iconst 0, 1) := by decide +kernel
theorem dX8_depart_1 : decode cX8_depart 1 = .ok (.istore_n 3, 1) := by decide +kernel
theorem dX8_depart_2 : decode cX8_depart 2 = .ok (.iload_n 3, 1) := by decide +kernel
theorem dX8_depart_3 : decode cX8_depart 3 = .ok (.iconst 1, 1) := by decide +kernel
theorem dX8_depart_4 : decode cX8_depart 4 = .ok (.if_icmp .gt 38, 3) := by decide +kernel
theorem dX8_depart_7 : decode cX8_depart 7 = .ok (.aload_n 0, 1) := by decide +kernel
theorem dX8_depart_8 : decode cX8_depart 8 = .ok (.getfield 9, 3) := by decide +kernel
theorem dX8_depart_11 : decode cX8_depart 11 = .ok (.iload_n 1, 1) := by decide +kernel
theorem dX8_depart_12 : decode cX8_depart 12 = .ok (.bipush 32, 2) := by decide +kernel
theorem dX8_depart_14 : decode cX8_depart 14 = .ok (.imul, 1) := by decide +kernel
theorem dX8_depart_15 : decode cX8_depart 15 = .ok (.iload_n 1, 1) := by decide +kernel
theorem dX8_depart_16 : decode cX8_depart 16 = .ok (.iconst 2, 1) := by decide +kernel
theorem dX8_depart_17 : decode cX8_depart 17 = .ok (.imul, 1) := by decide +kernel
theorem dX8_depart_18 : decode cX8_depart 18 = .ok (.iadd, 1) := by decide +kernel
theorem dX8_depart_19 : decode cX8_depart 19 = .ok (.iload_n 3, 1) := by decide +kernel
theorem dX8_depart_20 : decode cX8_depart 20 = .ok (.iadd, 1) := by decide +kernel
theorem dX8_depart_21 : decode cX8_depart 21 = .ok (.aload_n 0, 1) := by decide +kernel
theorem dX8_depart_22 : decode cX8_depart 22 = .ok (.getfield 21, 3) := by decide +kernel
theorem dX8_depart_25 : decode cX8_depart 25 = .ok (.iload_n 1, 1) := by decide +kernel
theorem dX8_depart_26 : decode cX8_depart 26 = .ok (.daload, 1) := by decide +kernel
theorem dX8_depart_27 : decode cX8_depart 27 = .ok (.aload_n 0, 1) := by decide +kernel
theorem dX8_depart_28 : decode cX8_depart 28 = .ok (.iload_n 1, 1) := by decide +kernel
theorem dX8_depart_29 : decode cX8_depart 29 = .ok (.iload_n 3, 1) := by decide +kernel
theorem dX8_depart_30 : decode cX8_depart 30 = .ok (.aload_n 2, 1) := by decide +kernel
theorem dX8_depart_31 : decode cX8_depart 31 = .ok (.invokevirtual 90, 3) := by decide +kernel
theorem dX8_depart_34 : decode cX8_depart 34 = .ok (.dadd, 1) := by decide +kernel
theorem dX8_depart_35 : decode cX8_depart 35 = .ok (.dastore, 1) := by decide +kernel
theorem dX8_depart_36 : decode cX8_depart 36 = .ok (.iinc 3 1, 3) := by decide +kernel
theorem dX8_depart_39 : decode cX8_depart 39 = .ok (.goto (-37), 3) := by decide +kernel
theorem dX8_depart_42 : decode cX8_depart 42 = .ok (.return_, 1) := by decide +kernel
theorem dX8_pass_0 : decode cX8_pass 0 = .ok (.iconst 0, 1) := by decide +kernel
theorem dX8_pass_1 : decode cX8_pass 1 = .ok (.istore_n 3, 1) := by decide +kernel
theorem dX8_pass_2 : decode cX8_pass 2 = .ok (.iload_n 3, 1) := by decide +kernel
theorem dX8_pass_3 : decode cX8_pass 3 = .ok (.iconst 1, 1) := by decide +kernel
theorem dX8_pass_4 : decode cX8_pass 4 = .ok (.if_icmp .gt 102, 3) := by decide +kernel
theorem dX8_pass_7 : decode cX8_pass 7 = .ok (.iload_n 1, 1) := by decide +kernel
theorem dX8_pass_8 : decode cX8_pass 8 = .ok (.iconst 2, 1) := by decide +kernel
theorem dX8_pass_9 : decode cX8_pass 9 = .ok (.imul, 1) := by decide +kernel
theorem dX8_pass_10 : decode cX8_pass 10 = .ok (.iload_n 3, 1) := by decide +kernel
theorem dX8_pass_11 : decode cX8_pass 11 = .ok (.iadd, 1) := by decide +kernel
theorem dX8_pass_12 : decode cX8_pass 12 = .ok (.istore 4, 2) := by decide +kernel
theorem dX8_pass_14 : decode cX8_pass 14 = .ok (.aload_n 0, 1) := by decide +kernel
theorem dX8_pass_15 : decode cX8_pass 15 = .ok (.iload_n 1, 1) := by decide +kernel
theorem dX8_pass_16 : decode cX8_pass 16 = .ok (.iload_n 3, 1) := by decide +kernel
theorem dX8_pass_17 : decode cX8_pass 17 = .ok (.aload_n 2, 1) := by decide +kernel
theorem dX8_pass_18 : decode cX8_pass 18 = .ok (.invokevirtual 90, 3) := by decide +kernel
theorem dX8_pass_21 : decode cX8_pass 21 = .ok (.dstore 5, 2) := by decide +kernel
theorem dX8_pass_23 : decode cX8_pass 23 = .ok (.iconst 0, 1) := by decide +kernel
theorem dX8_pass_24 : decode cX8_pass 24 = .ok (.istore 7, 2) := by decide +kernel
theorem dX8_pass_26 : decode cX8_pass 26 = .ok (.iload 7, 2) := by decide +kernel
theorem dX8_pass_28 : decode cX8_pass 28 = .ok (.iload_n 1, 1) := by decide +kernel
theorem dX8_pass_29 : decode cX8_pass 29 = .ok (.if_icmp .ge 71, 3) := by decide +kernel
theorem dX8_pass_32 : decode cX8_pass 32 = .ok (.aload_n 0, 1) := by decide +kernel
theorem dX8_pass_33 : decode cX8_pass 33 = .ok (.getfield 28, 3) := by decide +kernel
theorem dX8_pass_36 : decode cX8_pass 36 = .ok (.iload 7, 2) := by decide +kernel
theorem dX8_pass_38 : decode cX8_pass 38 = .ok (.iload_n 1, 1) := by decide +kernel
theorem dX8_pass_39 : decode cX8_pass 39 = .ok (.invokevirtual 94, 3) := by decide +kernel
theorem dX8_pass_42 : decode cX8_pass 42 = .ok (.ifCond .eq 14, 3) := by decide +kernel
theorem dX8_pass_45 : decode cX8_pass 45 = .ok (.aload_n 0, 1) := by decide +kernel
theorem dX8_pass_46 : decode cX8_pass 46 = .ok (.iload 7, 2) := by decide +kernel
theorem dX8_pass_48 : decode cX8_pass 48 = .ok (.iload 4, 2) := by decide +kernel
theorem dX8_pass_50 : decode cX8_pass 50 = .ok (.invokevirtual 100, 3) := by decide +kernel
theorem dX8_pass_53 : decode cX8_pass 53 = .ok (.goto 4, 3) := by decide +kernel
theorem dX8_pass_56 : decode cX8_pass 56 = .ok (.iconst (-1), 1) := by decide +kernel
theorem dX8_pass_57 : decode cX8_pass 57 = .ok (.istore 8, 2) := by decide +kernel
theorem dX8_pass_59 : decode cX8_pass 59 = .ok (.iload 8, 2) := by decide +kernel
theorem dX8_pass_61 : decode cX8_pass 61 = .ok (.iconst (-1), 1) := by decide +kernel
theorem dX8_pass_62 : decode cX8_pass 62 = .ok (.if_icmp .eq 32, 3) := by decide +kernel
theorem dX8_pass_65 : decode cX8_pass 65 = .ok (.aload_n 0, 1) := by decide +kernel
theorem dX8_pass_66 : decode cX8_pass 66 = .ok (.getfield 9, 3) := by decide +kernel
theorem dX8_pass_69 : decode cX8_pass 69 = .ok (.iload 7, 2) := by decide +kernel
theorem dX8_pass_71 : decode cX8_pass 71 = .ok (.bipush 32, 2) := by decide +kernel
theorem dX8_pass_73 : decode cX8_pass 73 = .ok (.imul, 1) := by decide +kernel
theorem dX8_pass_74 : decode cX8_pass 74 = .ok (.iload 4, 2) := by decide +kernel
theorem dX8_pass_76 : decode cX8_pass 76 = .ok (.iadd, 1) := by decide +kernel
theorem dX8_pass_77 : decode cX8_pass 77 = .ok (.aload_n 0, 1) := by decide +kernel
theorem dX8_pass_78 : decode cX8_pass 78 = .ok (.getfield 9, 3) := by decide +kernel
theorem dX8_pass_81 : decode cX8_pass 81 = .ok (.iload 7, 2) := by decide +kernel
theorem dX8_pass_83 : decode cX8_pass 83 = .ok (.bipush 32, 2) := by decide +kernel
theorem dX8_pass_85 : decode cX8_pass 85 = .ok (.imul, 1) := by decide +kernel
theorem dX8_pass_86 : decode cX8_pass 86 = .ok (.iload 8, 2) := by decide +kernel
theorem dX8_pass_88 : decode cX8_pass 88 = .ok (.iadd, 1) := by decide +kernel
theorem dX8_pass_89 : decode cX8_pass 89 = .ok (.daload, 1) := by decide +kernel
theorem dX8_pass_90 : decode cX8_pass 90 = .ok (.dload 5, 2) := by decide +kernel
theorem dX8_pass_92 : decode cX8_pass 92 = .ok (.dadd, 1) := by decide +kernel
theorem dX8_pass_93 : decode cX8_pass 93 = .ok (.dastore, 1) := by decide +kernel
theorem dX8_pass_94 : decode cX8_pass 94 = .ok (.iinc 7 1, 3) := by decide +kernel
theorem dX8_pass_97 : decode cX8_pass 97 = .ok (.goto (-71), 3) := by decide +kernel
theorem dX8_pass_100 : decode cX8_pass 100 = .ok (.iinc 3 1, 3) := by decide +kernel
theorem dX8_pass_103 : decode cX8_pass 103 = .ok (.goto (-101), 3) := by decide +kernel
theorem dX8_pass_106 : decode cX8_pass 106 = .ok (.return_, 1) := by decide +kernel
theorem dX8_sourceOf_0 : decode cX8_sourceOf 0 = .ok (.aload_n 0, 1) := by decide +kernel
theorem dX8_sourceOf_1 : decode cX8_sourceOf 1 = .ok (.getfield 24, 3) := by decide +kernel
theorem dX8_sourceOf_4 : decode cX8_sourceOf 4 = .ok (.getfield 46, 3) := by decide +kernel
theorem dX8_sourceOf_7 : decode cX8_sourceOf 7 = .ok (.iload_n 2, 1) := by decide +kernel
theorem dX8_sourceOf_8 : decode cX8_sourceOf 8 = .ok (.iconst 2, 1) := by decide +kernel
theorem dX8_sourceOf_9 : decode cX8_sourceOf 9 = .ok (.idiv, 1) := by decide +kernel
theorem dX8_sourceOf_10 : decode cX8_sourceOf 10 = .ok (.aaload, 1) := by decide +kernel
theorem dX8_sourceOf_11 : decode cX8_sourceOf 11 = .ok (.astore_n 3, 1) := by decide +kernel
theorem dX8_sourceOf_12 : decode cX8_sourceOf 12 = .ok (.iconst (-1), 1) := by decide +kernel
theorem dX8_sourceOf_13 : decode cX8_sourceOf 13 = .ok (.istore 4, 2) := by decide +kernel
theorem dX8_sourceOf_15 : decode cX8_sourceOf 15 = .ok (.iconst 0, 1) := by decide +kernel
theorem dX8_sourceOf_16 : decode cX8_sourceOf 16 = .ok (.istore 5, 2) := by decide +kernel
theorem dX8_sourceOf_18 : decode cX8_sourceOf 18 = .ok (.iload 5, 2) := by decide +kernel
theorem dX8_sourceOf_20 : decode cX8_sourceOf 20 = .ok (.iconst 2, 1) := by decide +kernel
theorem dX8_sourceOf_21 : decode cX8_sourceOf 21 = .ok (.if_icmp .ge 116, 3) := by decide +kernel
theorem dX8_sourceOf_24 : decode cX8_sourceOf 24 = .ok (.iload 5, 2) := by decide +kernel
theorem dX8_sourceOf_26 : decode cX8_sourceOf 26 = .ok (.ifCond .ne 10, 3) := by decide +kernel
theorem dX8_sourceOf_29 : decode cX8_sourceOf 29 = .ok (.aload_n 3, 1) := by decide +kernel
theorem dX8_sourceOf_30 : decode cX8_sourceOf 30 = .ok (.getfield 104, 3) := by decide +kernel
theorem dX8_sourceOf_33 : decode cX8_sourceOf 33 = .ok (.goto 7, 3) := by decide +kernel
theorem dX8_sourceOf_36 : decode cX8_sourceOf 36 = .ok (.aload_n 3, 1) := by decide +kernel
theorem dX8_sourceOf_37 : decode cX8_sourceOf 37 = .ok (.getfield 107, 3) := by decide +kernel
theorem dX8_sourceOf_40 : decode cX8_sourceOf 40 = .ok (.istore 6, 2) := by decide +kernel
theorem dX8_sourceOf_42 : decode cX8_sourceOf 42 = .ok (.iconst 0, 1) := by decide +kernel
theorem dX8_sourceOf_43 : decode cX8_sourceOf 43 = .ok (.istore 7, 2) := by decide +kernel
theorem dX8_sourceOf_45 : decode cX8_sourceOf 45 = .ok (.iload 7, 2) := by decide +kernel
theorem dX8_sourceOf_47 : decode cX8_sourceOf 47 = .ok (.iconst 1, 1) := by decide +kernel
theorem dX8_sourceOf_48 : decode cX8_sourceOf 48 = .ok (.if_icmp .gt 83, 3) := by decide +kernel
theorem dX8_sourceOf_51 : decode cX8_sourceOf 51 = .ok (.iload 6, 2) := by decide +kernel
theorem dX8_sourceOf_53 : decode cX8_sourceOf 53 = .ok (.iconst (-1), 1) := by decide +kernel
theorem dX8_sourceOf_54 : decode cX8_sourceOf 54 = .ok (.if_icmp .eq 77, 3) := by decide +kernel
theorem dX8_sourceOf_57 : decode cX8_sourceOf 57 = .ok (.aload_n 0, 1) := by decide +kernel
theorem dX8_sourceOf_58 : decode cX8_sourceOf 58 = .ok (.getfield 28, 3) := by decide +kernel
theorem dX8_sourceOf_61 : decode cX8_sourceOf 61 = .ok (.iload_n 1, 1) := by decide +kernel
theorem dX8_sourceOf_62 : decode cX8_sourceOf 62 = .ok (.iload 6, 2) := by decide +kernel
theorem dX8_sourceOf_64 : decode cX8_sourceOf 64 = .ok (.invokevirtual 94, 3) := by decide +kernel
theorem dX8_sourceOf_67 : decode cX8_sourceOf 67 = .ok (.ifCond .eq 19, 3) := by decide +kernel
theorem dX8_sourceOf_70 : decode cX8_sourceOf 70 = .ok (.aload_n 3, 1) := by decide +kernel
theorem dX8_sourceOf_71 : decode cX8_sourceOf 71 = .ok (.iload 7, 2) := by decide +kernel
theorem dX8_sourceOf_73 : decode cX8_sourceOf 73 = .ok (.iload_n 2, 1) := by decide +kernel
theorem dX8_sourceOf_74 : decode cX8_sourceOf 74 = .ok (.iconst 2, 1) := by decide +kernel
theorem dX8_sourceOf_75 : decode cX8_sourceOf 75 = .ok (.irem, 1) := by decide +kernel
theorem dX8_sourceOf_76 : decode cX8_sourceOf 76 = .ok (.invokevirtual 110, 3) := by decide +kernel
theorem dX8_sourceOf_79 : decode cX8_sourceOf 79 = .ok (.ifCond .eq 7, 3) := by decide +kernel
theorem dX8_sourceOf_82 : decode cX8_sourceOf 82 = .ok (.iconst 1, 1) := by decide +kernel
theorem dX8_sourceOf_83 : decode cX8_sourceOf 83 = .ok (.goto 4, 3) := by decide +kernel
theorem dX8_sourceOf_86 : decode cX8_sourceOf 86 = .ok (.iconst 0, 1) := by decide +kernel
theorem dX8_sourceOf_87 : decode cX8_sourceOf 87 = .ok (.istore 8, 2) := by decide +kernel
theorem dX8_sourceOf_89 : decode cX8_sourceOf 89 = .ok (.iload 6, 2) := by decide +kernel
theorem dX8_sourceOf_91 : decode cX8_sourceOf 91 = .ok (.iconst 2, 1) := by decide +kernel
theorem dX8_sourceOf_92 : decode cX8_sourceOf 92 = .ok (.imul, 1) := by decide +kernel
theorem dX8_sourceOf_93 : decode cX8_sourceOf 93 = .ok (.iload 7, 2) := by decide +kernel
theorem dX8_sourceOf_95 : decode cX8_sourceOf 95 = .ok (.iadd, 1) := by decide +kernel
theorem dX8_sourceOf_96 : decode cX8_sourceOf 96 = .ok (.istore 9, 2) := by decide +kernel
theorem dX8_sourceOf_98 : decode cX8_sourceOf 98 = .ok (.iload 8, 2) := by decide +kernel
theorem dX8_sourceOf_100 : decode cX8_sourceOf 100 = .ok (.ifCond .eq 25, 3) := by decide +kernel
theorem dX8_sourceOf_103 : decode cX8_sourceOf 103 = .ok (.iload 4, 2) := by decide +kernel
theorem dX8_sourceOf_105 : decode cX8_sourceOf 105 = .ok (.iconst (-1), 1) := by decide +kernel
theorem dX8_sourceOf_106 : decode cX8_sourceOf 106 = .ok (.if_icmp .eq 15, 3) := by decide +kernel
theorem dX8_sourceOf_109 : decode cX8_sourceOf 109 = .ok (.aload_n 0, 1) := by decide +kernel
theorem dX8_sourceOf_110 : decode cX8_sourceOf 110 = .ok (.iload_n 1, 1) := by decide +kernel
theorem dX8_sourceOf_111 : decode cX8_sourceOf 111 = .ok (.iload 9, 2) := by decide +kernel
theorem dX8_sourceOf_113 : decode cX8_sourceOf 113 = .ok (.iload 4, 2) := by decide +kernel
theorem dX8_sourceOf_115 : decode cX8_sourceOf 115 = .ok (.invokevirtual 113, 3) := by decide +kernel
theorem dX8_sourceOf_118 : decode cX8_sourceOf 118 = .ok (.ifCond .eq 7, 3) := by decide +kernel
theorem dX8_sourceOf_121 : decode cX8_sourceOf 121 = .ok (.iload 9, 2) := by decide +kernel
theorem dX8_sourceOf_123 : decode cX8_sourceOf 123 = .ok (.istore 4, 2) := by decide +kernel
theorem dX8_sourceOf_125 : decode cX8_sourceOf 125 = .ok (.iinc 7 1, 3) := by decide +kernel
theorem dX8_sourceOf_128 : decode cX8_sourceOf 128 = .ok (.goto (-83), 3) := by decide +kernel
theorem dX8_sourceOf_131 : decode cX8_sourceOf 131 = .ok (.iinc 5 1, 3) := by decide +kernel
theorem dX8_sourceOf_134 : decode cX8_sourceOf 134 = .ok (.goto (-116), 3) := by decide +kernel
theorem dX8_sourceOf_137 : decode cX8_sourceOf 137 = .ok (.iload 4, 2) := by decide +kernel
theorem dX8_sourceOf_139 : decode cX8_sourceOf 139 = .ok (.ireturn, 1) := by decide +kernel
theorem dX8_beats_0 : decode cX8_beats 0 = .ok (.aload_n 0, 1) := by decide +kernel
theorem dX8_beats_1 : decode cX8_beats 1 = .ok (.getfield 9, 3) := by decide +kernel
theorem dX8_beats_4 : decode cX8_beats 4 = .ok (.iload_n 1, 1) := by decide +kernel
theorem dX8_beats_5 : decode cX8_beats 5 = .ok (.bipush 32, 2) := by decide +kernel
theorem dX8_beats_7 : decode cX8_beats 7 = .ok (.imul, 1) := by decide +kernel
theorem dX8_beats_8 : decode cX8_beats 8 = .ok (.iload_n 2, 1) := by decide +kernel
theorem dX8_beats_9 : decode cX8_beats 9 = .ok (.iadd, 1) := by decide +kernel
theorem dX8_beats_10 : decode cX8_beats 10 = .ok (.daload, 1) := by decide +kernel
theorem dX8_beats_11 : decode cX8_beats 11 = .ok (.dstore 4, 2) := by decide +kernel
theorem dX8_beats_13 : decode cX8_beats 13 = .ok (.aload_n 0, 1) := by decide +kernel
theorem dX8_beats_14 : decode cX8_beats 14 = .ok (.getfield 9, 3) := by decide +kernel
theorem dX8_beats_17 : decode cX8_beats 17 = .ok (.iload_n 1, 1) := by decide +kernel
theorem dX8_beats_18 : decode cX8_beats 18 = .ok (.bipush 32, 2) := by decide +kernel
theorem dX8_beats_20 : decode cX8_beats 20 = .ok (.imul, 1) := by decide +kernel
theorem dX8_beats_21 : decode cX8_beats 21 = .ok (.iload_n 3, 1) := by decide +kernel
theorem dX8_beats_22 : decode cX8_beats 22 = .ok (.iadd, 1) := by decide +kernel
theorem dX8_beats_23 : decode cX8_beats 23 = .ok (.daload, 1) := by decide +kernel
theorem dX8_beats_24 : decode cX8_beats 24 = .ok (.dstore 6, 2) := by decide +kernel
theorem dX8_beats_26 : decode cX8_beats 26 = .ok (.aload_n 0, 1) := by decide +kernel
theorem dX8_beats_27 : decode cX8_beats 27 = .ok (.getfield 36, 3) := by decide +kernel
theorem dX8_beats_30 : decode cX8_beats 30 = .ok (.ifCond .eq 19, 3) := by decide +kernel
theorem dX8_beats_33 : decode cX8_beats 33 = .ok (.dload 4, 2) := by decide +kernel
theorem dX8_beats_35 : decode cX8_beats 35 = .ok (.dload 6, 2) := by decide +kernel
theorem dX8_beats_37 : decode cX8_beats 37 = .ok (.dcmp .l, 1) := by decide +kernel
theorem dX8_beats_38 : decode cX8_beats 38 = .ok (.ifCond .le 7, 3) := by decide +kernel
theorem dX8_beats_41 : decode cX8_beats 41 = .ok (.iconst 1, 1) := by decide +kernel
theorem dX8_beats_42 : decode cX8_beats 42 = .ok (.goto 20, 3) := by decide +kernel
theorem dX8_beats_45 : decode cX8_beats 45 = .ok (.iconst 0, 1) := by decide +kernel
theorem dX8_beats_46 : decode cX8_beats 46 = .ok (.goto 16, 3) := by decide +kernel
theorem dX8_beats_49 : decode cX8_beats 49 = .ok (.dload 4, 2) := by decide +kernel
theorem dX8_beats_51 : decode cX8_beats 51 = .ok (.dload 6, 2) := by decide +kernel
theorem dX8_beats_53 : decode cX8_beats 53 = .ok (.dcmp .g, 1) := by decide +kernel
theorem dX8_beats_54 : decode cX8_beats 54 = .ok (.ifCond .ge 7, 3) := by decide +kernel
theorem dX8_beats_57 : decode cX8_beats 57 = .ok (.iconst 1, 1) := by decide +kernel
theorem dX8_beats_58 : decode cX8_beats 58 = .ok (.goto 4, 3) := by decide +kernel
theorem dX8_beats_61 : decode cX8_beats 61 = .ok (.iconst 0, 1) := by decide +kernel
theorem dX8_beats_62 : decode cX8_beats 62 = .ok (.ireturn, 1) := by decide +kernel
theorem dX8_settle_0 : decode cX8_settle 0 = .ok (.iconst 0, 1) := by decide +kernel
theorem dX8_settle_1 : decode cX8_settle 1 = .ok (.istore_n 3, 1) := by decide +kernel
theorem dX8_settle_2 : decode cX8_settle 2 = .ok (.iload_n 3, 1) := by decide +kernel
theorem dX8_settle_3 : decode cX8_settle 3 = .ok (.aload_n 0, 1) := by decide +kernel
theorem dX8_settle_4 : decode cX8_settle 4 = .ok (.getfield 24, 3) := by decide +kernel
theorem dX8_settle_7 : decode cX8_settle 7 = .ok (.getfield 40, 3) := by decide +kernel
theorem dX8_settle_10 : decode cX8_settle 10 = .ok (.if_icmp .ge 56, 3) := by decide +kernel
theorem dX8_settle_13 : decode cX8_settle 13 = .ok (.aload_n 0, 1) := by decide +kernel
theorem dX8_settle_14 : decode cX8_settle 14 = .ok (.getfield 28, 3) := by decide +kernel
theorem dX8_settle_17 : decode cX8_settle 17 = .ok (.iload_n 3, 1) := by decide +kernel
theorem dX8_settle_18 : decode cX8_settle 18 = .ok (.iload_n 1, 1) := by decide +kernel
theorem dX8_settle_19 : decode cX8_settle 19 = .ok (.invokevirtual 117, 3) := by decide +kernel
theorem dX8_settle_22 : decode cX8_settle 22 = .ok (.ifCond .eq 38, 3) := by decide +kernel
theorem dX8_settle_25 : decode cX8_settle 25 = .ok (.aload_n 0, 1) := by decide +kernel
theorem dX8_settle_26 : decode cX8_settle 26 = .ok (.getfield 15, 3) := by decide +kernel
theorem dX8_settle_29 : decode cX8_settle 29 = .ok (.iload_n 3, 1) := by decide +kernel
theorem dX8_settle_30 : decode cX8_settle 30 = .ok (.bipush 16, 2) := by decide +kernel
theorem dX8_settle_32 : decode cX8_settle 32 = .ok (.imul, 1) := by decide +kernel
theorem dX8_settle_33 : decode cX8_settle 33 = .ok (.iload_n 1, 1) := by decide +kernel
theorem dX8_settle_34 : decode cX8_settle 34 = .ok (.iadd, 1) := by decide +kernel
theorem dX8_settle_35 : decode cX8_settle 35 = .ok (.aload_n 0, 1) := by decide +kernel
theorem dX8_settle_36 : decode cX8_settle 36 = .ok (.getfield 36, 3) := by decide +kernel
theorem dX8_settle_39 : decode cX8_settle 39 = .ok (.ifCond .eq 13, 3) := by decide +kernel
theorem dX8_settle_42 : decode cX8_settle 42 = .ok (.aload_n 0, 1) := by decide +kernel
theorem dX8_settle_43 : decode cX8_settle 43 = .ok (.iload_n 3, 1) := by decide +kernel
theorem dX8_settle_44 : decode cX8_settle 44 = .ok (.iload_n 1, 1) := by decide +kernel
theorem dX8_settle_45 : decode cX8_settle 45 = .ok (.aload_n 2, 1) := by decide +kernel
theorem dX8_settle_46 : decode cX8_settle 46 = .ok (.invokevirtual 120, 3) := by decide +kernel
theorem dX8_settle_49 : decode cX8_settle 49 = .ok (.goto 10, 3) := by decide +kernel
theorem dX8_settle_52 : decode cX8_settle 52 = .ok (.aload_n 0, 1) := by decide +kernel
theorem dX8_settle_53 : decode cX8_settle 53 = .ok (.iload_n 3, 1) := by decide +kernel
theorem dX8_settle_54 : decode cX8_settle 54 = .ok (.iload_n 1, 1) := by decide +kernel
theorem dX8_settle_55 : decode cX8_settle 55 = .ok (.aload_n 2, 1) := by decide +kernel
theorem dX8_settle_56 : decode cX8_settle 56 = .ok (.invokevirtual 123, 3) := by decide +kernel
theorem dX8_settle_59 : decode cX8_settle 59 = .ok (.dastore, 1) := by decide +kernel
theorem dX8_settle_60 : decode cX8_settle 60 = .ok (.iinc 3 1, 3) := by decide +kernel
theorem dX8_settle_63 : decode cX8_settle 63 = .ok (.goto (-61), 3) := by decide +kernel
theorem dX8_settle_66 : decode cX8_settle 66 = .ok (.aload_n 0, 1) := by decide +kernel
theorem dX8_settle_67 : decode cX8_settle 67 = .ok (.getfield 36, 3) := by decide +kernel
theorem dX8_settle_70 : decode cX8_settle 70 = .ok (.ifCond .eq 25, 3) := by decide +kernel
theorem dX8_settle_73 : decode cX8_settle 73 = .ok (.aload_n 0, 1) := by decide +kernel
theorem dX8_settle_74 : decode cX8_settle 74 = .ok (.getfield 24, 3) := by decide +kernel
theorem dX8_settle_77 : decode cX8_settle 77 = .ok (.getfield 46, 3) := by decide +kernel
theorem dX8_settle_80 : decode cX8_settle 80 = .ok (.iload_n 1, 1) := by decide +kernel
theorem dX8_settle_81 : decode cX8_settle 81 = .ok (.aaload, 1) := by decide +kernel
theorem dX8_settle_82 : decode cX8_settle 82 = .ok (.getfield 50, 3) := by decide +kernel
theorem dX8_settle_85 : decode cX8_settle 85 = .ok (.bipush 7, 2) := by decide +kernel
theorem dX8_settle_87 : decode cX8_settle 87 = .ok (.if_icmp .ne 8, 3) := by decide +kernel
theorem dX8_settle_90 : decode cX8_settle 90 = .ok (.aload_n 0, 1) := by decide +kernel
theorem dX8_settle_91 : decode cX8_settle 91 = .ok (.iload_n 1, 1) := by decide +kernel
theorem dX8_settle_92 : decode cX8_settle 92 = .ok (.invokevirtual 126, 3) := by decide +kernel
theorem dX8_settle_95 : decode cX8_settle 95 = .ok (.aload_n 0, 1) := by decide +kernel
theorem dX8_settle_96 : decode cX8_settle 96 = .ok (.getfield 18, 3) := by decide +kernel
theorem dX8_settle_99 : decode cX8_settle 99 = .ok (.iload_n 1, 1) := by decide +kernel
theorem dX8_settle_100 : decode cX8_settle 100 = .ok (.ldc2_w 130, 3) := by decide +kernel
theorem dX8_settle_103 : decode cX8_settle 103 = .ok (.dastore, 1) := by decide +kernel
theorem dX8_settle_104 : decode cX8_settle 104 = .ok (.iconst 0, 1) := by decide +kernel
theorem dX8_settle_105 : decode cX8_settle 105 = .ok (.istore_n 3, 1) := by decide +kernel
theorem dX8_settle_106 : decode cX8_settle 106 = .ok (.iload_n 3, 1) := by decide +kernel
theorem dX8_settle_107 : decode cX8_settle 107 = .ok (.aload_n 0, 1) := by decide +kernel
theorem dX8_settle_108 : decode cX8_settle 108 = .ok (.getfield 24, 3) := by decide +kernel
theorem dX8_settle_111 : decode cX8_settle 111 = .ok (.getfield 40, 3) := by decide +kernel
theorem dX8_settle_114 : decode cX8_settle 114 = .ok (.if_icmp .ge 30, 3) := by decide +kernel
theorem dX8_settle_117 : decode cX8_settle 117 = .ok (.aload_n 0, 1) := by decide +kernel
theorem dX8_settle_118 : decode cX8_settle 118 = .ok (.getfield 18, 3) := by decide +kernel
theorem dX8_settle_121 : decode cX8_settle 121 = .ok (.iload_n 1, 1) := by decide +kernel
theorem dX8_settle_122 : decode cX8_settle 122 = .ok (.aload_n 0, 1) := by decide +kernel
theorem dX8_settle_123 : decode cX8_settle 123 = .ok (.getfield 18, 3) := by decide +kernel
theorem dX8_settle_126 : decode cX8_settle 126 = .ok (.iload_n 1, 1) := by decide +kernel
theorem dX8_settle_127 : decode cX8_settle 127 = .ok (.daload, 1) := by decide +kernel
theorem dX8_settle_128 : decode cX8_settle 128 = .ok (.aload_n 0, 1) := by decide +kernel
theorem dX8_settle_129 : decode cX8_settle 129 = .ok (.iload_n 3, 1) := by decide +kernel
theorem dX8_settle_130 : decode cX8_settle 130 = .ok (.iload_n 1, 1) := by decide +kernel
theorem dX8_settle_131 : decode cX8_settle 131 = .ok (.invokevirtual 132, 3) := by decide +kernel
theorem dX8_settle_134 : decode cX8_settle 134 = .ok (.invokestatic 135, 3) := by decide +kernel
theorem dX8_settle_137 : decode cX8_settle 137 = .ok (.dastore, 1) := by decide +kernel
theorem dX8_settle_138 : decode cX8_settle 138 = .ok (.iinc 3 1, 3) := by decide +kernel
theorem dX8_settle_141 : decode cX8_settle 141 = .ok (.goto (-35), 3) := by decide +kernel
theorem dX8_settle_144 : decode cX8_settle 144 = .ok (.return_, 1) := by decide +kernel
theorem dX8_leftForLate_0 : decode cX8_leftForLate 0 = .ok (.aload_n 0, 1) := by decide +kernel
theorem dX8_leftForLate_1 : decode cX8_leftForLate 1 = .ok (.getfield 24, 3) := by decide +kernel
theorem dX8_leftForLate_4 : decode cX8_leftForLate 4 = .ok (.getfield 46, 3) := by decide +kernel
theorem dX8_leftForLate_7 : decode cX8_leftForLate 7 = .ok (.iload_n 1, 1) := by decide +kernel
theorem dX8_leftForLate_8 : decode cX8_leftForLate 8 = .ok (.aaload, 1) := by decide +kernel
theorem dX8_leftForLate_9 : decode cX8_leftForLate 9 = .ok (.astore 4, 2) := by decide +kernel
theorem dX8_leftForLate_11 : decode cX8_leftForLate 11 = .ok (.aload_n 0, 1) := by decide +kernel
theorem dX8_leftForLate_12 : decode cX8_leftForLate 12 = .ok (.getfield 24, 3) := by decide +kernel
theorem dX8_leftForLate_15 : decode cX8_leftForLate 15 = .ok (.getfield 46, 3) := by decide +kernel
theorem dX8_leftForLate_18 : decode cX8_leftForLate 18 = .ok (.iload_n 2, 1) := by decide +kernel
theorem dX8_leftForLate_19 : decode cX8_leftForLate 19 = .ok (.aaload, 1) := by decide +kernel
theorem dX8_leftForLate_20 : decode cX8_leftForLate 20 = .ok (.astore 5, 2) := by decide +kernel
theorem dX8_leftForLate_22 : decode cX8_leftForLate 22 = .ok (.aload_n 0, 1) := by decide +kernel
theorem dX8_leftForLate_23 : decode cX8_leftForLate 23 = .ok (.getfield 28, 3) := by decide +kernel
theorem dX8_leftForLate_26 : decode cX8_leftForLate 26 = .ok (.iload_n 1, 1) := by decide +kernel
theorem dX8_leftForLate_27 : decode cX8_leftForLate 27 = .ok (.iload_n 2, 1) := by decide +kernel
theorem dX8_leftForLate_28 : decode cX8_leftForLate 28 = .ok (.invokevirtual 139, 3) := by decide +kernel
theorem dX8_leftForLate_31 : decode cX8_leftForLate 31 = .ok (.i2d, 1) := by decide +kernel
theorem dX8_leftForLate_32 : decode cX8_leftForLate 32 = .ok (.dstore 6, 2) := by decide +kernel
theorem dX8_leftForLate_34 : decode cX8_leftForLate 34 = .ok (.dload 6, 2) := by decide +kernel
theorem dX8_leftForLate_36 : decode cX8_leftForLate 36 = .ok (.aload 5, 2) := by decide +kernel
theorem dX8_leftForLate_38 : decode cX8_leftForLate 38 = .ok (.getfield 142, 3) := by decide +kernel
theorem dX8_leftForLate_41 : decode cX8_leftForLate 41 = .ok (.getfield 146, 3) := by decide +kernel
theorem dX8_leftForLate_44 : decode cX8_leftForLate 44 = .ok (.i2d, 1) := by decide +kernel
theorem dX8_leftForLate_45 : decode cX8_leftForLate 45 = .ok (.ldc2_w 151, 3) := by decide +kernel
theorem dX8_leftForLate_48 : decode cX8_leftForLate 48 = .ok (.dmul, 1) := by decide +kernel
theorem dX8_leftForLate_49 : decode cX8_leftForLate 49 = .ok (.dsub, 1) := by decide +kernel
theorem dX8_leftForLate_50 : decode cX8_leftForLate 50 = .ok (.dstore 6, 2) := by decide +kernel
theorem dX8_leftForLate_52 : decode cX8_leftForLate 52 = .ok (.dload 6, 2) := by decide +kernel
theorem dX8_leftForLate_54 : decode cX8_leftForLate 54 = .ok (.aload 5, 2) := by decide +kernel
theorem dX8_leftForLate_56 : decode cX8_leftForLate 56 = .ok (.getfield 50, 3) := by decide +kernel
theorem dX8_leftForLate_59 : decode cX8_leftForLate 59 = .ok (.bipush 8, 2) := by decide +kernel
theorem dX8_leftForLate_61 : decode cX8_leftForLate 61 = .ok (.if_icmp .ne 7, 3) := by decide +kernel
theorem dX8_leftForLate_64 : decode cX8_leftForLate 64 = .ok (.dconst 0, 1) := by decide +kernel
theorem dX8_leftForLate_65 : decode cX8_leftForLate 65 = .ok (.goto 4, 3) := by decide +kernel
theorem dX8_leftForLate_68 : decode cX8_leftForLate 68 = .ok (.dconst 1, 1) := by decide +kernel
theorem dX8_leftForLate_69 : decode cX8_leftForLate 69 = .ok (.dsub, 1) := by decide +kernel
theorem dX8_leftForLate_70 : decode cX8_leftForLate 70 = .ok (.dstore 6, 2) := by decide +kernel
theorem dX8_leftForLate_72 : decode cX8_leftForLate 72 = .ok (.dload 6, 2) := by decide +kernel
theorem dX8_leftForLate_74 : decode cX8_leftForLate 74 = .ok (.aload 5, 2) := by decide +kernel
theorem dX8_leftForLate_76 : decode cX8_leftForLate 76 = .ok (.invokevirtual 153, 3) := by decide +kernel
theorem dX8_leftForLate_79 : decode cX8_leftForLate 79 = .ok (.aload_n 3, 1) := by decide +kernel
theorem dX8_leftForLate_80 : decode cX8_leftForLate 80 = .ok (.getfield 81, 3) := by decide +kernel
theorem dX8_leftForLate_83 : decode cX8_leftForLate 83 = .ok (.dmul, 1) := by decide +kernel
theorem dX8_leftForLate_84 : decode cX8_leftForLate 84 = .ok (.dadd, 1) := by decide +kernel
theorem dX8_leftForLate_85 : decode cX8_leftForLate 85 = .ok (.dstore 6, 2) := by decide +kernel
theorem dX8_leftForLate_87 : decode cX8_leftForLate 87 = .ok (.dload 6, 2) := by decide +kernel
theorem dX8_leftForLate_89 : decode cX8_leftForLate 89 = .ok (.aload 4, 2) := by decide +kernel
theorem dX8_leftForLate_91 : decode cX8_leftForLate 91 = .ok (.invokevirtual 153, 3) := by decide +kernel
theorem dX8_leftForLate_94 : decode cX8_leftForLate 94 = .ok (.aload_n 3, 1) := by decide +kernel
theorem dX8_leftForLate_95 : decode cX8_leftForLate 95 = .ok (.getfield 75, 3) := by decide +kernel
theorem dX8_leftForLate_98 : decode cX8_leftForLate 98 = .ok (.dmul, 1) := by decide +kernel
theorem dX8_leftForLate_99 : decode cX8_leftForLate 99 = .ok (.dsub, 1) := by decide +kernel
theorem dX8_leftForLate_100 : decode cX8_leftForLate 100 = .ok (.dstore 6, 2) := by decide +kernel
theorem dX8_leftForLate_102 : decode cX8_leftForLate 102 = .ok (.dload 6, 2) := by decide +kernel
theorem dX8_leftForLate_104 : decode cX8_leftForLate 104 = .ok (.aload 4, 2) := by decide +kernel
theorem dX8_leftForLate_106 : decode cX8_leftForLate 106 = .ok (.getfield 142, 3) := by decide +kernel
theorem dX8_leftForLate_109 : decode cX8_leftForLate 109 = .ok (.aload 5, 2) := by decide +kernel
theorem dX8_leftForLate_111 : decode cX8_leftForLate 111 = .ok (.getfield 142, 3) := by decide +kernel
theorem dX8_leftForLate_114 : decode cX8_leftForLate 114 = .ok (.aload_n 3, 1) := by decide +kernel
theorem dX8_leftForLate_115 : decode cX8_leftForLate 115 = .ok (.invokestatic 157, 3) := by decide +kernel
theorem dX8_leftForLate_118 : decode cX8_leftForLate 118 = .ok (.dadd, 1) := by decide +kernel
theorem dX8_leftForLate_119 : decode cX8_leftForLate 119 = .ok (.dstore 6, 2) := by decide +kernel
theorem dX8_leftForLate_121 : decode cX8_leftForLate 121 = .ok (.iload_n 1, 1) := by decide +kernel
theorem dX8_leftForLate_122 : decode cX8_leftForLate 122 = .ok (.bipush 32, 2) := by decide +kernel
theorem dX8_leftForLate_124 : decode cX8_leftForLate 124 = .ok (.imul, 1) := by decide +kernel
theorem dX8_leftForLate_125 : decode cX8_leftForLate 125 = .ok (.aload 5, 2) := by decide +kernel
theorem dX8_leftForLate_127 : decode cX8_leftForLate 127 = .ok (.getfield 104, 3) := by decide +kernel
theorem dX8_leftForLate_130 : decode cX8_leftForLate 130 = .ok (.iconst 2, 1) := by decide +kernel
theorem dX8_leftForLate_131 : decode cX8_leftForLate 131 = .ok (.imul, 1) := by decide +kernel
theorem dX8_leftForLate_132 : decode cX8_leftForLate 132 = .ok (.iadd, 1) := by decide +kernel
theorem dX8_leftForLate_133 : decode cX8_leftForLate 133 = .ok (.istore 8, 2) := by decide +kernel
theorem dX8_leftForLate_135 : decode cX8_leftForLate 135 = .ok (.dload 6, 2) := by decide +kernel
theorem dX8_leftForLate_137 : decode cX8_leftForLate 137 = .ok (.aload_n 0, 1) := by decide +kernel
theorem dX8_leftForLate_138 : decode cX8_leftForLate 138 = .ok (.getfield 9, 3) := by decide +kernel
theorem dX8_leftForLate_141 : decode cX8_leftForLate 141 = .ok (.iload 8, 2) := by decide +kernel
theorem dX8_leftForLate_143 : decode cX8_leftForLate 143 = .ok (.iconst 0, 1) := by decide +kernel
theorem dX8_leftForLate_144 : decode cX8_leftForLate 144 = .ok (.iadd, 1) := by decide +kernel
theorem dX8_leftForLate_145 : decode cX8_leftForLate 145 = .ok (.daload, 1) := by decide +kernel
theorem dX8_leftForLate_146 : decode cX8_leftForLate 146 = .ok (.aload_n 0, 1) := by decide +kernel
theorem dX8_leftForLate_147 : decode cX8_leftForLate 147 = .ok (.getfield 9, 3) := by decide +kernel
theorem dX8_leftForLate_150 : decode cX8_leftForLate 150 = .ok (.iload 8, 2) := by decide +kernel
theorem dX8_leftForLate_152 : decode cX8_leftForLate 152 = .ok (.iconst 1, 1) := by decide +kernel
theorem dX8_leftForLate_153 : decode cX8_leftForLate 153 = .ok (.iadd, 1) := by decide +kernel
theorem dX8_leftForLate_154 : decode cX8_leftForLate 154 = .ok (.daload, 1) := by decide +kernel
theorem dX8_leftForLate_155 : decode cX8_leftForLate 155 = .ok (.invokestatic 161, 3) := by decide +kernel
theorem dX8_leftForLate_158 : decode cX8_leftForLate 158 = .ok (.dsub, 1) := by decide +kernel
theorem dX8_leftForLate_159 : decode cX8_leftForLate 159 = .ok (.dreturn, 1) := by decide +kernel
theorem dX8_leftForEarly_0 : decode cX8_leftForEarly 0 = .ok (.aload_n 0, 1) := by decide +kernel
theorem dX8_leftForEarly_1 : decode cX8_leftForEarly 1 = .ok (.getfield 24, 3) := by decide +kernel
theorem dX8_leftForEarly_4 : decode cX8_leftForEarly 4 = .ok (.getfield 46, 3) := by decide +kernel
theorem dX8_leftForEarly_7 : decode cX8_leftForEarly 7 = .ok (.iload_n 1, 1) := by decide +kernel
theorem dX8_leftForEarly_8 : decode cX8_leftForEarly 8 = .ok (.aaload, 1) := by decide +kernel
theorem dX8_leftForEarly_9 : decode cX8_leftForEarly 9 = .ok (.astore 4, 2) := by decide +kernel
theorem dX8_leftForEarly_11 : decode cX8_leftForEarly 11 = .ok (.aload_n 0, 1) := by decide +kernel
theorem dX8_leftForEarly_12 : decode cX8_leftForEarly 12 = .ok (.getfield 24, 3) := by decide +kernel
theorem dX8_leftForEarly_15 : decode cX8_leftForEarly 15 = .ok (.getfield 46, 3) := by decide +kernel
theorem dX8_leftForEarly_18 : decode cX8_leftForEarly 18 = .ok (.iload_n 2, 1) := by decide +kernel
theorem dX8_leftForEarly_19 : decode cX8_leftForEarly 19 = .ok (.aaload, 1) := by decide +kernel
theorem dX8_leftForEarly_20 : decode cX8_leftForEarly 20 = .ok (.astore 5, 2) := by decide +kernel
theorem dX8_leftForEarly_22 : decode cX8_leftForEarly 22 = .ok (.iload_n 1, 1) := by decide +kernel
theorem dX8_leftForEarly_23 : decode cX8_leftForEarly 23 = .ok (.bipush 32, 2) := by decide +kernel
theorem dX8_leftForEarly_25 : decode cX8_leftForEarly 25 = .ok (.imul, 1) := by decide +kernel
theorem dX8_leftForEarly_26 : decode cX8_leftForEarly 26 = .ok (.aload 5, 2) := by decide +kernel
theorem dX8_leftForEarly_28 : decode cX8_leftForEarly 28 = .ok (.getfield 104, 3) := by decide +kernel
theorem dX8_leftForEarly_31 : decode cX8_leftForEarly 31 = .ok (.iconst 2, 1) := by decide +kernel
theorem dX8_leftForEarly_32 : decode cX8_leftForEarly 32 = .ok (.imul, 1) := by decide +kernel
theorem dX8_leftForEarly_33 : decode cX8_leftForEarly 33 = .ok (.iadd, 1) := by decide +kernel
theorem dX8_leftForEarly_34 : decode cX8_leftForEarly 34 = .ok (.istore 6, 2) := by decide +kernel
theorem dX8_leftForEarly_36 : decode cX8_leftForEarly 36 = .ok (.aload_n 0, 1) := by decide +kernel
theorem dX8_leftForEarly_37 : decode cX8_leftForEarly 37 = .ok (.getfield 9, 3) := by decide +kernel
theorem dX8_leftForEarly_40 : decode cX8_leftForEarly 40 = .ok (.iload 6, 2) := by decide +kernel
theorem dX8_leftForEarly_42 : decode cX8_leftForEarly 42 = .ok (.iconst 0, 1) := by decide +kernel
theorem dX8_leftForEarly_43 : decode cX8_leftForEarly 43 = .ok (.iadd, 1) := by decide +kernel
theorem dX8_leftForEarly_44 : decode cX8_leftForEarly 44 = .ok (.daload, 1) := by decide +kernel
theorem dX8_leftForEarly_45 : decode cX8_leftForEarly 45 = .ok (.aload_n 0, 1) := by decide +kernel
theorem dX8_leftForEarly_46 : decode cX8_leftForEarly 46 = .ok (.getfield 9, 3) := by decide +kernel
theorem dX8_leftForEarly_49 : decode cX8_leftForEarly 49 = .ok (.iload 6, 2) := by decide +kernel
theorem dX8_leftForEarly_51 : decode cX8_leftForEarly 51 = .ok (.iconst 1, 1) := by decide +kernel
theorem dX8_leftForEarly_52 : decode cX8_leftForEarly 52 = .ok (.iadd, 1) := by decide +kernel
theorem dX8_leftForEarly_53 : decode cX8_leftForEarly 53 = .ok (.daload, 1) := by decide +kernel
theorem dX8_leftForEarly_54 : decode cX8_leftForEarly 54 = .ok (.invokestatic 135, 3) := by decide +kernel
theorem dX8_leftForEarly_57 : decode cX8_leftForEarly 57 = .ok (.dstore 7, 2) := by decide +kernel
theorem dX8_leftForEarly_59 : decode cX8_leftForEarly 59 = .ok (.dload 7, 2) := by decide +kernel
theorem dX8_leftForEarly_61 : decode cX8_leftForEarly 61 = .ok (.aload 4, 2) := by decide +kernel
theorem dX8_leftForEarly_63 : decode cX8_leftForEarly 63 = .ok (.invokevirtual 153, 3) := by decide +kernel
theorem dX8_leftForEarly_66 : decode cX8_leftForEarly 66 = .ok (.aload_n 3, 1) := by decide +kernel
theorem dX8_leftForEarly_67 : decode cX8_leftForEarly 67 = .ok (.getfield 81, 3) := by decide +kernel
theorem dX8_leftForEarly_70 : decode cX8_leftForEarly 70 = .ok (.dmul, 1) := by decide +kernel
theorem dX8_leftForEarly_71 : decode cX8_leftForEarly 71 = .ok (.dadd, 1) := by decide +kernel
theorem dX8_leftForEarly_72 : decode cX8_leftForEarly 72 = .ok (.dstore 7, 2) := by decide +kernel
theorem dX8_leftForEarly_74 : decode cX8_leftForEarly 74 = .ok (.dload 7, 2) := by decide +kernel
theorem dX8_leftForEarly_76 : decode cX8_leftForEarly 76 = .ok (.aload 5, 2) := by decide +kernel
theorem dX8_leftForEarly_78 : decode cX8_leftForEarly 78 = .ok (.invokevirtual 153, 3) := by decide +kernel
theorem dX8_leftForEarly_81 : decode cX8_leftForEarly 81 = .ok (.aload_n 3, 1) := by decide +kernel
theorem dX8_leftForEarly_82 : decode cX8_leftForEarly 82 = .ok (.getfield 75, 3) := by decide +kernel
theorem dX8_leftForEarly_85 : decode cX8_leftForEarly 85 = .ok (.dmul, 1) := by decide +kernel
theorem dX8_leftForEarly_86 : decode cX8_leftForEarly 86 = .ok (.dsub, 1) := by decide +kernel
theorem dX8_leftForEarly_87 : decode cX8_leftForEarly 87 = .ok (.dstore 7, 2) := by decide +kernel
theorem dX8_leftForEarly_89 : decode cX8_leftForEarly 89 = .ok (.dload 7, 2) := by decide +kernel
theorem dX8_leftForEarly_91 : decode cX8_leftForEarly 91 = .ok (.aload 5, 2) := by decide +kernel
theorem dX8_leftForEarly_93 : decode cX8_leftForEarly 93 = .ok (.getfield 142, 3) := by decide +kernel
theorem dX8_leftForEarly_96 : decode cX8_leftForEarly 96 = .ok (.getfield 146, 3) := by decide +kernel
theorem dX8_leftForEarly_99 : decode cX8_leftForEarly 99 = .ok (.i2d, 1) := by decide +kernel
theorem dX8_leftForEarly_100 : decode cX8_leftForEarly 100 = .ok (.ldc2_w 151, 3) := by decide +kernel
theorem dX8_leftForEarly_103 : decode cX8_leftForEarly 103 = .ok (.dmul, 1) := by decide +kernel
theorem dX8_leftForEarly_104 : decode cX8_leftForEarly 104 = .ok (.dsub, 1) := by decide +kernel
theorem dX8_leftForEarly_105 : decode cX8_leftForEarly 105 = .ok (.dstore 7, 2) := by decide +kernel
theorem dX8_leftForEarly_107 : decode cX8_leftForEarly 107 = .ok (.dload 7, 2) := by decide +kernel
theorem dX8_leftForEarly_109 : decode cX8_leftForEarly 109 = .ok (.aload 5, 2) := by decide +kernel
theorem dX8_leftForEarly_111 : decode cX8_leftForEarly 111 = .ok (.getfield 50, 3) := by decide +kernel
theorem dX8_leftForEarly_114 : decode cX8_leftForEarly 114 = .ok (.bipush 8, 2) := by decide +kernel
theorem dX8_leftForEarly_116 : decode cX8_leftForEarly 116 = .ok (.if_icmp .ne 7, 3) := by decide +kernel
theorem dX8_leftForEarly_119 : decode cX8_leftForEarly 119 = .ok (.dconst 0, 1) := by decide +kernel
theorem dX8_leftForEarly_120 : decode cX8_leftForEarly 120 = .ok (.goto 6, 3) := by decide +kernel
theorem dX8_leftForEarly_123 : decode cX8_leftForEarly 123 = .ok (.ldc2_w 164, 3) := by decide +kernel
theorem dX8_leftForEarly_126 : decode cX8_leftForEarly 126 = .ok (.dsub, 1) := by decide +kernel
theorem dX8_leftForEarly_127 : decode cX8_leftForEarly 127 = .ok (.dstore 7, 2) := by decide +kernel
theorem dX8_leftForEarly_129 : decode cX8_leftForEarly 129 = .ok (.dload 7, 2) := by decide +kernel
theorem dX8_leftForEarly_131 : decode cX8_leftForEarly 131 = .ok (.aload 4, 2) := by decide +kernel
theorem dX8_leftForEarly_133 : decode cX8_leftForEarly 133 = .ok (.getfield 142, 3) := by decide +kernel
theorem dX8_leftForEarly_136 : decode cX8_leftForEarly 136 = .ok (.aload 5, 2) := by decide +kernel
theorem dX8_leftForEarly_138 : decode cX8_leftForEarly 138 = .ok (.getfield 142, 3) := by decide +kernel
theorem dX8_leftForEarly_141 : decode cX8_leftForEarly 141 = .ok (.aload_n 3, 1) := by decide +kernel
theorem dX8_leftForEarly_142 : decode cX8_leftForEarly 142 = .ok (.invokestatic 157, 3) := by decide +kernel
theorem dX8_leftForEarly_145 : decode cX8_leftForEarly 145 = .ok (.dadd, 1) := by decide +kernel
theorem dX8_leftForEarly_146 : decode cX8_leftForEarly 146 = .ok (.dreturn, 1) := by decide +kernel
theorem dX8_credit_0 : decode cX8_credit 0 = .ok (.aload_n 0, 1) := by decide +kernel
theorem dX8_credit_1 : decode cX8_credit 1 = .ok (.getfield 166, 3) := by decide +kernel
theorem dX8_credit_4 : decode cX8_credit 4 = .ok (.aload_n 1, 1) := by decide +kernel
theorem dX8_credit_5 : decode cX8_credit 5 = .ok (.getfield 166, 3) := by decide +kernel
theorem dX8_credit_8 : decode cX8_credit 8 = .ok (.if_icmp .eq 5, 3) := by decide +kernel
theorem dX8_credit_11 : decode cX8_credit 11 = .ok (.dconst 0, 1) := by decide +kernel
theorem dX8_credit_12 : decode cX8_credit 12 = .ok (.dreturn, 1) := by decide +kernel
theorem dX8_credit_13 : decode cX8_credit 13 = .ok (.aload_n 0, 1) := by decide +kernel
theorem dX8_credit_14 : decode cX8_credit 14 = .ok (.getfield 169, 3) := by decide +kernel
theorem dX8_credit_17 : decode cX8_credit 17 = .ok (.aload_n 1, 1) := by decide +kernel
theorem dX8_credit_18 : decode cX8_credit 18 = .ok (.getfield 169, 3) := by decide +kernel
theorem dX8_credit_21 : decode cX8_credit 21 = .ok (.if_icmp .gt 10, 3) := by decide +kernel
theorem dX8_credit_24 : decode cX8_credit 24 = .ok (.aload_n 0, 1) := by decide +kernel
theorem dX8_credit_25 : decode cX8_credit 25 = .ok (.getfield 169, 3) := by decide +kernel
theorem dX8_credit_28 : decode cX8_credit 28 = .ok (.goto 7, 3) := by decide +kernel
theorem dX8_credit_31 : decode cX8_credit 31 = .ok (.aload_n 1, 1) := by decide +kernel
theorem dX8_credit_32 : decode cX8_credit 32 = .ok (.getfield 169, 3) := by decide +kernel
theorem dX8_credit_35 : decode cX8_credit 35 = .ok (.istore_n 3, 1) := by decide +kernel
theorem dX8_credit_36 : decode cX8_credit 36 = .ok (.aload_n 2, 1) := by decide +kernel
theorem dX8_credit_37 : decode cX8_credit 37 = .ok (.getfield 75, 3) := by decide +kernel
theorem dX8_credit_40 : decode cX8_credit 40 = .ok (.aload_n 2, 1) := by decide +kernel
theorem dX8_credit_41 : decode cX8_credit 41 = .ok (.getfield 81, 3) := by decide +kernel
theorem dX8_credit_44 : decode cX8_credit 44 = .ok (.dsub, 1) := by decide +kernel
theorem dX8_credit_45 : decode cX8_credit 45 = .ok (.iload_n 3, 1) := by decide +kernel
theorem dX8_credit_46 : decode cX8_credit 46 = .ok (.i2d, 1) := by decide +kernel
theorem dX8_credit_47 : decode cX8_credit 47 = .ok (.ldc2_w 151, 3) := by decide +kernel
theorem dX8_credit_50 : decode cX8_credit 50 = .ok (.dmul, 1) := by decide +kernel
theorem dX8_credit_51 : decode cX8_credit 51 = .ok (.dmul, 1) := by decide +kernel
theorem dX8_credit_52 : decode cX8_credit 52 = .ok (.dreturn, 1) := by decide +kernel
theorem dX8_lend_0 : decode cX8_lend 0 = .ok (.dconst 0, 1) := by decide +kernel
theorem dX8_lend_1 : decode cX8_lend 1 = .ok (.dstore_n 2, 1) := by decide +kernel
theorem dX8_lend_2 : decode cX8_lend 2 = .ok (.iconst 0, 1) := by decide +kernel
theorem dX8_lend_3 : decode cX8_lend 3 = .ok (.istore 4, 2) := by decide +kernel
theorem dX8_lend_5 : decode cX8_lend 5 = .ok (.iload 4, 2) := by decide +kernel
theorem dX8_lend_7 : decode cX8_lend 7 = .ok (.aload_n 0, 1) := by decide +kernel
theorem dX8_lend_8 : decode cX8_lend 8 = .ok (.getfield 24, 3) := by decide +kernel
theorem dX8_lend_11 : decode cX8_lend 11 = .ok (.getfield 40, 3) := by decide +kernel
theorem dX8_lend_14 : decode cX8_lend 14 = .ok (.if_icmp .ge 41, 3) := by decide +kernel
theorem dX8_lend_17 : decode cX8_lend 17 = .ok (.aload_n 0, 1) := by decide +kernel
theorem dX8_lend_18 : decode cX8_lend 18 = .ok (.getfield 28, 3) := by decide +kernel
theorem dX8_lend_21 : decode cX8_lend 21 = .ok (.iload 4, 2) := by decide +kernel
theorem dX8_lend_23 : decode cX8_lend 23 = .ok (.iload_n 1, 1) := by decide +kernel
theorem dX8_lend_24 : decode cX8_lend 24 = .ok (.invokevirtual 117, 3) := by decide +kernel
theorem dX8_lend_27 : decode cX8_lend 27 = .ok (.ifCond .eq 22, 3) := by decide +kernel
theorem dX8_lend_30 : decode cX8_lend 30 = .ok (.dload_n 2, 1) := by decide +kernel
theorem dX8_lend_31 : decode cX8_lend 31 = .ok (.dconst 0, 1) := by decide +kernel
theorem dX8_lend_32 : decode cX8_lend 32 = .ok (.aload_n 0, 1) := by decide +kernel
theorem dX8_lend_33 : decode cX8_lend 33 = .ok (.getfield 15, 3) := by decide +kernel
theorem dX8_lend_36 : decode cX8_lend 36 = .ok (.iload 4, 2) := by decide +kernel
theorem dX8_lend_38 : decode cX8_lend 38 = .ok (.bipush 16, 2) := by decide +kernel
theorem dX8_lend_40 : decode cX8_lend 40 = .ok (.imul, 1) := by decide +kernel
theorem dX8_lend_41 : decode cX8_lend 41 = .ok (.iload_n 1, 1) := by decide +kernel
theorem dX8_lend_42 : decode cX8_lend 42 = .ok (.iadd, 1) := by decide +kernel
theorem dX8_lend_43 : decode cX8_lend 43 = .ok (.daload, 1) := by decide +kernel
theorem dX8_lend_44 : decode cX8_lend 44 = .ok (.dsub, 1) := by decide +kernel
theorem dX8_lend_45 : decode cX8_lend 45 = .ok (.invokestatic 161, 3) := by decide +kernel
theorem dX8_lend_48 : decode cX8_lend 48 = .ok (.dstore_n 2, 1) := by decide +kernel
theorem dX8_lend_49 : decode cX8_lend 49 = .ok (.iinc 4 1, 3) := by decide +kernel
theorem dX8_lend_52 : decode cX8_lend 52 = .ok (.goto (-47), 3) := by decide +kernel
theorem dX8_lend_55 : decode cX8_lend 55 = .ok (.aload_n 0, 1) := by decide +kernel
theorem dX8_lend_56 : decode cX8_lend 56 = .ok (.getfield 21, 3) := by decide +kernel
theorem dX8_lend_59 : decode cX8_lend 59 = .ok (.iload_n 1, 1) := by decide +kernel
theorem dX8_lend_60 : decode cX8_lend 60 = .ok (.dload_n 2, 1) := by decide +kernel
theorem dX8_lend_61 : decode cX8_lend 61 = .ok (.ldc2_w 164, 3) := by decide +kernel
theorem dX8_lend_64 : decode cX8_lend 64 = .ok (.aload_n 0, 1) := by decide +kernel
theorem dX8_lend_65 : decode cX8_lend 65 = .ok (.getfield 24, 3) := by decide +kernel
theorem dX8_lend_68 : decode cX8_lend 68 = .ok (.getfield 46, 3) := by decide +kernel
theorem dX8_lend_71 : decode cX8_lend 71 = .ok (.iload_n 1, 1) := by decide +kernel
theorem dX8_lend_72 : decode cX8_lend 72 = .ok (.aaload, 1) := by decide +kernel
theorem dX8_lend_73 : decode cX8_lend 73 = .ok (.getfield 142, 3) := by decide +kernel
theorem dX8_lend_76 : decode cX8_lend 76 = .ok (.getfield 172, 3) := by decide +kernel
theorem dX8_lend_79 : decode cX8_lend 79 = .ok (.i2d, 1) := by decide +kernel
theorem dX8_lend_80 : decode cX8_lend 80 = .ok (.dmul, 1) := by decide +kernel
theorem dX8_lend_81 : decode cX8_lend 81 = .ok (.invokestatic 135, 3) := by decide +kernel
theorem dX8_lend_84 : decode cX8_lend 84 = .ok (.dastore, 1) := by decide +kernel
theorem dX8_lend_85 : decode cX8_lend 85 = .ok (.iconst 0, 1) := by decide +kernel
theorem dX8_lend_86 : decode cX8_lend 86 = .ok (.istore 4, 2) := by decide +kernel
theorem dX8_lend_88 : decode cX8_lend 88 = .ok (.iload 4, 2) := by decide +kernel
theorem dX8_lend_90 : decode cX8_lend 90 = .ok (.aload_n 0, 1) := by decide +kernel
theorem dX8_lend_91 : decode cX8_lend 91 = .ok (.getfield 24, 3) := by decide +kernel
theorem dX8_lend_94 : decode cX8_lend 94 = .ok (.getfield 40, 3) := by decide +kernel
theorem dX8_lend_97 : decode cX8_lend 97 = .ok (.if_icmp .ge 68, 3) := by decide +kernel
theorem dX8_lend_100 : decode cX8_lend 100 = .ok (.iload 4, 2) := by decide +kernel
theorem dX8_lend_102 : decode cX8_lend 102 = .ok (.bipush 16, 2) := by decide +kernel
theorem dX8_lend_104 : decode cX8_lend 104 = .ok (.imul, 1) := by decide +kernel
theorem dX8_lend_105 : decode cX8_lend 105 = .ok (.iload_n 1, 1) := by decide +kernel
theorem dX8_lend_106 : decode cX8_lend 106 = .ok (.iadd, 1) := by decide +kernel
theorem dX8_lend_107 : decode cX8_lend 107 = .ok (.istore 5, 2) := by decide +kernel
theorem dX8_lend_109 : decode cX8_lend 109 = .ok (.aload_n 0, 1) := by decide +kernel
theorem dX8_lend_110 : decode cX8_lend 110 = .ok (.getfield 28, 3) := by decide +kernel
theorem dX8_lend_113 : decode cX8_lend 113 = .ok (.iload 4, 2) := by decide +kernel
theorem dX8_lend_115 : decode cX8_lend 115 = .ok (.iload_n 1, 1) := by decide +kernel
theorem dX8_lend_116 : decode cX8_lend 116 = .ok (.invokevirtual 117, 3) := by decide +kernel
theorem dX8_lend_119 : decode cX8_lend 119 = .ok (.ifCond .eq 40, 3) := by decide +kernel
theorem dX8_lend_122 : decode cX8_lend 122 = .ok (.aload_n 0, 1) := by decide +kernel
theorem dX8_lend_123 : decode cX8_lend 123 = .ok (.getfield 15, 3) := by decide +kernel
theorem dX8_lend_126 : decode cX8_lend 126 = .ok (.iload 5, 2) := by decide +kernel
theorem dX8_lend_128 : decode cX8_lend 128 = .ok (.daload, 1) := by decide +kernel
theorem dX8_lend_129 : decode cX8_lend 129 = .ok (.dconst 0, 1) := by decide +kernel
theorem dX8_lend_130 : decode cX8_lend 130 = .ok (.dcmp .g, 1) := by decide +kernel
theorem dX8_lend_131 : decode cX8_lend 131 = .ok (.ifCond .ge 28, 3) := by decide +kernel
theorem dX8_lend_134 : decode cX8_lend 134 = .ok (.aload_n 0, 1) := by decide +kernel
theorem dX8_lend_135 : decode cX8_lend 135 = .ok (.getfield 15, 3) := by decide +kernel
theorem dX8_lend_138 : decode cX8_lend 138 = .ok (.iload 5, 2) := by decide +kernel
theorem dX8_lend_140 : decode cX8_lend 140 = .ok (.aload_n 0, 1) := by decide +kernel
theorem dX8_lend_141 : decode cX8_lend 141 = .ok (.getfield 15, 3) := by decide +kernel
theorem dX8_lend_144 : decode cX8_lend 144 = .ok (.iload 5, 2) := by decide +kernel
theorem dX8_lend_146 : decode cX8_lend 146 = .ok (.daload, 1) := by decide +kernel
theorem dX8_lend_147 : decode cX8_lend 147 = .ok (.aload_n 0, 1) := by decide +kernel
theorem dX8_lend_148 : decode cX8_lend 148 = .ok (.getfield 21, 3) := by decide +kernel
theorem dX8_lend_151 : decode cX8_lend 151 = .ok (.iload_n 1, 1) := by decide +kernel
theorem dX8_lend_152 : decode cX8_lend 152 = .ok (.daload, 1) := by decide +kernel
theorem dX8_lend_153 : decode cX8_lend 153 = .ok (.dadd, 1) := by decide +kernel
theorem dX8_lend_154 : decode cX8_lend 154 = .ok (.dconst 0, 1) := by decide +kernel
theorem dX8_lend_155 : decode cX8_lend 155 = .ok (.invokestatic 135, 3) := by decide +kernel
theorem dX8_lend_158 : decode cX8_lend 158 = .ok (.dastore, 1) := by decide +kernel
theorem dX8_lend_159 : decode cX8_lend 159 = .ok (.iinc 4 1, 3) := by decide +kernel
theorem dX8_lend_162 : decode cX8_lend 162 = .ok (.goto (-74), 3) := by decide +kernel
theorem dX8_lend_165 : decode cX8_lend 165 = .ok (.return_, 1) := by decide +kernel
theorem dX8_arrivalOf_0 : decode cX8_arrivalOf 0 = .ok (.aload_n 0, 1) := by decide +kernel
theorem dX8_arrivalOf_1 : decode cX8_arrivalOf 1 = .ok (.getfield 28, 3) := by decide +kernel
theorem dX8_arrivalOf_4 : decode cX8_arrivalOf 4 = .ok (.iload_n 1, 1) := by decide +kernel
theorem dX8_arrivalOf_5 : decode cX8_arrivalOf 5 = .ok (.iload_n 2, 1) := by decide +kernel
theorem dX8_arrivalOf_6 : decode cX8_arrivalOf 6 = .ok (.invokevirtual 94, 3) := by decide +kernel
theorem dX8_arrivalOf_9 : decode cX8_arrivalOf 9 = .ok (.ifCond .eq 21, 3) := by decide +kernel
theorem dX8_arrivalOf_12 : decode cX8_arrivalOf 12 = .ok (.aload_n 0, 1) := by decide +kernel
theorem dX8_arrivalOf_13 : decode cX8_arrivalOf 13 = .ok (.getfield 9, 3) := by decide +kernel
theorem dX8_arrivalOf_16 : decode cX8_arrivalOf 16 = .ok (.iload_n 1, 1) := by decide +kernel
theorem dX8_arrivalOf_17 : decode cX8_arrivalOf 17 = .ok (.bipush 32, 2) := by decide +kernel
theorem dX8_arrivalOf_19 : decode cX8_arrivalOf 19 = .ok (.imul, 1) := by decide +kernel
theorem dX8_arrivalOf_20 : decode cX8_arrivalOf 20 = .ok (.iload_n 2, 1) := by decide +kernel
theorem dX8_arrivalOf_21 : decode cX8_arrivalOf 21 = .ok (.iconst 2, 1) := by decide +kernel
theorem dX8_arrivalOf_22 : decode cX8_arrivalOf 22 = .ok (.imul, 1) := by decide +kernel
theorem dX8_arrivalOf_23 : decode cX8_arrivalOf 23 = .ok (.iadd, 1) := by decide +kernel
theorem dX8_arrivalOf_24 : decode cX8_arrivalOf 24 = .ok (.iload_n 3, 1) := by decide +kernel
theorem dX8_arrivalOf_25 : decode cX8_arrivalOf 25 = .ok (.iadd, 1) := by decide +kernel
theorem dX8_arrivalOf_26 : decode cX8_arrivalOf 26 = .ok (.daload, 1) := by decide +kernel
theorem dX8_arrivalOf_27 : decode cX8_arrivalOf 27 = .ok (.goto 6, 3) := by decide +kernel
theorem dX8_arrivalOf_30 : decode cX8_arrivalOf 30 = .ok (.ldc2_w 175, 3) := by decide +kernel
theorem dX8_arrivalOf_33 : decode cX8_arrivalOf 33 = .ok (.dreturn, 1) := by decide +kernel
theorem dX8_leftOf_0 : decode cX8_leftOf 0 = .ok (.aload_n 0, 1) := by decide +kernel
theorem dX8_leftOf_1 : decode cX8_leftOf 1 = .ok (.getfield 28, 3) := by decide +kernel
theorem dX8_leftOf_4 : decode cX8_leftOf 4 = .ok (.iload_n 1, 1) := by decide +kernel
theorem dX8_leftOf_5 : decode cX8_leftOf 5 = .ok (.iload_n 2, 1) := by decide +kernel
theorem dX8_leftOf_6 : decode cX8_leftOf 6 = .ok (.invokevirtual 117, 3) := by decide +kernel
theorem dX8_leftOf_9 : decode cX8_leftOf 9 = .ok (.ifCond .eq 17, 3) := by decide +kernel
theorem dX8_leftOf_12 : decode cX8_leftOf 12 = .ok (.aload_n 0, 1) := by decide +kernel
theorem dX8_leftOf_13 : decode cX8_leftOf 13 = .ok (.getfield 15, 3) := by decide +kernel
theorem dX8_leftOf_16 : decode cX8_leftOf 16 = .ok (.iload_n 1, 1) := by decide +kernel
theorem dX8_leftOf_17 : decode cX8_leftOf 17 = .ok (.bipush 16, 2) := by decide +kernel
theorem dX8_leftOf_19 : decode cX8_leftOf 19 = .ok (.imul, 1) := by decide +kernel
theorem dX8_leftOf_20 : decode cX8_leftOf 20 = .ok (.iload_n 2, 1) := by decide +kernel
theorem dX8_leftOf_21 : decode cX8_leftOf 21 = .ok (.iadd, 1) := by decide +kernel
theorem dX8_leftOf_22 : decode cX8_leftOf 22 = .ok (.daload, 1) := by decide +kernel
theorem dX8_leftOf_23 : decode cX8_leftOf 23 = .ok (.goto 6, 3) := by decide +kernel
theorem dX8_leftOf_26 : decode cX8_leftOf 26 = .ok (.ldc2_w 130, 3) := by decide +kernel
theorem dX8_leftOf_29 : decode cX8_leftOf 29 = .ok (.dreturn, 1) := by decide +kernel
theorem dX8_leastAt_0 : decode cX8_leastAt 0 = .ok (.aload_n 0, 1) := by decide +kernel
theorem dX8_leastAt_1 : decode cX8_leastAt 1 = .ok (.getfield 18, 3) := by decide +kernel
theorem dX8_leastAt_4 : decode cX8_leastAt 4 = .ok (.iload_n 1, 1) := by decide +kernel
theorem dX8_leastAt_5 : decode cX8_leastAt 5 = .ok (.daload, 1) := by decide +kernel
theorem dX8_leastAt_6 : decode cX8_leastAt 6 = .ok (.dreturn, 1) := by decide +kernel
theorem dX8_leastOfEnds_0 : decode cX8_leastOfEnds 0 = .ok (.ldc2_w 130, 3) := by decide +kernel
theorem dX8_leastOfEnds_3 : decode cX8_leastOfEnds 3 = .ok (.dstore_n 1, 1) := by decide +kernel
theorem dX8_leastOfEnds_4 : decode cX8_leastOfEnds 4 = .ok (.iconst 0, 1) := by decide +kernel
theorem dX8_leastOfEnds_5 : decode cX8_leastOfEnds 5 = .ok (.istore_n 3, 1) := by decide +kernel
theorem dX8_leastOfEnds_6 : decode cX8_leastOfEnds 6 = .ok (.iload_n 3, 1) := by decide +kernel
theorem dX8_leastOfEnds_7 : decode cX8_leastOfEnds 7 = .ok (.aload_n 0, 1) := by decide +kernel
theorem dX8_leastOfEnds_8 : decode cX8_leastOfEnds 8 = .ok (.getfield 24, 3) := by decide +kernel
theorem dX8_leastOfEnds_11 : decode cX8_leastOfEnds 11 = .ok (.getfield 40, 3) := by decide +kernel
theorem dX8_leastOfEnds_14 : decode cX8_leastOfEnds 14 = .ok (.if_icmp .ge 31, 3) := by decide +kernel
theorem dX8_leastOfEnds_17 : decode cX8_leastOfEnds 17 = .ok (.aload_n 0, 1) := by decide +kernel
theorem dX8_leastOfEnds_18 : decode cX8_leastOfEnds 18 = .ok (.getfield 28, 3) := by decide +kernel
theorem dX8_leastOfEnds_21 : decode cX8_leastOfEnds 21 = .ok (.iload_n 3, 1) := by decide +kernel
theorem dX8_leastOfEnds_22 : decode cX8_leastOfEnds 22 = .ok (.invokevirtual 177, 3) := by decide +kernel
theorem dX8_leastOfEnds_25 : decode cX8_leastOfEnds 25 = .ok (.ifCond .eq 14, 3) := by decide +kernel
theorem dX8_leastOfEnds_28 : decode cX8_leastOfEnds 28 = .ok (.dload_n 1, 1) := by decide +kernel
theorem dX8_leastOfEnds_29 : decode cX8_leastOfEnds 29 = .ok (.aload_n 0, 1) := by decide +kernel
theorem dX8_leastOfEnds_30 : decode cX8_leastOfEnds 30 = .ok (.getfield 18, 3) := by decide +kernel
theorem dX8_leastOfEnds_33 : decode cX8_leastOfEnds 33 = .ok (.iload_n 3, 1) := by decide +kernel
theorem dX8_leastOfEnds_34 : decode cX8_leastOfEnds 34 = .ok (.daload, 1) := by decide +kernel
theorem dX8_leastOfEnds_35 : decode cX8_leastOfEnds 35 = .ok (.invokestatic 135, 3) := by decide +kernel
theorem dX8_leastOfEnds_38 : decode cX8_leastOfEnds 38 = .ok (.dstore_n 1, 1) := by decide +kernel
theorem dX8_leastOfEnds_39 : decode cX8_leastOfEnds 39 = .ok (.iinc 3 1, 3) := by decide +kernel
theorem dX8_leastOfEnds_42 : decode cX8_leastOfEnds 42 = .ok (.goto (-36), 3) := by decide +kernel
theorem dX8_leastOfEnds_45 : decode cX8_leastOfEnds 45 = .ok (.dload_n 1, 1) := by decide +kernel
theorem dX8_leastOfEnds_46 : decode cX8_leastOfEnds 46 = .ok (.dreturn, 1) := by decide +kernel
theorem dX8_worstWay_0 : decode cX8_worstWay 0 = .ok (.aload_n 0, 1) := by decide +kernel
theorem dX8_worstWay_1 : decode cX8_worstWay 1 = .ok (.iload_n 1, 1) := by decide +kernel
theorem dX8_worstWay_2 : decode cX8_worstWay 2 = .ok (.invokevirtual 181, 3) := by decide +kernel
theorem dX8_worstWay_5 : decode cX8_worstWay 5 = .ok (.istore_n 3, 1) := by decide +kernel
theorem dX8_worstWay_6 : decode cX8_worstWay 6 = .ok (.aload_n 0, 1) := by decide +kernel
theorem dX8_worstWay_7 : decode cX8_worstWay 7 = .ok (.getfield 24, 3) := by decide +kernel
theorem dX8_worstWay_10 : decode cX8_worstWay 10 = .ok (.getfield 46, 3) := by decide +kernel
theorem dX8_worstWay_13 : decode cX8_worstWay 13 = .ok (.iload_n 1, 1) := by decide +kernel
theorem dX8_worstWay_14 : decode cX8_worstWay 14 = .ok (.aaload, 1) := by decide +kernel
theorem dX8_worstWay_15 : decode cX8_worstWay 15 = .ok (.getfield 104, 3) := by decide +kernel
theorem dX8_worstWay_18 : decode cX8_worstWay 18 = .ok (.istore 4, 2) := by decide +kernel
theorem dX8_worstWay_20 : decode cX8_worstWay 20 = .ok (.iload_n 3, 1) := by decide +kernel
theorem dX8_worstWay_21 : decode cX8_worstWay 21 = .ok (.iconst (-1), 1) := by decide +kernel
theorem dX8_worstWay_22 : decode cX8_worstWay 22 = .ok (.if_icmp .eq 9, 3) := by decide +kernel
theorem dX8_worstWay_25 : decode cX8_worstWay 25 = .ok (.iload 4, 2) := by decide +kernel
theorem dX8_worstWay_27 : decode cX8_worstWay 27 = .ok (.iconst (-1), 1) := by decide +kernel
theorem dX8_worstWay_28 : decode cX8_worstWay 28 = .ok (.if_icmp .ne 5, 3) := by decide +kernel
theorem dX8_worstWay_31 : decode cX8_worstWay 31 = .ok (.iconst (-1), 1) := by decide +kernel
theorem dX8_worstWay_32 : decode cX8_worstWay 32 = .ok (.ireturn, 1) := by decide +kernel
theorem dX8_worstWay_33 : decode cX8_worstWay 33 = .ok (.aload_n 0, 1) := by decide +kernel
theorem dX8_worstWay_34 : decode cX8_worstWay 34 = .ok (.iload_n 3, 1) := by decide +kernel
theorem dX8_worstWay_35 : decode cX8_worstWay 35 = .ok (.iload 4, 2) := by decide +kernel
theorem dX8_worstWay_37 : decode cX8_worstWay 37 = .ok (.iconst 1, 1) := by decide +kernel
theorem dX8_worstWay_38 : decode cX8_worstWay 38 = .ok (.invokevirtual 185, 3) := by decide +kernel
theorem dX8_worstWay_41 : decode cX8_worstWay 41 = .ok (.aload_n 0, 1) := by decide +kernel
theorem dX8_worstWay_42 : decode cX8_worstWay 42 = .ok (.iload_n 3, 1) := by decide +kernel
theorem dX8_worstWay_43 : decode cX8_worstWay 43 = .ok (.iload 4, 2) := by decide +kernel
theorem dX8_worstWay_45 : decode cX8_worstWay 45 = .ok (.iconst 0, 1) := by decide +kernel
theorem dX8_worstWay_46 : decode cX8_worstWay 46 = .ok (.invokevirtual 185, 3) := by decide +kernel
theorem dX8_worstWay_49 : decode cX8_worstWay 49 = .ok (.dcmp .l, 1) := by decide +kernel
theorem dX8_worstWay_50 : decode cX8_worstWay 50 = .ok (.ifCond .le 7, 3) := by decide +kernel
theorem dX8_worstWay_53 : decode cX8_worstWay 53 = .ok (.iconst 1, 1) := by decide +kernel
theorem dX8_worstWay_54 : decode cX8_worstWay 54 = .ok (.goto 4, 3) := by decide +kernel
theorem dX8_worstWay_57 : decode cX8_worstWay 57 = .ok (.iconst 0, 1) := by decide +kernel
theorem dX8_worstWay_58 : decode cX8_worstWay 58 = .ok (.istore 5, 2) := by decide +kernel
theorem dX8_worstWay_60 : decode cX8_worstWay 60 = .ok (.iload 4, 2) := by decide +kernel
theorem dX8_worstWay_62 : decode cX8_worstWay 62 = .ok (.iconst 2, 1) := by decide +kernel
theorem dX8_worstWay_63 : decode cX8_worstWay 63 = .ok (.imul, 1) := by decide +kernel
theorem dX8_worstWay_64 : decode cX8_worstWay 64 = .ok (.iload 5, 2) := by decide +kernel
theorem dX8_worstWay_66 : decode cX8_worstWay 66 = .ok (.ifCond .eq 7, 3) := by decide +kernel
theorem dX8_worstWay_69 : decode cX8_worstWay 69 = .ok (.iconst 1, 1) := by decide +kernel
theorem dX8_worstWay_70 : decode cX8_worstWay 70 = .ok (.goto 4, 3) := by decide +kernel
theorem dX8_worstWay_73 : decode cX8_worstWay 73 = .ok (.iconst 0, 1) := by decide +kernel
theorem dX8_worstWay_74 : decode cX8_worstWay 74 = .ok (.iadd, 1) := by decide +kernel
theorem dX8_worstWay_75 : decode cX8_worstWay 75 = .ok (.istore 6, 2) := by decide +kernel
theorem dX8_worstWay_77 : decode cX8_worstWay 77 = .ok (.iconst 0, 1) := by decide +kernel
theorem dX8_worstWay_78 : decode cX8_worstWay 78 = .ok (.istore 7, 2) := by decide +kernel
theorem dX8_worstWay_80 : decode cX8_worstWay 80 = .ok (.iload 7, 2) := by decide +kernel
theorem dX8_worstWay_82 : decode cX8_worstWay 82 = .ok (.iload_n 2, 1) := by decide +kernel
theorem dX8_worstWay_83 : decode cX8_worstWay 83 = .ok (.if_icmp .ge 36, 3) := by decide +kernel
theorem dX8_worstWay_86 : decode cX8_worstWay 86 = .ok (.iload 6, 2) := by decide +kernel
theorem dX8_worstWay_88 : decode cX8_worstWay 88 = .ok (.iconst (-1), 1) := by decide +kernel
theorem dX8_worstWay_89 : decode cX8_worstWay 89 = .ok (.if_icmp .eq 30, 3) := by decide +kernel
theorem dX8_worstWay_92 : decode cX8_worstWay 92 = .ok (.iload 6, 2) := by decide +kernel
theorem dX8_worstWay_94 : decode cX8_worstWay 94 = .ok (.iconst 2, 1) := by decide +kernel
theorem dX8_worstWay_95 : decode cX8_worstWay 95 = .ok (.idiv, 1) := by decide +kernel
theorem dX8_worstWay_96 : decode cX8_worstWay 96 = .ok (.iload_n 3, 1) := by decide +kernel
theorem dX8_worstWay_97 : decode cX8_worstWay 97 = .ok (.if_icmp .ne 7, 3) := by decide +kernel
theorem dX8_worstWay_100 : decode cX8_worstWay 100 = .ok (.iconst (-1), 1) := by decide +kernel
theorem dX8_worstWay_101 : decode cX8_worstWay 101 = .ok (.goto 10, 3) := by decide +kernel
theorem dX8_worstWay_104 : decode cX8_worstWay 104 = .ok (.aload_n 0, 1) := by decide +kernel
theorem dX8_worstWay_105 : decode cX8_worstWay 105 = .ok (.iload_n 3, 1) := by decide +kernel
theorem dX8_worstWay_106 : decode cX8_worstWay 106 = .ok (.iload 6, 2) := by decide +kernel
theorem dX8_worstWay_108 : decode cX8_worstWay 108 = .ok (.invokevirtual 100, 3) := by decide +kernel
theorem dX8_worstWay_111 : decode cX8_worstWay 111 = .ok (.istore 6, 2) := by decide +kernel
theorem dX8_worstWay_113 : decode cX8_worstWay 113 = .ok (.iinc 7 1, 3) := by decide +kernel
theorem dX8_worstWay_116 : decode cX8_worstWay 116 = .ok (.goto (-36), 3) := by decide +kernel
theorem dX8_worstWay_119 : decode cX8_worstWay 119 = .ok (.iload 6, 2) := by decide +kernel
theorem dX8_worstWay_121 : decode cX8_worstWay 121 = .ok (.iconst (-1), 1) := by decide +kernel
theorem dX8_worstWay_122 : decode cX8_worstWay 122 = .ok (.if_icmp .ne 7, 3) := by decide +kernel
theorem dX8_worstWay_125 : decode cX8_worstWay 125 = .ok (.iconst (-1), 1) := by decide +kernel
theorem dX8_worstWay_126 : decode cX8_worstWay 126 = .ok (.goto 7, 3) := by decide +kernel
theorem dX8_worstWay_129 : decode cX8_worstWay 129 = .ok (.iload 6, 2) := by decide +kernel
theorem dX8_worstWay_131 : decode cX8_worstWay 131 = .ok (.iconst 2, 1) := by decide +kernel
theorem dX8_worstWay_132 : decode cX8_worstWay 132 = .ok (.idiv, 1) := by decide +kernel
theorem dX8_worstWay_133 : decode cX8_worstWay 133 = .ok (.ireturn, 1) := by decide +kernel
theorem dX8_worstStart_0 : decode cX8_worstStart 0 = .ok (.iconst (-1), 1) := by decide +kernel
theorem dX8_worstStart_1 : decode cX8_worstStart 1 = .ok (.istore_n 2, 1) := by decide +kernel
theorem dX8_worstStart_2 : decode cX8_worstStart 2 = .ok (.iconst 0, 1) := by decide +kernel
theorem dX8_worstStart_3 : decode cX8_worstStart 3 = .ok (.istore_n 3, 1) := by decide +kernel
theorem dX8_worstStart_4 : decode cX8_worstStart 4 = .ok (.iload_n 3, 1) := by decide +kernel
theorem dX8_worstStart_5 : decode cX8_worstStart 5 = .ok (.aload_n 0, 1) := by decide +kernel
theorem dX8_worstStart_6 : decode cX8_worstStart 6 = .ok (.getfield 24, 3) := by decide +kernel
theorem dX8_worstStart_9 : decode cX8_worstStart 9 = .ok (.getfield 40, 3) := by decide +kernel
theorem dX8_worstStart_12 : decode cX8_worstStart 12 = .ok (.if_icmp .ge 44, 3) := by decide +kernel
theorem dX8_worstStart_15 : decode cX8_worstStart 15 = .ok (.aload_n 0, 1) := by decide +kernel
theorem dX8_worstStart_16 : decode cX8_worstStart 16 = .ok (.getfield 28, 3) := by decide +kernel
theorem dX8_worstStart_19 : decode cX8_worstStart 19 = .ok (.iload_n 3, 1) := by decide +kernel
theorem dX8_worstStart_20 : decode cX8_worstStart 20 = .ok (.iload_n 1, 1) := by decide +kernel
theorem dX8_worstStart_21 : decode cX8_worstStart 21 = .ok (.invokevirtual 117, 3) := by decide +kernel
theorem dX8_worstStart_24 : decode cX8_worstStart 24 = .ok (.ifCond .eq 26, 3) := by decide +kernel
theorem dX8_worstStart_27 : decode cX8_worstStart 27 = .ok (.iload_n 2, 1) := by decide +kernel
theorem dX8_worstStart_28 : decode cX8_worstStart 28 = .ok (.iconst (-1), 1) := by decide +kernel
theorem dX8_worstStart_29 : decode cX8_worstStart 29 = .ok (.if_icmp .eq 19, 3) := by decide +kernel
theorem dX8_worstStart_32 : decode cX8_worstStart 32 = .ok (.aload_n 0, 1) := by decide +kernel
theorem dX8_worstStart_33 : decode cX8_worstStart 33 = .ok (.iload_n 3, 1) := by decide +kernel
theorem dX8_worstStart_34 : decode cX8_worstStart 34 = .ok (.iload_n 1, 1) := by decide +kernel
theorem dX8_worstStart_35 : decode cX8_worstStart 35 = .ok (.invokevirtual 132, 3) := by decide +kernel
theorem dX8_worstStart_38 : decode cX8_worstStart 38 = .ok (.aload_n 0, 1) := by decide +kernel
theorem dX8_worstStart_39 : decode cX8_worstStart 39 = .ok (.iload_n 2, 1) := by decide +kernel
theorem dX8_worstStart_40 : decode cX8_worstStart 40 = .ok (.iload_n 1, 1) := by decide +kernel
theorem dX8_worstStart_41 : decode cX8_worstStart 41 = .ok (.invokevirtual 132, 3) := by decide +kernel
theorem dX8_worstStart_44 : decode cX8_worstStart 44 = .ok (.dcmp .g, 1) := by decide +kernel
theorem dX8_worstStart_45 : decode cX8_worstStart 45 = .ok (.ifCond .ge 5, 3) := by decide +kernel
theorem dX8_worstStart_48 : decode cX8_worstStart 48 = .ok (.iload_n 3, 1) := by decide +kernel
theorem dX8_worstStart_49 : decode cX8_worstStart 49 = .ok (.istore_n 2, 1) := by decide +kernel
theorem dX8_worstStart_50 : decode cX8_worstStart 50 = .ok (.iinc 3 1, 3) := by decide +kernel
theorem dX8_worstStart_53 : decode cX8_worstStart 53 = .ok (.goto (-49), 3) := by decide +kernel
theorem dX8_worstStart_56 : decode cX8_worstStart 56 = .ok (.iload_n 2, 1) := by decide +kernel
theorem dX8_worstStart_57 : decode cX8_worstStart 57 = .ok (.ireturn, 1) := by decide +kernel
theorem dX9_init_0 : decode cX9_init 0 = .ok (.aload_n 0, 1) := by decide +kernel
theorem dX9_init_1 : decode cX9_init 1 = .ok (.invokespecial 3, 3) := by decide +kernel
theorem dX9_init_4 : decode cX9_init 4 = .ok (.aload_n 0, 1) := by decide +kernel
theorem dX9_init_5 : decode cX9_init 5 = .ok (.new 9, 3) := by decide +kernel
theorem dX9_init_8 : decode cX9_init 8 = .ok (.dup, 1) := by decide +kernel
theorem dX9_init_9 : decode cX9_init 9 = .ok (.invokespecial 11, 3) := by decide +kernel
theorem dX9_init_12 : decode cX9_init 12 = .ok (.putfield 12, 3) := by decide +kernel
theorem dX9_init_15 : decode cX9_init 15 = .ok (.aload_n 0, 1) := by decide +kernel
theorem dX9_init_16 : decode cX9_init 16 = .ok (.new 16, 3) := by decide +kernel
theorem dX9_init_19 : decode cX9_init 19 = .ok (.dup, 1) := by decide +kernel
theorem dX9_init_20 : decode cX9_init 20 = .ok (.aload_n 0, 1) := by decide +kernel
theorem dX9_init_21 : decode cX9_init 21 = .ok (.getfield 12, 3) := by decide +kernel
theorem dX9_init_24 : decode cX9_init 24 = .ok (.invokespecial 18, 3) := by decide +kernel
theorem dX9_init_27 : decode cX9_init 27 = .ok (.putfield 21, 3) := by decide +kernel
theorem dX9_init_30 : decode cX9_init 30 = .ok (.return_, 1) := by decide +kernel
theorem dX9_clock_0 : decode cX9_clock 0 = .ok (.aload_n 0, 1) := by decide +kernel
theorem dX9_clock_1 : decode cX9_clock 1 = .ok (.aload_n 0, 1) := by decide +kernel
theorem dX9_clock_2 : decode cX9_clock 2 = .ok (.getfield 12, 3) := by decide +kernel
theorem dX9_clock_5 : decode cX9_clock 5 = .ok (.getfield 25, 3) := by decide +kernel
theorem dX9_clock_8 : decode cX9_clock 8 = .ok (.iconst 4, 1) := by decide +kernel
theorem dX9_clock_9 : decode cX9_clock 9 = .ok (.if_icmp .ge 7, 3) := by decide +kernel
theorem dX9_clock_12 : decode cX9_clock 12 = .ok (.iconst 1, 1) := by decide +kernel
theorem dX9_clock_13 : decode cX9_clock 13 = .ok (.goto 4, 3) := by decide +kernel
theorem dX9_clock_16 : decode cX9_clock 16 = .ok (.iconst 0, 1) := by decide +kernel
theorem dX9_clock_17 : decode cX9_clock 17 = .ok (.invokevirtual 29, 3) := by decide +kernel
theorem dX9_clock_20 : decode cX9_clock 20 = .ok (.iload_n 1, 1) := by decide +kernel
theorem dX9_clock_21 : decode cX9_clock 21 = .ok (.iconst 4, 1) := by decide +kernel
theorem dX9_clock_22 : decode cX9_clock 22 = .ok (.bipush 40, 2) := by decide +kernel
theorem dX9_clock_24 : decode cX9_clock 24 = .ok (.invokestatic 33, 3) := by decide +kernel
theorem dX9_clock_27 : decode cX9_clock 27 = .ok (.ifCond .eq 37, 3) := by decide +kernel
theorem dX9_clock_30 : decode cX9_clock 30 = .ok (.iload_n 2, 1) := by decide +kernel
theorem dX9_clock_31 : decode cX9_clock 31 = .ok (.iconst 0, 1) := by decide +kernel
theorem dX9_clock_32 : decode cX9_clock 32 = .ok (.bipush 40, 2) := by decide +kernel
theorem dX9_clock_34 : decode cX9_clock 34 = .ok (.invokestatic 33, 3) := by decide +kernel
theorem dX9_clock_37 : decode cX9_clock 37 = .ok (.ifCond .eq 27, 3) := by decide +kernel
theorem dX9_clock_40 : decode cX9_clock 40 = .ok (.iload_n 3, 1) := by decide +kernel
theorem dX9_clock_41 : decode cX9_clock 41 = .ok (.iconst 0, 1) := by decide +kernel
theorem dX9_clock_42 : decode cX9_clock 42 = .ok (.bipush 20, 2) := by decide +kernel
theorem dX9_clock_44 : decode cX9_clock 44 = .ok (.invokestatic 33, 3) := by decide +kernel
theorem dX9_clock_47 : decode cX9_clock 47 = .ok (.ifCond .eq 17, 3) := by decide +kernel
theorem dX9_clock_50 : decode cX9_clock 50 = .ok (.iload 4, 2) := by decide +kernel
theorem dX9_clock_52 : decode cX9_clock 52 = .ok (.iconst 0, 1) := by decide +kernel
theorem dX9_clock_53 : decode cX9_clock 53 = .ok (.iconst 1, 1) := by decide +kernel
theorem dX9_clock_54 : decode cX9_clock 54 = .ok (.invokestatic 33, 3) := by decide +kernel
theorem dX9_clock_57 : decode cX9_clock 57 = .ok (.ifCond .eq 7, 3) := by decide +kernel
theorem dX9_clock_60 : decode cX9_clock 60 = .ok (.iconst 1, 1) := by decide +kernel
theorem dX9_clock_61 : decode cX9_clock 61 = .ok (.goto 4, 3) := by decide +kernel
theorem dX9_clock_64 : decode cX9_clock 64 = .ok (.iconst 0, 1) := by decide +kernel
theorem dX9_clock_65 : decode cX9_clock 65 = .ok (.invokestatic 37, 3) := by decide +kernel
theorem dX9_clock_68 : decode cX9_clock 68 = .ok (.aload_n 0, 1) := by decide +kernel
theorem dX9_clock_69 : decode cX9_clock 69 = .ok (.getfield 21, 3) := by decide +kernel
theorem dX9_clock_72 : decode cX9_clock 72 = .ok (.invokevirtual 40, 3) := by decide +kernel
theorem dX9_clock_75 : decode cX9_clock 75 = .ok (.aload_n 0, 1) := by decide +kernel
theorem dX9_clock_76 : decode cX9_clock 76 = .ok (.getfield 12, 3) := by decide +kernel
theorem dX9_clock_79 : decode cX9_clock 79 = .ok (.iload_n 1, 1) := by decide +kernel
theorem dX9_clock_80 : decode cX9_clock 80 = .ok (.iload_n 2, 1) := by decide +kernel
theorem dX9_clock_81 : decode cX9_clock 81 = .ok (.iload_n 3, 1) := by decide +kernel
theorem dX9_clock_82 : decode cX9_clock 82 = .ok (.iload 4, 2) := by decide +kernel
theorem dX9_clock_84 : decode cX9_clock 84 = .ok (.aload_n 0, 1) := by decide +kernel
theorem dX9_clock_85 : decode cX9_clock 85 = .ok (.getfield 12, 3) := by decide +kernel
theorem dX9_clock_88 : decode cX9_clock 88 = .ok (.getfield 25, 3) := by decide +kernel
theorem dX9_clock_91 : decode cX9_clock 91 = .ok (.invokevirtual 43, 3) := by decide +kernel
theorem dX9_clock_94 : decode cX9_clock 94 = .ok (.ireturn, 1) := by decide +kernel
theorem dX9_divide_0 : decode cX9_divide 0 = .ok (.aload_n 0, 1) := by decide +kernel
theorem dX9_divide_1 : decode cX9_divide 1 = .ok (.aload_n 0, 1) := by decide +kernel
theorem dX9_divide_2 : decode cX9_divide 2 = .ok (.getfield 12, 3) := by decide +kernel
theorem dX9_divide_5 : decode cX9_divide 5 = .ok (.getfield 25, 3) := by decide +kernel
theorem dX9_divide_8 : decode cX9_divide 8 = .ok (.iconst 4, 1) := by decide +kernel
theorem dX9_divide_9 : decode cX9_divide 9 = .ok (.if_icmp .ge 7, 3) := by decide +kernel
theorem dX9_divide_12 : decode cX9_divide 12 = .ok (.iconst 1, 1) := by decide +kernel
theorem dX9_divide_13 : decode cX9_divide 13 = .ok (.goto 4, 3) := by decide +kernel
theorem dX9_divide_16 : decode cX9_divide 16 = .ok (.iconst 0, 1) := by decide +kernel
theorem dX9_divide_17 : decode cX9_divide 17 = .ok (.invokevirtual 29, 3) := by decide +kernel
theorem dX9_divide_20 : decode cX9_divide 20 = .ok (.aload_n 0, 1) := by decide +kernel
theorem dX9_divide_21 : decode cX9_divide 21 = .ok (.getfield 12, 3) := by decide +kernel
theorem dX9_divide_24 : decode cX9_divide 24 = .ok (.iload_n 1, 1) := by decide +kernel
theorem dX9_divide_25 : decode cX9_divide 25 = .ok (.invokevirtual 47, 3) := by decide +kernel
theorem dX9_divide_28 : decode cX9_divide 28 = .ok (.invokestatic 51, 3) := by decide +kernel
theorem dX9_divide_31 : decode cX9_divide 31 = .ok (.iload_n 2, 1) := by decide +kernel
theorem dX9_divide_32 : decode cX9_divide 32 = .ok (.iconst 2, 1) := by decide +kernel
theorem dX9_divide_33 : decode cX9_divide 33 = .ok (.iconst 4, 1) := by decide +kernel
theorem dX9_divide_34 : decode cX9_divide 34 = .ok (.invokestatic 33, 3) := by decide +kernel
theorem dX9_divide_37 : decode cX9_divide 37 = .ok (.ifCond .eq 17, 3) := by decide +kernel
theorem dX9_divide_40 : decode cX9_divide 40 = .ok (.iload_n 3, 1) := by decide +kernel
theorem dX9_divide_41 : decode cX9_divide 41 = .ok (.iconst 0, 1) := by decide +kernel
theorem dX9_divide_42 : decode cX9_divide 42 = .ok (.bipush 20, 2) := by decide +kernel
theorem dX9_divide_44 : decode cX9_divide 44 = .ok (.invokestatic 33, 3) := by decide +kernel
theorem dX9_divide_47 : decode cX9_divide 47 = .ok (.ifCond .eq 7, 3) := by decide +kernel
theorem dX9_divide_50 : decode cX9_divide 50 = .ok (.iconst 1, 1) := by decide +kernel
theorem dX9_divide_51 : decode cX9_divide 51 = .ok (.goto 4, 3) := by decide +kernel
theorem dX9_divide_54 : decode cX9_divide 54 = .ok (.iconst 0, 1) := by decide +kernel
theorem dX9_divide_55 : decode cX9_divide 55 = .ok (.invokestatic 37, 3) := by decide +kernel
theorem dX9_divide_58 : decode cX9_divide 58 = .ok (.aload_n 0, 1) := by decide +kernel
theorem dX9_divide_59 : decode cX9_divide 59 = .ok (.getfield 21, 3) := by decide +kernel
theorem dX9_divide_62 : decode cX9_divide 62 = .ok (.invokevirtual 40, 3) := by decide +kernel
theorem dX9_divide_65 : decode cX9_divide 65 = .ok (.aload_n 0, 1) := by decide +kernel
theorem dX9_divide_66 : decode cX9_divide 66 = .ok (.getfield 12, 3) := by decide +kernel
theorem dX9_divide_69 : decode cX9_divide 69 = .ok (.getfield 54, 3) := by decide +kernel
theorem dX9_divide_72 : decode cX9_divide 72 = .ok (.iload_n 1, 1) := by decide +kernel
theorem dX9_divide_73 : decode cX9_divide 73 = .ok (.aaload, 1) := by decide +kernel
theorem dX9_divide_74 : decode cX9_divide 74 = .ok (.astore 4, 2) := by decide +kernel
theorem dX9_divide_76 : decode cX9_divide 76 = .ok (.aload_n 0, 1) := by decide +kernel
theorem dX9_divide_77 : decode cX9_divide 77 = .ok (.getfield 12, 3) := by decide +kernel
theorem dX9_divide_80 : decode cX9_divide 80 = .ok (.aload 4, 2) := by decide +kernel
theorem dX9_divide_82 : decode cX9_divide 82 = .ok (.getfield 58, 3) := by decide +kernel
theorem dX9_divide_85 : decode cX9_divide 85 = .ok (.iload_n 2, 1) := by decide +kernel
theorem dX9_divide_86 : decode cX9_divide 86 = .ok (.imul, 1) := by decide +kernel
theorem dX9_divide_87 : decode cX9_divide 87 = .ok (.aload 4, 2) := by decide +kernel
theorem dX9_divide_89 : decode cX9_divide 89 = .ok (.getfield 63, 3) := by decide +kernel
theorem dX9_divide_92 : decode cX9_divide 92 = .ok (.iload_n 3, 1) := by decide +kernel
theorem dX9_divide_93 : decode cX9_divide 93 = .ok (.iadd, 1) := by decide +kernel
theorem dX9_divide_94 : decode cX9_divide 94 = .ok (.aload 4, 2) := by decide +kernel
theorem dX9_divide_96 : decode cX9_divide 96 = .ok (.getfield 66, 3) := by decide +kernel
theorem dX9_divide_99 : decode cX9_divide 99 = .ok (.aload 4, 2) := by decide +kernel
theorem dX9_divide_101 : decode cX9_divide 101 = .ok (.getfield 69, 3) := by decide +kernel
theorem dX9_divide_104 : decode cX9_divide 104 = .ok (.aload 4, 2) := by decide +kernel
theorem dX9_divide_106 : decode cX9_divide 106 = .ok (.getfield 72, 3) := by decide +kernel
theorem dX9_divide_109 : decode cX9_divide 109 = .ok (.invokevirtual 43, 3) := by decide +kernel
theorem dX9_divide_112 : decode cX9_divide 112 = .ok (.ireturn, 1) := by decide +kernel
theorem dX9_corner_0 : decode cX9_corner 0 = .ok (.aload_n 0, 1) := by decide +kernel
theorem dX9_corner_1 : decode cX9_corner 1 = .ok (.aload_n 0, 1) := by decide +kernel
theorem dX9_corner_2 : decode cX9_corner 2 = .ok (.getfield 12, 3) := by decide +kernel
theorem dX9_corner_5 : decode cX9_corner 5 = .ok (.getfield 75, 3) := by decide +kernel
theorem dX9_corner_8 : decode cX9_corner 8 = .ok (.iconst 3, 1) := by decide +kernel
theorem dX9_corner_9 : decode cX9_corner 9 = .ok (.if_icmp .ge 7, 3) := by decide +kernel
theorem dX9_corner_12 : decode cX9_corner 12 = .ok (.iconst 1, 1) := by decide +kernel
theorem dX9_corner_13 : decode cX9_corner 13 = .ok (.goto 4, 3) := by decide +kernel
theorem dX9_corner_16 : decode cX9_corner 16 = .ok (.iconst 0, 1) := by decide +kernel
theorem dX9_corner_17 : decode cX9_corner 17 = .ok (.invokevirtual 29, 3) := by decide +kernel
theorem dX9_corner_20 : decode cX9_corner 20 = .ok (.iload_n 1, 1) := by decide +kernel
theorem dX9_corner_21 : decode cX9_corner 21 = .ok (.bipush 8, 2) := by decide +kernel
theorem dX9_corner_23 : decode cX9_corner 23 = .ok (.bipush 16, 2) := by decide +kernel
theorem dX9_corner_25 : decode cX9_corner 25 = .ok (.invokestatic 33, 3) := by decide +kernel
theorem dX9_corner_28 : decode cX9_corner 28 = .ok (.ifCond .eq 17, 3) := by decide +kernel
theorem dX9_corner_31 : decode cX9_corner 31 = .ok (.iload_n 2, 1) := by decide +kernel
theorem dX9_corner_32 : decode cX9_corner 32 = .ok (.iconst 1, 1) := by decide +kernel
theorem dX9_corner_33 : decode cX9_corner 33 = .ok (.bipush 8, 2) := by decide +kernel
theorem dX9_corner_35 : decode cX9_corner 35 = .ok (.invokestatic 33, 3) := by decide +kernel
theorem dX9_corner_38 : decode cX9_corner 38 = .ok (.ifCond .eq 7, 3) := by decide +kernel
theorem dX9_corner_41 : decode cX9_corner 41 = .ok (.iconst 1, 1) := by decide +kernel
theorem dX9_corner_42 : decode cX9_corner 42 = .ok (.goto 4, 3) := by decide +kernel
theorem dX9_corner_45 : decode cX9_corner 45 = .ok (.iconst 0, 1) := by decide +kernel
theorem dX9_corner_46 : decode cX9_corner 46 = .ok (.invokestatic 37, 3) := by decide +kernel
theorem dX9_corner_49 : decode cX9_corner 49 = .ok (.aload_n 0, 1) := by decide +kernel
theorem dX9_corner_50 : decode cX9_corner 50 = .ok (.getfield 21, 3) := by decide +kernel
theorem dX9_corner_53 : decode cX9_corner 53 = .ok (.invokevirtual 40, 3) := by decide +kernel
theorem dX9_corner_56 : decode cX9_corner 56 = .ok (.aload_n 0, 1) := by decide +kernel
theorem dX9_corner_57 : decode cX9_corner 57 = .ok (.getfield 12, 3) := by decide +kernel
theorem dX9_corner_60 : decode cX9_corner 60 = .ok (.iload_n 1, 1) := by decide +kernel
theorem dX9_corner_61 : decode cX9_corner 61 = .ok (.iload_n 2, 1) := by decide +kernel
theorem dX9_corner_62 : decode cX9_corner 62 = .ok (.invokevirtual 78, 3) := by decide +kernel
theorem dX9_corner_65 : decode cX9_corner 65 = .ok (.ireturn, 1) := by decide +kernel
theorem dX9_node_0 : decode cX9_node 0 = .ok (.aload_n 0, 1) := by decide +kernel
theorem dX9_node_1 : decode cX9_node 1 = .ok (.aload_n 0, 1) := by decide +kernel
theorem dX9_node_2 : decode cX9_node 2 = .ok (.getfield 12, 3) := by decide +kernel
theorem dX9_node_5 : decode cX9_node 5 = .ok (.getfield 82, 3) := by decide +kernel
theorem dX9_node_8 : decode cX9_node 8 = .ok (.bipush 16, 2) := by decide +kernel
theorem dX9_node_10 : decode cX9_node 10 = .ok (.if_icmp .ge 7, 3) := by decide +kernel
theorem dX9_node_13 : decode cX9_node 13 = .ok (.iconst 1, 1) := by decide +kernel
theorem dX9_node_14 : decode cX9_node 14 = .ok (.goto 4, 3) := by decide +kernel
theorem dX9_node_17 : decode cX9_node 17 = .ok (.iconst 0, 1) := by decide +kernel
theorem dX9_node_18 : decode cX9_node 18 = .ok (.invokevirtual 29, 3) := by decide +kernel
theorem dX9_node_21 : decode cX9_node 21 = .ok (.iload_n 1, 1) := by decide +kernel
theorem dX9_node_22 : decode cX9_node 22 = .ok (.iconst 1, 1) := by decide +kernel
theorem dX9_node_23 : decode cX9_node 23 = .ok (.iconst 5, 1) := by decide +kernel
theorem dX9_node_24 : decode cX9_node 24 = .ok (.invokestatic 33, 3) := by decide +kernel
theorem dX9_node_27 : decode cX9_node 27 = .ok (.ifCond .ne 15, 3) := by decide +kernel
theorem dX9_node_30 : decode cX9_node 30 = .ok (.iload_n 1, 1) := by decide +kernel
theorem dX9_node_31 : decode cX9_node 31 = .ok (.bipush 7, 2) := by decide +kernel
theorem dX9_node_33 : decode cX9_node 33 = .ok (.if_icmp .eq 9, 3) := by decide +kernel
theorem dX9_node_36 : decode cX9_node 36 = .ok (.iload_n 1, 1) := by decide +kernel
theorem dX9_node_37 : decode cX9_node 37 = .ok (.bipush 8, 2) := by decide +kernel
theorem dX9_node_39 : decode cX9_node 39 = .ok (.if_icmp .ne 7, 3) := by decide +kernel
theorem dX9_node_42 : decode cX9_node 42 = .ok (.iconst 1, 1) := by decide +kernel
theorem dX9_node_43 : decode cX9_node 43 = .ok (.goto 4, 3) := by decide +kernel
theorem dX9_node_46 : decode cX9_node 46 = .ok (.iconst 0, 1) := by decide +kernel
theorem dX9_node_47 : decode cX9_node 47 = .ok (.istore 5, 2) := by decide +kernel
theorem dX9_node_49 : decode cX9_node 49 = .ok (.iload_n 1, 1) := by decide +kernel
theorem dX9_node_50 : decode cX9_node 50 = .ok (.iconst 3, 1) := by decide +kernel
theorem dX9_node_51 : decode cX9_node 51 = .ok (.iconst 5, 1) := by decide +kernel
theorem dX9_node_52 : decode cX9_node 52 = .ok (.invokestatic 33, 3) := by decide +kernel
theorem dX9_node_55 : decode cX9_node 55 = .ok (.istore 6, 2) := by decide +kernel
theorem dX9_node_57 : decode cX9_node 57 = .ok (.iload_n 1, 1) := by decide +kernel
theorem dX9_node_58 : decode cX9_node 58 = .ok (.ifCond .eq 14, 3) := by decide +kernel
theorem dX9_node_61 : decode cX9_node 61 = .ok (.iload_n 1, 1) := by decide +kernel
theorem dX9_node_62 : decode cX9_node 62 = .ok (.bipush 6, 2) := by decide +kernel
theorem dX9_node_64 : decode cX9_node 64 = .ok (.bipush 8, 2) := by decide +kernel
theorem dX9_node_66 : decode cX9_node 66 = .ok (.invokestatic 33, 3) := by decide +kernel
theorem dX9_node_69 : decode cX9_node 69 = .ok (.ifCond .eq 7, 3) := by decide +kernel
theorem dX9_node_72 : decode cX9_node 72 = .ok (.iconst 1, 1) := by decide +kernel
theorem dX9_node_73 : decode cX9_node 73 = .ok (.goto 4, 3) := by decide +kernel
theorem dX9_node_76 : decode cX9_node 76 = .ok (.iconst 0, 1) := by decide +kernel
theorem dX9_node_77 : decode cX9_node 77 = .ok (.istore 7, 2) := by decide +kernel
theorem dX9_node_79 : decode cX9_node 79 = .ok (.iload 5, 2) := by decide +kernel
theorem dX9_node_81 : decode cX9_node 81 = .ok (.ifCond .eq 14, 3) := by decide +kernel
theorem dX9_node_84 : decode cX9_node 84 = .ok (.aload_n 0, 1) := by decide +kernel
theorem dX9_node_85 : decode cX9_node 85 = .ok (.getfield 12, 3) := by decide +kernel
theorem dX9_node_88 : decode cX9_node 88 = .ok (.iload_n 2, 1) := by decide +kernel
theorem dX9_node_89 : decode cX9_node 89 = .ok (.invokevirtual 85, 3) := by decide +kernel
theorem dX9_node_92 : decode cX9_node 92 = .ok (.ifCond .eq 40, 3) := by decide +kernel
theorem dX9_node_95 : decode cX9_node 95 = .ok (.iload 6, 2) := by decide +kernel
theorem dX9_node_97 : decode cX9_node 97 = .ok (.ifCond .eq 14, 3) := by decide +kernel
theorem dX9_node_100 : decode cX9_node 100 = .ok (.aload_n 0, 1) := by decide +kernel
theorem dX9_node_101 : decode cX9_node 101 = .ok (.getfield 12, 3) := by decide +kernel
theorem dX9_node_104 : decode cX9_node 104 = .ok (.iload_n 3, 1) := by decide +kernel
theorem dX9_node_105 : decode cX9_node 105 = .ok (.invokevirtual 85, 3) := by decide +kernel
theorem dX9_node_108 : decode cX9_node 108 = .ok (.ifCond .eq 24, 3) := by decide +kernel
theorem dX9_node_111 : decode cX9_node 111 = .ok (.iload 7, 2) := by decide +kernel
theorem dX9_node_113 : decode cX9_node 113 = .ok (.ifCond .eq 15, 3) := by decide +kernel
theorem dX9_node_116 : decode cX9_node 116 = .ok (.aload_n 0, 1) := by decide +kernel
theorem dX9_node_117 : decode cX9_node 117 = .ok (.getfield 12, 3) := by decide +kernel
theorem dX9_node_120 : decode cX9_node 120 = .ok (.iload 4, 2) := by decide +kernel
theorem dX9_node_122 : decode cX9_node 122 = .ok (.invokevirtual 47, 3) := by decide +kernel
theorem dX9_node_125 : decode cX9_node 125 = .ok (.ifCond .eq 7, 3) := by decide +kernel
theorem dX9_node_128 : decode cX9_node 128 = .ok (.iconst 1, 1) := by decide +kernel
theorem dX9_node_129 : decode cX9_node 129 = .ok (.goto 4, 3) := by decide +kernel
theorem dX9_node_132 : decode cX9_node 132 = .ok (.iconst 0, 1) := by decide +kernel
theorem dX9_node_133 : decode cX9_node 133 = .ok (.invokestatic 51, 3) := by decide +kernel
theorem dX9_node_136 : decode cX9_node 136 = .ok (.iload_n 1, 1) := by decide +kernel
theorem dX9_node_137 : decode cX9_node 137 = .ok (.iconst 0, 1) := by decide +kernel
theorem dX9_node_138 : decode cX9_node 138 = .ok (.bipush 8, 2) := by decide +kernel
theorem dX9_node_140 : decode cX9_node 140 = .ok (.invokestatic 33, 3) := by decide +kernel
theorem dX9_node_143 : decode cX9_node 143 = .ok (.ifCond .eq 51, 3) := by decide +kernel
theorem dX9_node_146 : decode cX9_node 146 = .ok (.iload 5, 2) := by decide +kernel
theorem dX9_node_148 : decode cX9_node 148 = .ok (.ifCond .eq 20, 3) := by decide +kernel
theorem dX9_node_151 : decode cX9_node 151 = .ok (.aload_n 0, 1) := by decide +kernel
theorem dX9_node_152 : decode cX9_node 152 = .ok (.getfield 12, 3) := by decide +kernel
theorem dX9_node_155 : decode cX9_node 155 = .ok (.getfield 88, 3) := by decide +kernel
theorem dX9_node_158 : decode cX9_node 158 = .ok (.iload_n 2, 1) := by decide +kernel
theorem dX9_node_159 : decode cX9_node 159 = .ok (.aaload, 1) := by decide +kernel
theorem dX9_node_160 : decode cX9_node 160 = .ok (.getfield 92, 3) := by decide +kernel
theorem dX9_node_163 : decode cX9_node 163 = .ok (.bipush 8, 2) := by decide +kernel
theorem dX9_node_165 : decode cX9_node 165 = .ok (.if_icmp .eq 29, 3) := by decide +kernel
theorem dX9_node_168 : decode cX9_node 168 = .ok (.iload 6, 2) := by decide +kernel
theorem dX9_node_170 : decode cX9_node 170 = .ok (.ifCond .eq 20, 3) := by decide +kernel
theorem dX9_node_173 : decode cX9_node 173 = .ok (.aload_n 0, 1) := by decide +kernel
theorem dX9_node_174 : decode cX9_node 174 = .ok (.getfield 12, 3) := by decide +kernel
theorem dX9_node_177 : decode cX9_node 177 = .ok (.getfield 88, 3) := by decide +kernel
theorem dX9_node_180 : decode cX9_node 180 = .ok (.iload_n 3, 1) := by decide +kernel
theorem dX9_node_181 : decode cX9_node 181 = .ok (.aaload, 1) := by decide +kernel
theorem dX9_node_182 : decode cX9_node 182 = .ok (.getfield 92, 3) := by decide +kernel
theorem dX9_node_185 : decode cX9_node 185 = .ok (.bipush 8, 2) := by decide +kernel
theorem dX9_node_187 : decode cX9_node 187 = .ok (.if_icmp .eq 7, 3) := by decide +kernel
theorem dX9_node_190 : decode cX9_node 190 = .ok (.iconst 1, 1) := by decide +kernel
theorem dX9_node_191 : decode cX9_node 191 = .ok (.goto 4, 3) := by decide +kernel
theorem dX9_node_194 : decode cX9_node 194 = .ok (.iconst 0, 1) := by decide +kernel
theorem dX9_node_195 : decode cX9_node 195 = .ok (.invokestatic 37, 3) := by decide +kernel
theorem dX9_node_198 : decode cX9_node 198 = .ok (.aload_n 0, 1) := by decide +kernel
theorem dX9_node_199 : decode cX9_node 199 = .ok (.getfield 21, 3) := by decide +kernel
theorem dX9_node_202 : decode cX9_node 202 = .ok (.invokevirtual 40, 3) := by decide +kernel
theorem dX9_node_205 : decode cX9_node 205 = .ok (.aload_n 0, 1) := by decide +kernel
theorem dX9_node_206 : decode cX9_node 206 = .ok (.getfield 12, 3) := by decide +kernel
theorem dX9_node_209 : decode cX9_node 209 = .ok (.iload_n 1, 1) := by decide +kernel
theorem dX9_node_210 : decode cX9_node 210 = .ok (.iload 5, 2) := by decide +kernel
theorem dX9_node_212 : decode cX9_node 212 = .ok (.ifCond .eq 7, 3) := by decide +kernel
theorem dX9_node_215 : decode cX9_node 215 = .ok (.iload_n 2, 1) := by decide +kernel
theorem dX9_node_216 : decode cX9_node 216 = .ok (.goto 4, 3) := by decide +kernel
theorem dX9_node_219 : decode cX9_node 219 = .ok (.iconst (-1), 1) := by decide +kernel
theorem dX9_node_220 : decode cX9_node 220 = .ok (.iload 6, 2) := by decide +kernel
theorem dX9_node_222 : decode cX9_node 222 = .ok (.ifCond .eq 7, 3) := by decide +kernel
theorem dX9_node_225 : decode cX9_node 225 = .ok (.iload_n 3, 1) := by decide +kernel
theorem dX9_node_226 : decode cX9_node 226 = .ok (.goto 4, 3) := by decide +kernel
theorem dX9_node_229 : decode cX9_node 229 = .ok (.iconst (-1), 1) := by decide +kernel
theorem dX9_node_230 : decode cX9_node 230 = .ok (.iload 7, 2) := by decide +kernel
theorem dX9_node_232 : decode cX9_node 232 = .ok (.ifCond .eq 8, 3) := by decide +kernel
theorem dX9_node_235 : decode cX9_node 235 = .ok (.iload 4, 2) := by decide +kernel
theorem dX9_node_237 : decode cX9_node 237 = .ok (.goto 4, 3) := by decide +kernel
theorem dX9_node_240 : decode cX9_node 240 = .ok (.iconst (-1), 1) := by decide +kernel
theorem dX9_node_241 : decode cX9_node 241 = .ok (.invokevirtual 97, 3) := by decide +kernel
theorem dX9_node_244 : decode cX9_node 244 = .ok (.ireturn, 1) := by decide +kernel
theorem dX9_feed_0 : decode cX9_feed 0 = .ok (.aload_n 0, 1) := by decide +kernel
theorem dX9_feed_1 : decode cX9_feed 1 = .ok (.iconst 1, 1) := by decide +kernel
theorem dX9_feed_2 : decode cX9_feed 2 = .ok (.invokevirtual 29, 3) := by decide +kernel
theorem dX9_feed_5 : decode cX9_feed 5 = .ok (.aload_n 0, 1) := by decide +kernel
theorem dX9_feed_6 : decode cX9_feed 6 = .ok (.getfield 12, 3) := by decide +kernel
theorem dX9_feed_9 : decode cX9_feed 9 = .ok (.iload_n 1, 1) := by decide +kernel
theorem dX9_feed_10 : decode cX9_feed 10 = .ok (.invokevirtual 85, 3) := by decide +kernel
theorem dX9_feed_13 : decode cX9_feed 13 = .ok (.ifCond .eq 18, 3) := by decide +kernel
theorem dX9_feed_16 : decode cX9_feed 16 = .ok (.aload_n 0, 1) := by decide +kernel
theorem dX9_feed_17 : decode cX9_feed 17 = .ok (.getfield 12, 3) := by decide +kernel
theorem dX9_feed_20 : decode cX9_feed 20 = .ok (.iload_n 2, 1) := by decide +kernel
theorem dX9_feed_21 : decode cX9_feed 21 = .ok (.invokevirtual 85, 3) := by decide +kernel
theorem dX9_feed_24 : decode cX9_feed 24 = .ok (.ifCond .eq 7, 3) := by decide +kernel
theorem dX9_feed_27 : decode cX9_feed 27 = .ok (.iconst 1, 1) := by decide +kernel
theorem dX9_feed_28 : decode cX9_feed 28 = .ok (.goto 4, 3) := by decide +kernel
theorem dX9_feed_31 : decode cX9_feed 31 = .ok (.iconst 0, 1) := by decide +kernel
theorem dX9_feed_32 : decode cX9_feed 32 = .ok (.invokestatic 51, 3) := by decide +kernel
theorem dX9_feed_35 : decode cX9_feed 35 = .ok (.aload_n 0, 1) := by decide +kernel
theorem dX9_feed_36 : decode cX9_feed 36 = .ok (.getfield 12, 3) := by decide +kernel
theorem dX9_feed_39 : decode cX9_feed 39 = .ok (.getfield 88, 3) := by decide +kernel
theorem dX9_feed_42 : decode cX9_feed 42 = .ok (.iload_n 1, 1) := by decide +kernel
theorem dX9_feed_43 : decode cX9_feed 43 = .ok (.aaload, 1) := by decide +kernel
theorem dX9_feed_44 : decode cX9_feed 44 = .ok (.getfield 92, 3) := by decide +kernel
theorem dX9_feed_47 : decode cX9_feed 47 = .ok (.bipush 6, 2) := by decide +kernel
theorem dX9_feed_49 : decode cX9_feed 49 = .ok (.if_icmp .ne 24, 3) := by decide +kernel
theorem dX9_feed_52 : decode cX9_feed 52 = .ok (.aload_n 0, 1) := by decide +kernel
theorem dX9_feed_53 : decode cX9_feed 53 = .ok (.getfield 12, 3) := by decide +kernel
theorem dX9_feed_56 : decode cX9_feed 56 = .ok (.getfield 88, 3) := by decide +kernel
theorem dX9_feed_59 : decode cX9_feed 59 = .ok (.iload_n 2, 1) := by decide +kernel
theorem dX9_feed_60 : decode cX9_feed 60 = .ok (.aaload, 1) := by decide +kernel
theorem dX9_feed_61 : decode cX9_feed 61 = .ok (.getfield 92, 3) := by decide +kernel
theorem dX9_feed_64 : decode cX9_feed 64 = .ok (.bipush 8, 2) := by decide +kernel
theorem dX9_feed_66 : decode cX9_feed 66 = .ok (.if_icmp .eq 7, 3) := by decide +kernel
theorem dX9_feed_69 : decode cX9_feed 69 = .ok (.iconst 1, 1) := by decide +kernel
theorem dX9_feed_70 : decode cX9_feed 70 = .ok (.goto 4, 3) := by decide +kernel
theorem dX9_feed_73 : decode cX9_feed 73 = .ok (.iconst 0, 1) := by decide +kernel
theorem dX9_feed_74 : decode cX9_feed 74 = .ok (.invokestatic 37, 3) := by decide +kernel
theorem dX9_feed_77 : decode cX9_feed 77 = .ok (.aload_n 0, 1) := by decide +kernel
theorem dX9_feed_78 : decode cX9_feed 78 = .ok (.getfield 21, 3) := by decide +kernel
theorem dX9_feed_81 : decode cX9_feed 81 = .ok (.invokevirtual 40, 3) := by decide +kernel
theorem dX9_feed_84 : decode cX9_feed 84 = .ok (.aload_n 0, 1) := by decide +kernel
theorem dX9_feed_85 : decode cX9_feed 85 = .ok (.getfield 12, 3) := by decide +kernel
theorem dX9_feed_88 : decode cX9_feed 88 = .ok (.getfield 88, 3) := by decide +kernel
theorem dX9_feed_91 : decode cX9_feed 91 = .ok (.iload_n 1, 1) := by decide +kernel
theorem dX9_feed_92 : decode cX9_feed 92 = .ok (.aaload, 1) := by decide +kernel
theorem dX9_feed_93 : decode cX9_feed 93 = .ok (.getfield 101, 3) := by decide +kernel
theorem dX9_feed_96 : decode cX9_feed 96 = .ok (.istore_n 3, 1) := by decide +kernel
theorem dX9_feed_97 : decode cX9_feed 97 = .ok (.aload_n 0, 1) := by decide +kernel
theorem dX9_feed_98 : decode cX9_feed 98 = .ok (.getfield 12, 3) := by decide +kernel
theorem dX9_feed_101 : decode cX9_feed 101 = .ok (.getfield 88, 3) := by decide +kernel
theorem dX9_feed_104 : decode cX9_feed 104 = .ok (.iload_n 1, 1) := by decide +kernel
theorem dX9_feed_105 : decode cX9_feed 105 = .ok (.aaload, 1) := by decide +kernel
theorem dX9_feed_106 : decode cX9_feed 106 = .ok (.iload_n 2, 1) := by decide +kernel
theorem dX9_feed_107 : decode cX9_feed 107 = .ok (.putfield 101, 3) := by decide +kernel
theorem dX9_feed_110 : decode cX9_feed 110 = .ok (.iload_n 3, 1) := by decide +kernel
theorem dX9_feed_111 : decode cX9_feed 111 = .ok (.ireturn, 1) := by decide +kernel
theorem dX9_size_0 : decode cX9_size 0 = .ok (.aload_n 0, 1) := by decide +kernel
theorem dX9_size_1 : decode cX9_size 1 = .ok (.iconst 1, 1) := by decide +kernel
theorem dX9_size_2 : decode cX9_size 2 = .ok (.invokevirtual 29, 3) := by decide +kernel
theorem dX9_size_5 : decode cX9_size 5 = .ok (.aload_n 0, 1) := by decide +kernel
theorem dX9_size_6 : decode cX9_size 6 = .ok (.getfield 12, 3) := by decide +kernel
theorem dX9_size_9 : decode cX9_size 9 = .ok (.iload_n 1, 1) := by decide +kernel
theorem dX9_size_10 : decode cX9_size 10 = .ok (.invokevirtual 85, 3) := by decide +kernel
theorem dX9_size_13 : decode cX9_size 13 = .ok (.invokestatic 51, 3) := by decide +kernel
theorem dX9_size_16 : decode cX9_size 16 = .ok (.iload_n 2, 1) := by decide +kernel
theorem dX9_size_17 : decode cX9_size 17 = .ok (.invokestatic 104, 3) := by decide +kernel
theorem dX9_size_20 : decode cX9_size 20 = .ok (.invokestatic 37, 3) := by decide +kernel
theorem dX9_size_23 : decode cX9_size 23 = .ok (.aload_n 0, 1) := by decide +kernel
theorem dX9_size_24 : decode cX9_size 24 = .ok (.getfield 21, 3) := by decide +kernel
theorem dX9_size_27 : decode cX9_size 27 = .ok (.invokevirtual 40, 3) := by decide +kernel
theorem dX9_size_30 : decode cX9_size 30 = .ok (.aload_n 0, 1) := by decide +kernel
theorem dX9_size_31 : decode cX9_size 31 = .ok (.getfield 12, 3) := by decide +kernel
theorem dX9_size_34 : decode cX9_size 34 = .ok (.getfield 88, 3) := by decide +kernel
theorem dX9_size_37 : decode cX9_size 37 = .ok (.iload_n 1, 1) := by decide +kernel
theorem dX9_size_38 : decode cX9_size 38 = .ok (.aaload, 1) := by decide +kernel
theorem dX9_size_39 : decode cX9_size 39 = .ok (.getfield 107, 3) := by decide +kernel
theorem dX9_size_42 : decode cX9_size 42 = .ok (.istore_n 3, 1) := by decide +kernel
theorem dX9_size_43 : decode cX9_size 43 = .ok (.aload_n 0, 1) := by decide +kernel
theorem dX9_size_44 : decode cX9_size 44 = .ok (.getfield 12, 3) := by decide +kernel
theorem dX9_size_47 : decode cX9_size 47 = .ok (.getfield 88, 3) := by decide +kernel
theorem dX9_size_50 : decode cX9_size 50 = .ok (.iload_n 1, 1) := by decide +kernel
theorem dX9_size_51 : decode cX9_size 51 = .ok (.aaload, 1) := by decide +kernel
theorem dX9_size_52 : decode cX9_size 52 = .ok (.iload_n 2, 1) := by decide +kernel
theorem dX9_size_53 : decode cX9_size 53 = .ok (.putfield 107, 3) := by decide +kernel
theorem dX9_size_56 : decode cX9_size 56 = .ok (.iload_n 3, 1) := by decide +kernel
theorem dX9_size_57 : decode cX9_size 57 = .ok (.ireturn, 1) := by decide +kernel
theorem dX9_wire_0 : decode cX9_wire 0 = .ok (.aload_n 0, 1) := by decide +kernel
theorem dX9_wire_1 : decode cX9_wire 1 = .ok (.iconst 1, 1) := by decide +kernel
theorem dX9_wire_2 : decode cX9_wire 2 = .ok (.invokevirtual 29, 3) := by decide +kernel
theorem dX9_wire_5 : decode cX9_wire 5 = .ok (.aload_n 0, 1) := by decide +kernel
theorem dX9_wire_6 : decode cX9_wire 6 = .ok (.getfield 12, 3) := by decide +kernel
theorem dX9_wire_9 : decode cX9_wire 9 = .ok (.iload_n 1, 1) := by decide +kernel
theorem dX9_wire_10 : decode cX9_wire 10 = .ok (.invokevirtual 85, 3) := by decide +kernel
theorem dX9_wire_13 : decode cX9_wire 13 = .ok (.invokestatic 51, 3) := by decide +kernel
theorem dX9_wire_16 : decode cX9_wire 16 = .ok (.iload_n 2, 1) := by decide +kernel
theorem dX9_wire_17 : decode cX9_wire 17 = .ok (.iconst 0, 1) := by decide +kernel
theorem dX9_wire_18 : decode cX9_wire 18 = .ok (.bipush 80, 2) := by decide +kernel
theorem dX9_wire_20 : decode cX9_wire 20 = .ok (.invokestatic 33, 3) := by decide +kernel
theorem dX9_wire_23 : decode cX9_wire 23 = .ok (.invokestatic 37, 3) := by decide +kernel
theorem dX9_wire_26 : decode cX9_wire 26 = .ok (.aload_n 0, 1) := by decide +kernel
theorem dX9_wire_27 : decode cX9_wire 27 = .ok (.getfield 21, 3) := by decide +kernel
theorem dX9_wire_30 : decode cX9_wire 30 = .ok (.invokevirtual 40, 3) := by decide +kernel
theorem dX9_wire_33 : decode cX9_wire 33 = .ok (.aload_n 0, 1) := by decide +kernel
theorem dX9_wire_34 : decode cX9_wire 34 = .ok (.getfield 12, 3) := by decide +kernel
theorem dX9_wire_37 : decode cX9_wire 37 = .ok (.getfield 88, 3) := by decide +kernel
theorem dX9_wire_40 : decode cX9_wire 40 = .ok (.iload_n 1, 1) := by decide +kernel
theorem dX9_wire_41 : decode cX9_wire 41 = .ok (.aaload, 1) := by decide +kernel
theorem dX9_wire_42 : decode cX9_wire 42 = .ok (.iload_n 2, 1) := by decide +kernel
theorem dX9_wire_43 : decode cX9_wire 43 = .ok (.i2f, 1) := by decide +kernel
theorem dX9_wire_44 : decode cX9_wire 44 = .ok (.ldc 110, 2) := by decide +kernel
theorem dX9_wire_46 : decode cX9_wire 46 = .ok (.fmul, 1) := by decide +kernel
theorem dX9_wire_47 : decode cX9_wire 47 = .ok (.putfield 111, 3) := by decide +kernel
theorem dX9_wire_50 : decode cX9_wire 50 = .ok (.aload_n 0, 1) := by decide +kernel
theorem dX9_wire_51 : decode cX9_wire 51 = .ok (.getfield 21, 3) := by decide +kernel
theorem dX9_wire_54 : decode cX9_wire 54 = .ok (.invokevirtual 115, 3) := by decide +kernel
theorem dX9_wire_57 : decode cX9_wire 57 = .ok (.getfield 119, 3) := by decide +kernel
theorem dX9_wire_60 : decode cX9_wire 60 = .ok (.iload_n 1, 1) := by decide +kernel
theorem dX9_wire_61 : decode cX9_wire 61 = .ok (.faload, 1) := by decide +kernel
theorem dX9_wire_62 : decode cX9_wire 62 = .ok (.f2i, 1) := by decide +kernel
theorem dX9_wire_63 : decode cX9_wire 63 = .ok (.ireturn, 1) := by decide +kernel
theorem dX9_skew_0 : decode cX9_skew 0 = .ok (.aload_n 0, 1) := by decide +kernel
theorem dX9_skew_1 : decode cX9_skew 1 = .ok (.iconst 1, 1) := by decide +kernel
theorem dX9_skew_2 : decode cX9_skew 2 = .ok (.invokevirtual 29, 3) := by decide +kernel
theorem dX9_skew_5 : decode cX9_skew 5 = .ok (.aload_n 0, 1) := by decide +kernel
theorem dX9_skew_6 : decode cX9_skew 6 = .ok (.getfield 12, 3) := by decide +kernel
theorem dX9_skew_9 : decode cX9_skew 9 = .ok (.iload_n 1, 1) := by decide +kernel
theorem dX9_skew_10 : decode cX9_skew 10 = .ok (.invokevirtual 85, 3) := by decide +kernel
theorem dX9_skew_13 : decode cX9_skew 13 = .ok (.invokestatic 51, 3) := by decide +kernel
theorem dX9_skew_16 : decode cX9_skew 16 = .ok (.aload_n 0, 1) := by decide +kernel
theorem dX9_skew_17 : decode cX9_skew 17 = .ok (.getfield 12, 3) := by decide +kernel
theorem dX9_skew_20 : decode cX9_skew 20 = .ok (.getfield 88, 3) := by decide +kernel
theorem dX9_skew_23 : decode cX9_skew 23 = .ok (.iload_n 1, 1) := by decide +kernel
theorem dX9_skew_24 : decode cX9_skew 24 = .ok (.aaload, 1) := by decide +kernel
theorem dX9_skew_25 : decode cX9_skew 25 = .ok (.getfield 92, 3) := by decide +kernel
theorem dX9_skew_28 : decode cX9_skew 28 = .ok (.bipush 6, 2) := by decide +kernel
theorem dX9_skew_30 : decode cX9_skew 30 = .ok (.if_icmp .eq 20, 3) := by decide +kernel
theorem dX9_skew_33 : decode cX9_skew 33 = .ok (.aload_n 0, 1) := by decide +kernel
theorem dX9_skew_34 : decode cX9_skew 34 = .ok (.getfield 12, 3) := by decide +kernel
theorem dX9_skew_37 : decode cX9_skew 37 = .ok (.getfield 88, 3) := by decide +kernel
theorem dX9_skew_40 : decode cX9_skew 40 = .ok (.iload_n 1, 1) := by decide +kernel
theorem dX9_skew_41 : decode cX9_skew 41 = .ok (.aaload, 1) := by decide +kernel
theorem dX9_skew_42 : decode cX9_skew 42 = .ok (.getfield 92, 3) := by decide +kernel
theorem dX9_skew_45 : decode cX9_skew 45 = .ok (.bipush 7, 2) := by decide +kernel
theorem dX9_skew_47 : decode cX9_skew 47 = .ok (.if_icmp .ne 17, 3) := by decide +kernel
theorem dX9_skew_50 : decode cX9_skew 50 = .ok (.iload_n 2, 1) := by decide +kernel
theorem dX9_skew_51 : decode cX9_skew 51 = .ok (.iconst 0, 1) := by decide +kernel
theorem dX9_skew_52 : decode cX9_skew 52 = .ok (.bipush 20, 2) := by decide +kernel
theorem dX9_skew_54 : decode cX9_skew 54 = .ok (.invokestatic 33, 3) := by decide +kernel
theorem dX9_skew_57 : decode cX9_skew 57 = .ok (.ifCond .eq 7, 3) := by decide +kernel
theorem dX9_skew_60 : decode cX9_skew 60 = .ok (.iconst 1, 1) := by decide +kernel
theorem dX9_skew_61 : decode cX9_skew 61 = .ok (.goto 4, 3) := by decide +kernel
theorem dX9_skew_64 : decode cX9_skew 64 = .ok (.iconst 0, 1) := by decide +kernel
theorem dX9_skew_65 : decode cX9_skew 65 = .ok (.invokestatic 37, 3) := by decide +kernel
theorem dX9_skew_68 : decode cX9_skew 68 = .ok (.aload_n 0, 1) := by decide +kernel
theorem dX9_skew_69 : decode cX9_skew 69 = .ok (.getfield 21, 3) := by decide +kernel
theorem dX9_skew_72 : decode cX9_skew 72 = .ok (.invokevirtual 40, 3) := by decide +kernel
theorem dX9_skew_75 : decode cX9_skew 75 = .ok (.aload_n 0, 1) := by decide +kernel
theorem dX9_skew_76 : decode cX9_skew 76 = .ok (.getfield 12, 3) := by decide +kernel
theorem dX9_skew_79 : decode cX9_skew 79 = .ok (.getfield 88, 3) := by decide +kernel
theorem dX9_skew_82 : decode cX9_skew 82 = .ok (.iload_n 1, 1) := by decide +kernel
theorem dX9_skew_83 : decode cX9_skew 83 = .ok (.aaload, 1) := by decide +kernel
theorem dX9_skew_84 : decode cX9_skew 84 = .ok (.getfield 125, 3) := by decide +kernel
theorem dX9_skew_87 : decode cX9_skew 87 = .ok (.istore_n 3, 1) := by decide +kernel
theorem dX9_skew_88 : decode cX9_skew 88 = .ok (.aload_n 0, 1) := by decide +kernel
theorem dX9_skew_89 : decode cX9_skew 89 = .ok (.getfield 12, 3) := by decide +kernel
theorem dX9_skew_92 : decode cX9_skew 92 = .ok (.getfield 88, 3) := by decide +kernel
theorem dX9_skew_95 : decode cX9_skew 95 = .ok (.iload_n 1, 1) := by decide +kernel
theorem dX9_skew_96 : decode cX9_skew 96 = .ok (.aaload, 1) := by decide +kernel
theorem dX9_skew_97 : decode cX9_skew 97 = .ok (.iload_n 2, 1) := by decide +kernel
theorem dX9_skew_98 : decode cX9_skew 98 = .ok (.putfield 125, 3) := by decide +kernel
theorem dX9_skew_101 : decode cX9_skew 101 = .ok (.iload_n 3, 1) := by decide +kernel
theorem dX9_skew_102 : decode cX9_skew 102 = .ok (.ireturn, 1) := by decide +kernel
theorem dX9_exception_0 : decode cX9_exception 0 = .ok (.aload_n 0, 1) := by decide +kernel
theorem dX9_exception_1 : decode cX9_exception 1 = .ok (.aload_n 0, 1) := by decide +kernel
theorem dX9_exception_2 : decode cX9_exception 2 = .ok (.getfield 12, 3) := by decide +kernel
theorem dX9_exception_5 : decode cX9_exception 5 = .ok (.getfield 128, 3) := by decide +kernel
theorem dX9_exception_8 : decode cX9_exception 8 = .ok (.bipush 6, 2) := by decide +kernel
theorem dX9_exception_10 : decode cX9_exception 10 = .ok (.if_icmp .ge 7, 3) := by decide +kernel
theorem dX9_exception_13 : decode cX9_exception 13 = .ok (.iconst 1, 1) := by decide +kernel
theorem dX9_exception_14 : decode cX9_exception 14 = .ok (.goto 4, 3) := by decide +kernel
theorem dX9_exception_17 : decode cX9_exception 17 = .ok (.iconst 0, 1) := by decide +kernel
theorem dX9_exception_18 : decode cX9_exception 18 = .ok (.invokevirtual 29, 3) := by decide +kernel
theorem dX9_exception_21 : decode cX9_exception 21 = .ok (.iload_n 2, 1) := by decide +kernel
theorem dX9_exception_22 : decode cX9_exception 22 = .ok (.iconst (-1), 1) := by decide +kernel
theorem dX9_exception_23 : decode cX9_exception 23 = .ok (.if_icmp .eq 14, 3) := by decide +kernel
theorem dX9_exception_26 : decode cX9_exception 26 = .ok (.aload_n 0, 1) := by decide +kernel
theorem dX9_exception_27 : decode cX9_exception 27 = .ok (.getfield 12, 3) := by decide +kernel
theorem dX9_exception_30 : decode cX9_exception 30 = .ok (.iload_n 2, 1) := by decide +kernel
theorem dX9_exception_31 : decode cX9_exception 31 = .ok (.invokevirtual 85, 3) := by decide +kernel
theorem dX9_exception_34 : decode cX9_exception 34 = .ok (.ifCond .eq 23, 3) := by decide +kernel
theorem dX9_exception_37 : decode cX9_exception 37 = .ok (.iload_n 3, 1) := by decide +kernel
theorem dX9_exception_38 : decode cX9_exception 38 = .ok (.iconst (-1), 1) := by decide +kernel
theorem dX9_exception_39 : decode cX9_exception 39 = .ok (.if_icmp .eq 14, 3) := by decide +kernel
theorem dX9_exception_42 : decode cX9_exception 42 = .ok (.aload_n 0, 1) := by decide +kernel
theorem dX9_exception_43 : decode cX9_exception 43 = .ok (.getfield 12, 3) := by decide +kernel
theorem dX9_exception_46 : decode cX9_exception 46 = .ok (.iload_n 3, 1) := by decide +kernel
theorem dX9_exception_47 : decode cX9_exception 47 = .ok (.invokevirtual 85, 3) := by decide +kernel
theorem dX9_exception_50 : decode cX9_exception 50 = .ok (.ifCond .eq 7, 3) := by decide +kernel
theorem dX9_exception_53 : decode cX9_exception 53 = .ok (.iconst 1, 1) := by decide +kernel
theorem dX9_exception_54 : decode cX9_exception 54 = .ok (.goto 4, 3) := by decide +kernel
theorem dX9_exception_57 : decode cX9_exception 57 = .ok (.iconst 0, 1) := by decide +kernel
theorem dX9_exception_58 : decode cX9_exception 58 = .ok (.invokestatic 51, 3) := by decide +kernel
theorem dX9_exception_61 : decode cX9_exception 61 = .ok (.iload_n 1, 1) := by decide +kernel
theorem dX9_exception_62 : decode cX9_exception 62 = .ok (.ifCond .eq 12, 3) := by decide +kernel
theorem dX9_exception_65 : decode cX9_exception 65 = .ok (.iload_n 1, 1) := by decide +kernel
theorem dX9_exception_66 : decode cX9_exception 66 = .ok (.iconst 2, 1) := by decide +kernel
theorem dX9_exception_67 : decode cX9_exception 67 = .ok (.iconst 4, 1) := by decide +kernel
theorem dX9_exception_68 : decode cX9_exception 68 = .ok (.invokestatic 33, 3) := by decide +kernel
theorem dX9_exception_71 : decode cX9_exception 71 = .ok (.ifCond .eq 47, 3) := by decide +kernel
theorem dX9_exception_74 : decode cX9_exception 74 = .ok (.iload_n 2, 1) := by decide +kernel
theorem dX9_exception_75 : decode cX9_exception 75 = .ok (.iconst (-1), 1) := by decide +kernel
theorem dX9_exception_76 : decode cX9_exception 76 = .ok (.if_icmp .eq 18, 3) := by decide +kernel
theorem dX9_exception_79 : decode cX9_exception 79 = .ok (.aload_n 0, 1) := by decide +kernel
theorem dX9_exception_80 : decode cX9_exception 80 = .ok (.getfield 12, 3) := by decide +kernel
theorem dX9_exception_83 : decode cX9_exception 83 = .ok (.getfield 88, 3) := by decide +kernel
theorem dX9_exception_86 : decode cX9_exception 86 = .ok (.iload_n 2, 1) := by decide +kernel
theorem dX9_exception_87 : decode cX9_exception 87 = .ok (.aaload, 1) := by decide +kernel
theorem dX9_exception_88 : decode cX9_exception 88 = .ok (.invokevirtual 131, 3) := by decide +kernel
theorem dX9_exception_91 : decode cX9_exception 91 = .ok (.ifCond .eq 27, 3) := by decide +kernel
theorem dX9_exception_94 : decode cX9_exception 94 = .ok (.iload_n 3, 1) := by decide +kernel
theorem dX9_exception_95 : decode cX9_exception 95 = .ok (.iconst (-1), 1) := by decide +kernel
theorem dX9_exception_96 : decode cX9_exception 96 = .ok (.if_icmp .eq 18, 3) := by decide +kernel
theorem dX9_exception_99 : decode cX9_exception 99 = .ok (.aload_n 0, 1) := by decide +kernel
theorem dX9_exception_100 : decode cX9_exception 100 = .ok (.getfield 12, 3) := by decide +kernel
theorem dX9_exception_103 : decode cX9_exception 103 = .ok (.getfield 88, 3) := by decide +kernel
theorem dX9_exception_106 : decode cX9_exception 106 = .ok (.iload_n 3, 1) := by decide +kernel
theorem dX9_exception_107 : decode cX9_exception 107 = .ok (.aaload, 1) := by decide +kernel
theorem dX9_exception_108 : decode cX9_exception 108 = .ok (.invokevirtual 135, 3) := by decide +kernel
theorem dX9_exception_111 : decode cX9_exception 111 = .ok (.ifCond .eq 7, 3) := by decide +kernel
theorem dX9_exception_114 : decode cX9_exception 114 = .ok (.iconst 1, 1) := by decide +kernel
theorem dX9_exception_115 : decode cX9_exception 115 = .ok (.goto 4, 3) := by decide +kernel
theorem dX9_exception_118 : decode cX9_exception 118 = .ok (.iconst 0, 1) := by decide +kernel
theorem dX9_exception_119 : decode cX9_exception 119 = .ok (.invokestatic 37, 3) := by decide +kernel
theorem dX9_exception_122 : decode cX9_exception 122 = .ok (.aload_n 0, 1) := by decide +kernel
theorem dX9_exception_123 : decode cX9_exception 123 = .ok (.getfield 21, 3) := by decide +kernel
theorem dX9_exception_126 : decode cX9_exception 126 = .ok (.invokevirtual 40, 3) := by decide +kernel
theorem dX9_exception_129 : decode cX9_exception 129 = .ok (.aload_n 0, 1) := by decide +kernel
theorem dX9_exception_130 : decode cX9_exception 130 = .ok (.getfield 12, 3) := by decide +kernel
theorem dX9_exception_133 : decode cX9_exception 133 = .ok (.iload_n 1, 1) := by decide +kernel
theorem dX9_exception_134 : decode cX9_exception 134 = .ok (.iload_n 2, 1) := by decide +kernel
theorem dX9_exception_135 : decode cX9_exception 135 = .ok (.iload_n 3, 1) := by decide +kernel
theorem dX9_exception_136 : decode cX9_exception 136 = .ok (.invokevirtual 138, 3) := by decide +kernel
theorem dX9_exception_139 : decode cX9_exception 139 = .ok (.ireturn, 1) := by decide +kernel
theorem dX9_ofClock_0 : decode cX9_ofClock 0 = .ok (.aload_n 0, 1) := by decide +kernel
theorem dX9_ofClock_1 : decode cX9_ofClock 1 = .ok (.getfield 12, 3) := by decide +kernel
theorem dX9_ofClock_4 : decode cX9_ofClock 4 = .ok (.iload_n 1, 1) := by decide +kernel
theorem dX9_ofClock_5 : decode cX9_ofClock 5 = .ok (.invokevirtual 47, 3) := by decide +kernel
theorem dX9_ofClock_8 : decode cX9_ofClock 8 = .ok (.invokestatic 51, 3) := by decide +kernel
theorem dX9_ofClock_11 : decode cX9_ofClock 11 = .ok (.iload_n 2, 1) := by decide +kernel
theorem dX9_ofClock_12 : decode cX9_ofClock 12 = .ok (.iconst 0, 1) := by decide +kernel
theorem dX9_ofClock_13 : decode cX9_ofClock 13 = .ok (.iconst 4, 1) := by decide +kernel
theorem dX9_ofClock_14 : decode cX9_ofClock 14 = .ok (.invokestatic 33, 3) := by decide +kernel
theorem dX9_ofClock_17 : decode cX9_ofClock 17 = .ok (.invokestatic 37, 3) := by decide +kernel
theorem dX9_ofClock_20 : decode cX9_ofClock 20 = .ok (.aload_n 0, 1) := by decide +kernel
theorem dX9_ofClock_21 : decode cX9_ofClock 21 = .ok (.getfield 12, 3) := by decide +kernel
theorem dX9_ofClock_24 : decode cX9_ofClock 24 = .ok (.getfield 54, 3) := by decide +kernel
theorem dX9_ofClock_27 : decode cX9_ofClock 27 = .ok (.iload_n 1, 1) := by decide +kernel
theorem dX9_ofClock_28 : decode cX9_ofClock 28 = .ok (.aaload, 1) := by decide +kernel
theorem dX9_ofClock_29 : decode cX9_ofClock 29 = .ok (.iload_n 2, 1) := by decide +kernel
theorem dX9_ofClock_30 : decode cX9_ofClock 30 = .ok (.invokevirtual 149, 3) := by decide +kernel
theorem dX9_ofClock_33 : decode cX9_ofClock 33 = .ok (.ireturn, 1) := by decide +kernel
theorem dX9_ofNode_0 : decode cX9_ofNode 0 = .ok (.aload_n 0, 1) := by decide +kernel
theorem dX9_ofNode_1 : decode cX9_ofNode 1 = .ok (.getfield 12, 3) := by decide +kernel
theorem dX9_ofNode_4 : decode cX9_ofNode 4 = .ok (.iload_n 1, 1) := by decide +kernel
theorem dX9_ofNode_5 : decode cX9_ofNode 5 = .ok (.invokevirtual 85, 3) := by decide +kernel
theorem dX9_ofNode_8 : decode cX9_ofNode 8 = .ok (.invokestatic 51, 3) := by decide +kernel
theorem dX9_ofNode_11 : decode cX9_ofNode 11 = .ok (.iload_n 2, 1) := by decide +kernel
theorem dX9_ofNode_12 : decode cX9_ofNode 12 = .ok (.iconst 0, 1) := by decide +kernel
theorem dX9_ofNode_13 : decode cX9_ofNode 13 = .ok (.bipush 6, 2) := by decide +kernel
theorem dX9_ofNode_15 : decode cX9_ofNode 15 = .ok (.invokestatic 33, 3) := by decide +kernel
theorem dX9_ofNode_18 : decode cX9_ofNode 18 = .ok (.invokestatic 37, 3) := by decide +kernel
theorem dX9_ofNode_21 : decode cX9_ofNode 21 = .ok (.iload_n 2, 1) := by decide +kernel
theorem dX9_ofNode_22 : decode cX9_ofNode 22 = .ok (.iconst 5, 1) := by decide +kernel
theorem dX9_ofNode_23 : decode cX9_ofNode 23 = .ok (.if_icmp .ne 14, 3) := by decide +kernel
theorem dX9_ofNode_26 : decode cX9_ofNode 26 = .ok (.aload_n 0, 1) := by decide +kernel
theorem dX9_ofNode_27 : decode cX9_ofNode 27 = .ok (.getfield 12, 3) := by decide +kernel
theorem dX9_ofNode_30 : decode cX9_ofNode 30 = .ok (.iload_n 1, 1) := by decide +kernel
theorem dX9_ofNode_31 : decode cX9_ofNode 31 = .ok (.invokevirtual 153, 3) := by decide +kernel
theorem dX9_ofNode_34 : decode cX9_ofNode 34 = .ok (.goto 16, 3) := by decide +kernel
theorem dX9_ofNode_37 : decode cX9_ofNode 37 = .ok (.aload_n 0, 1) := by decide +kernel
theorem dX9_ofNode_38 : decode cX9_ofNode 38 = .ok (.getfield 12, 3) := by decide +kernel
theorem dX9_ofNode_41 : decode cX9_ofNode 41 = .ok (.getfield 88, 3) := by decide +kernel
theorem dX9_ofNode_44 : decode cX9_ofNode 44 = .ok (.iload_n 1, 1) := by decide +kernel
theorem dX9_ofNode_45 : decode cX9_ofNode 45 = .ok (.aaload, 1) := by decide +kernel
theorem dX9_ofNode_46 : decode cX9_ofNode 46 = .ok (.iload_n 2, 1) := by decide +kernel
theorem dX9_ofNode_47 : decode cX9_ofNode 47 = .ok (.invokevirtual 156, 3) := by decide +kernel
theorem dX9_ofNode_50 : decode cX9_ofNode 50 = .ok (.ireturn, 1) := by decide +kernel
theorem dX9_load_0 : decode cX9_load 0 = .ok (.aload_n 0, 1) := by decide +kernel
theorem dX9_load_1 : decode cX9_load 1 = .ok (.getfield 12, 3) := by decide +kernel
theorem dX9_load_4 : decode cX9_load 4 = .ok (.iload_n 1, 1) := by decide +kernel
theorem dX9_load_5 : decode cX9_load 5 = .ok (.invokevirtual 85, 3) := by decide +kernel
theorem dX9_load_8 : decode cX9_load 8 = .ok (.invokestatic 51, 3) := by decide +kernel
theorem dX9_load_11 : decode cX9_load 11 = .ok (.aload_n 0, 1) := by decide +kernel
theorem dX9_load_12 : decode cX9_load 12 = .ok (.getfield 21, 3) := by decide +kernel
theorem dX9_load_15 : decode cX9_load 15 = .ok (.invokevirtual 115, 3) := by decide +kernel
theorem dX9_load_18 : decode cX9_load 18 = .ok (.getfield 119, 3) := by decide +kernel
theorem dX9_load_21 : decode cX9_load 21 = .ok (.iload_n 1, 1) := by decide +kernel
theorem dX9_load_22 : decode cX9_load 22 = .ok (.faload, 1) := by decide +kernel
theorem dX9_load_23 : decode cX9_load 23 = .ok (.f2d, 1) := by decide +kernel
theorem dX9_load_24 : decode cX9_load 24 = .ok (.dreturn, 1) := by decide +kernel
theorem dX9_takes_0 : decode cX9_takes 0 = .ok (.aload_n 0, 1) := by decide +kernel
theorem dX9_takes_1 : decode cX9_takes 1 = .ok (.getfield 12, 3) := by decide +kernel
theorem dX9_takes_4 : decode cX9_takes 4 = .ok (.iload_n 1, 1) := by decide +kernel
theorem dX9_takes_5 : decode cX9_takes 5 = .ok (.invokevirtual 85, 3) := by decide +kernel
theorem dX9_takes_8 : decode cX9_takes 8 = .ok (.invokestatic 51, 3) := by decide +kernel
theorem dX9_takes_11 : decode cX9_takes 11 = .ok (.aload_n 0, 1) := by decide +kernel
theorem dX9_takes_12 : decode cX9_takes 12 = .ok (.getfield 21, 3) := by decide +kernel
theorem dX9_takes_15 : decode cX9_takes 15 = .ok (.invokevirtual 115, 3) := by decide +kernel
theorem dX9_takes_18 : decode cX9_takes 18 = .ok (.iload_n 1, 1) := by decide +kernel
theorem dX9_takes_19 : decode cX9_takes 19 = .ok (.iload_n 2, 1) := by decide +kernel
theorem dX9_takes_20 : decode cX9_takes 20 = .ok (.ifCond .eq 7, 3) := by decide +kernel
theorem dX9_takes_23 : decode cX9_takes 23 = .ok (.iconst 0, 1) := by decide +kernel
theorem dX9_takes_24 : decode cX9_takes 24 = .ok (.goto 4, 3) := by decide +kernel
theorem dX9_takes_27 : decode cX9_takes 27 = .ok (.iconst 1, 1) := by decide +kernel
theorem dX9_takes_28 : decode cX9_takes 28 = .ok (.invokevirtual 157, 3) := by decide +kernel
theorem dX9_takes_31 : decode cX9_takes 31 = .ok (.dreturn, 1) := by decide +kernel
theorem dX9_arrival_0 : decode cX9_arrival 0 = .ok (.aload_n 0, 1) := by decide +kernel
theorem dX9_arrival_1 : decode cX9_arrival 1 = .ok (.getfield 12, 3) := by decide +kernel
theorem dX9_arrival_4 : decode cX9_arrival 4 = .ok (.iload_n 1, 1) := by decide +kernel
theorem dX9_arrival_5 : decode cX9_arrival 5 = .ok (.invokevirtual 85, 3) := by decide +kernel
theorem dX9_arrival_8 : decode cX9_arrival 8 = .ok (.ifCond .eq 29, 3) := by decide +kernel
theorem dX9_arrival_11 : decode cX9_arrival 11 = .ok (.aload_n 0, 1) := by decide +kernel
theorem dX9_arrival_12 : decode cX9_arrival 12 = .ok (.getfield 12, 3) := by decide +kernel
theorem dX9_arrival_15 : decode cX9_arrival 15 = .ok (.iload_n 2, 1) := by decide +kernel
theorem dX9_arrival_16 : decode cX9_arrival 16 = .ok (.invokevirtual 85, 3) := by decide +kernel
theorem dX9_arrival_19 : decode cX9_arrival 19 = .ok (.ifCond .eq 18, 3) := by decide +kernel
theorem dX9_arrival_22 : decode cX9_arrival 22 = .ok (.aload_n 0, 1) := by decide +kernel
theorem dX9_arrival_23 : decode cX9_arrival 23 = .ok (.getfield 12, 3) := by decide +kernel
theorem dX9_arrival_26 : decode cX9_arrival 26 = .ok (.iload_n 3, 1) := by decide +kernel
theorem dX9_arrival_27 : decode cX9_arrival 27 = .ok (.invokevirtual 161, 3) := by decide +kernel
theorem dX9_arrival_30 : decode cX9_arrival 30 = .ok (.ifCond .eq 7, 3) := by decide +kernel
theorem dX9_arrival_33 : decode cX9_arrival 33 = .ok (.iconst 1, 1) := by decide +kernel
theorem dX9_arrival_34 : decode cX9_arrival 34 = .ok (.goto 4, 3) := by decide +kernel
theorem dX9_arrival_37 : decode cX9_arrival 37 = .ok (.iconst 0, 1) := by decide +kernel
theorem dX9_arrival_38 : decode cX9_arrival 38 = .ok (.invokestatic 51, 3) := by decide +kernel
theorem dX9_arrival_41 : decode cX9_arrival 41 = .ok (.aload_n 0, 1) := by decide +kernel
theorem dX9_arrival_42 : decode cX9_arrival 42 = .ok (.getfield 12, 3) := by decide +kernel
theorem dX9_arrival_45 : decode cX9_arrival 45 = .ok (.getfield 88, 3) := by decide +kernel
theorem dX9_arrival_48 : decode cX9_arrival 48 = .ok (.iload_n 1, 1) := by decide +kernel
theorem dX9_arrival_49 : decode cX9_arrival 49 = .ok (.aaload, 1) := by decide +kernel
theorem dX9_arrival_50 : decode cX9_arrival 50 = .ok (.invokevirtual 131, 3) := by decide +kernel
theorem dX9_arrival_53 : decode cX9_arrival 53 = .ok (.invokestatic 37, 3) := by decide +kernel
theorem dX9_arrival_56 : decode cX9_arrival 56 = .ok (.aload_n 0, 1) := by decide +kernel
theorem dX9_arrival_57 : decode cX9_arrival 57 = .ok (.getfield 21, 3) := by decide +kernel
theorem dX9_arrival_60 : decode cX9_arrival 60 = .ok (.iload_n 3, 1) := by decide +kernel
theorem dX9_arrival_61 : decode cX9_arrival 61 = .ok (.iload 4, 2) := by decide +kernel
theorem dX9_arrival_63 : decode cX9_arrival 63 = .ok (.invokevirtual 164, 3) := by decide +kernel
theorem dX9_arrival_66 : decode cX9_arrival 66 = .ok (.iload_n 1, 1) := by decide +kernel
theorem dX9_arrival_67 : decode cX9_arrival 67 = .ok (.iload_n 2, 1) := by decide +kernel
theorem dX9_arrival_68 : decode cX9_arrival 68 = .ok (.iload 5, 2) := by decide +kernel
theorem dX9_arrival_70 : decode cX9_arrival 70 = .ok (.ifCond .eq 7, 3) := by decide +kernel
theorem dX9_arrival_73 : decode cX9_arrival 73 = .ok (.iconst 0, 1) := by decide +kernel
theorem dX9_arrival_74 : decode cX9_arrival 74 = .ok (.goto 4, 3) := by decide +kernel
theorem dX9_arrival_77 : decode cX9_arrival 77 = .ok (.iconst 1, 1) := by decide +kernel
theorem dX9_arrival_78 : decode cX9_arrival 78 = .ok (.invokevirtual 168, 3) := by decide +kernel
theorem dX9_arrival_81 : decode cX9_arrival 81 = .ok (.dreturn, 1) := by decide +kernel
theorem dX9_left_0 : decode cX9_left 0 = .ok (.aload_n 0, 1) := by decide +kernel
theorem dX9_left_1 : decode cX9_left 1 = .ok (.getfield 12, 3) := by decide +kernel
theorem dX9_left_4 : decode cX9_left 4 = .ok (.iload_n 3, 1) := by decide +kernel
theorem dX9_left_5 : decode cX9_left 5 = .ok (.invokevirtual 161, 3) := by decide +kernel
theorem dX9_left_8 : decode cX9_left 8 = .ok (.invokestatic 51, 3) := by decide +kernel
theorem dX9_left_11 : decode cX9_left 11 = .ok (.aload_n 0, 1) := by decide +kernel
theorem dX9_left_12 : decode cX9_left 12 = .ok (.iload_n 1, 1) := by decide +kernel
theorem dX9_left_13 : decode cX9_left 13 = .ok (.iload_n 2, 1) := by decide +kernel
theorem dX9_left_14 : decode cX9_left 14 = .ok (.invokevirtual 174, 3) := by decide +kernel
theorem dX9_left_17 : decode cX9_left 17 = .ok (.aload_n 0, 1) := by decide +kernel
theorem dX9_left_18 : decode cX9_left 18 = .ok (.getfield 21, 3) := by decide +kernel
theorem dX9_left_21 : decode cX9_left 21 = .ok (.iload_n 3, 1) := by decide +kernel
theorem dX9_left_22 : decode cX9_left 22 = .ok (.iload 4, 2) := by decide +kernel
theorem dX9_left_24 : decode cX9_left 24 = .ok (.invokevirtual 164, 3) := by decide +kernel
theorem dX9_left_27 : decode cX9_left 27 = .ok (.iload_n 1, 1) := by decide +kernel
theorem dX9_left_28 : decode cX9_left 28 = .ok (.iload_n 2, 1) := by decide +kernel
theorem dX9_left_29 : decode cX9_left 29 = .ok (.invokevirtual 181, 3) := by decide +kernel
theorem dX9_left_32 : decode cX9_left 32 = .ok (.dreturn, 1) := by decide +kernel
theorem dX9_leftAt_0 : decode cX9_leftAt 0 = .ok (.aload_n 0, 1) := by decide +kernel
theorem dX9_leftAt_1 : decode cX9_leftAt 1 = .ok (.getfield 12, 3) := by decide +kernel
theorem dX9_leftAt_4 : decode cX9_leftAt 4 = .ok (.iload_n 1, 1) := by decide +kernel
theorem dX9_leftAt_5 : decode cX9_leftAt 5 = .ok (.invokevirtual 85, 3) := by decide +kernel
theorem dX9_leftAt_8 : decode cX9_leftAt 8 = .ok (.ifCond .eq 18, 3) := by decide +kernel
theorem dX9_leftAt_11 : decode cX9_leftAt 11 = .ok (.aload_n 0, 1) := by decide +kernel
theorem dX9_leftAt_12 : decode cX9_leftAt 12 = .ok (.getfield 12, 3) := by decide +kernel
theorem dX9_leftAt_15 : decode cX9_leftAt 15 = .ok (.iload_n 2, 1) := by decide +kernel
theorem dX9_leftAt_16 : decode cX9_leftAt 16 = .ok (.invokevirtual 161, 3) := by decide +kernel
theorem dX9_leftAt_19 : decode cX9_leftAt 19 = .ok (.ifCond .eq 7, 3) := by decide +kernel
theorem dX9_leftAt_22 : decode cX9_leftAt 22 = .ok (.iconst 1, 1) := by decide +kernel
theorem dX9_leftAt_23 : decode cX9_leftAt 23 = .ok (.goto 4, 3) := by decide +kernel
theorem dX9_leftAt_26 : decode cX9_leftAt 26 = .ok (.iconst 0, 1) := by decide +kernel
theorem dX9_leftAt_27 : decode cX9_leftAt 27 = .ok (.invokestatic 51, 3) := by decide +kernel
theorem dX9_leftAt_30 : decode cX9_leftAt 30 = .ok (.aload_n 0, 1) := by decide +kernel
theorem dX9_leftAt_31 : decode cX9_leftAt 31 = .ok (.getfield 12, 3) := by decide +kernel
theorem dX9_leftAt_34 : decode cX9_leftAt 34 = .ok (.getfield 88, 3) := by decide +kernel
theorem dX9_leftAt_37 : decode cX9_leftAt 37 = .ok (.iload_n 1, 1) := by decide +kernel
theorem dX9_leftAt_38 : decode cX9_leftAt 38 = .ok (.aaload, 1) := by decide +kernel
theorem dX9_leftAt_39 : decode cX9_leftAt 39 = .ok (.invokevirtual 135, 3) := by decide +kernel
theorem dX9_leftAt_42 : decode cX9_leftAt 42 = .ok (.invokestatic 37, 3) := by decide +kernel
theorem dX9_leftAt_45 : decode cX9_leftAt 45 = .ok (.aload_n 0, 1) := by decide +kernel
theorem dX9_leftAt_46 : decode cX9_leftAt 46 = .ok (.getfield 21, 3) := by decide +kernel
theorem dX9_leftAt_49 : decode cX9_leftAt 49 = .ok (.iload_n 2, 1) := by decide +kernel
theorem dX9_leftAt_50 : decode cX9_leftAt 50 = .ok (.iload_n 3, 1) := by decide +kernel
theorem dX9_leftAt_51 : decode cX9_leftAt 51 = .ok (.invokevirtual 164, 3) := by decide +kernel
theorem dX9_leftAt_54 : decode cX9_leftAt 54 = .ok (.iload_n 1, 1) := by decide +kernel
theorem dX9_leftAt_55 : decode cX9_leftAt 55 = .ok (.invokevirtual 184, 3) := by decide +kernel
theorem dX9_leftAt_58 : decode cX9_leftAt 58 = .ok (.dreturn, 1) := by decide +kernel
theorem dX9_borrow_0 : decode cX9_borrow 0 = .ok (.aload_n 0, 1) := by decide +kernel
theorem dX9_borrow_1 : decode cX9_borrow 1 = .ok (.getfield 12, 3) := by decide +kernel
theorem dX9_borrow_4 : decode cX9_borrow 4 = .ok (.iload_n 1, 1) := by decide +kernel
theorem dX9_borrow_5 : decode cX9_borrow 5 = .ok (.invokevirtual 85, 3) := by decide +kernel
theorem dX9_borrow_8 : decode cX9_borrow 8 = .ok (.ifCond .eq 18, 3) := by decide +kernel
theorem dX9_borrow_11 : decode cX9_borrow 11 = .ok (.aload_n 0, 1) := by decide +kernel
theorem dX9_borrow_12 : decode cX9_borrow 12 = .ok (.getfield 12, 3) := by decide +kernel
theorem dX9_borrow_15 : decode cX9_borrow 15 = .ok (.iload_n 2, 1) := by decide +kernel
theorem dX9_borrow_16 : decode cX9_borrow 16 = .ok (.invokevirtual 161, 3) := by decide +kernel
theorem dX9_borrow_19 : decode cX9_borrow 19 = .ok (.ifCond .eq 7, 3) := by decide +kernel
theorem dX9_borrow_22 : decode cX9_borrow 22 = .ok (.iconst 1, 1) := by decide +kernel
theorem dX9_borrow_23 : decode cX9_borrow 23 = .ok (.goto 4, 3) := by decide +kernel
theorem dX9_borrow_26 : decode cX9_borrow 26 = .ok (.iconst 0, 1) := by decide +kernel
theorem dX9_borrow_27 : decode cX9_borrow 27 = .ok (.invokestatic 51, 3) := by decide +kernel
theorem dX9_borrow_30 : decode cX9_borrow 30 = .ok (.aload_n 0, 1) := by decide +kernel
theorem dX9_borrow_31 : decode cX9_borrow 31 = .ok (.getfield 12, 3) := by decide +kernel
theorem dX9_borrow_34 : decode cX9_borrow 34 = .ok (.getfield 88, 3) := by decide +kernel
theorem dX9_borrow_37 : decode cX9_borrow 37 = .ok (.iload_n 1, 1) := by decide +kernel
theorem dX9_borrow_38 : decode cX9_borrow 38 = .ok (.aaload, 1) := by decide +kernel
theorem dX9_borrow_39 : decode cX9_borrow 39 = .ok (.getfield 92, 3) := by decide +kernel
theorem dX9_borrow_42 : decode cX9_borrow 42 = .ok (.bipush 7, 2) := by decide +kernel
theorem dX9_borrow_44 : decode cX9_borrow 44 = .ok (.if_icmp .ne 7, 3) := by decide +kernel
theorem dX9_borrow_47 : decode cX9_borrow 47 = .ok (.iconst 1, 1) := by decide +kernel
theorem dX9_borrow_48 : decode cX9_borrow 48 = .ok (.goto 4, 3) := by decide +kernel
theorem dX9_borrow_51 : decode cX9_borrow 51 = .ok (.iconst 0, 1) := by decide +kernel
theorem dX9_borrow_52 : decode cX9_borrow 52 = .ok (.invokestatic 37, 3) := by decide +kernel
theorem dX9_borrow_55 : decode cX9_borrow 55 = .ok (.aload_n 0, 1) := by decide +kernel
theorem dX9_borrow_56 : decode cX9_borrow 56 = .ok (.getfield 21, 3) := by decide +kernel
theorem dX9_borrow_59 : decode cX9_borrow 59 = .ok (.iload_n 2, 1) := by decide +kernel
theorem dX9_borrow_60 : decode cX9_borrow 60 = .ok (.iconst 1, 1) := by decide +kernel
theorem dX9_borrow_61 : decode cX9_borrow 61 = .ok (.invokevirtual 164, 3) := by decide +kernel
theorem dX9_borrow_64 : decode cX9_borrow 64 = .ok (.getfield 188, 3) := by decide +kernel
theorem dX9_borrow_67 : decode cX9_borrow 67 = .ok (.iload_n 1, 1) := by decide +kernel
theorem dX9_borrow_68 : decode cX9_borrow 68 = .ok (.daload, 1) := by decide +kernel
theorem dX9_borrow_69 : decode cX9_borrow 69 = .ok (.dreturn, 1) := by decide +kernel
theorem dX9_ways_0 : decode cX9_ways 0 = .ok (.aload_n 0, 1) := by decide +kernel
theorem dX9_ways_1 : decode cX9_ways 1 = .ok (.iload_n 1, 1) := by decide +kernel
theorem dX9_ways_2 : decode cX9_ways 2 = .ok (.iload_n 2, 1) := by decide +kernel
theorem dX9_ways_3 : decode cX9_ways 3 = .ok (.invokevirtual 174, 3) := by decide +kernel
theorem dX9_ways_6 : decode cX9_ways 6 = .ok (.aload_n 0, 1) := by decide +kernel
theorem dX9_ways_7 : decode cX9_ways 7 = .ok (.getfield 12, 3) := by decide +kernel
theorem dX9_ways_10 : decode cX9_ways 10 = .ok (.getfield 88, 3) := by decide +kernel
theorem dX9_ways_13 : decode cX9_ways 13 = .ok (.iload_n 2, 1) := by decide +kernel
theorem dX9_ways_14 : decode cX9_ways 14 = .ok (.aaload, 1) := by decide +kernel
theorem dX9_ways_15 : decode cX9_ways 15 = .ok (.getfield 101, 3) := by decide +kernel
theorem dX9_ways_18 : decode cX9_ways 18 = .ok (.istore_n 3, 1) := by decide +kernel
theorem dX9_ways_19 : decode cX9_ways 19 = .ok (.iload_n 3, 1) := by decide +kernel
theorem dX9_ways_20 : decode cX9_ways 20 = .ok (.iconst (-1), 1) := by decide +kernel
theorem dX9_ways_21 : decode cX9_ways 21 = .ok (.if_icmp .ne 7, 3) := by decide +kernel
theorem dX9_ways_24 : decode cX9_ways 24 = .ok (.iconst 0, 1) := by decide +kernel
theorem dX9_ways_25 : decode cX9_ways 25 = .ok (.goto 15, 3) := by decide +kernel
theorem dX9_ways_28 : decode cX9_ways 28 = .ok (.aload_n 0, 1) := by decide +kernel
theorem dX9_ways_29 : decode cX9_ways 29 = .ok (.getfield 21, 3) := by decide +kernel
theorem dX9_ways_32 : decode cX9_ways 32 = .ok (.invokevirtual 192, 3) := by decide +kernel
theorem dX9_ways_35 : decode cX9_ways 35 = .ok (.iload_n 1, 1) := by decide +kernel
theorem dX9_ways_36 : decode cX9_ways 36 = .ok (.iload_n 3, 1) := by decide +kernel
theorem dX9_ways_37 : decode cX9_ways 37 = .ok (.invokevirtual 196, 3) := by decide +kernel
theorem dX9_ways_40 : decode cX9_ways 40 = .ok (.ireturn, 1) := by decide +kernel
theorem dX9_worst_0 : decode cX9_worst 0 = .ok (.aload_n 0, 1) := by decide +kernel
theorem dX9_worst_1 : decode cX9_worst 1 = .ok (.getfield 12, 3) := by decide +kernel
theorem dX9_worst_4 : decode cX9_worst 4 = .ok (.iload_n 1, 1) := by decide +kernel
theorem dX9_worst_5 : decode cX9_worst 5 = .ok (.invokevirtual 85, 3) := by decide +kernel
theorem dX9_worst_8 : decode cX9_worst 8 = .ok (.invokestatic 51, 3) := by decide +kernel
theorem dX9_worst_11 : decode cX9_worst 11 = .ok (.aload_n 0, 1) := by decide +kernel
theorem dX9_worst_12 : decode cX9_worst 12 = .ok (.getfield 12, 3) := by decide +kernel
theorem dX9_worst_15 : decode cX9_worst 15 = .ok (.getfield 88, 3) := by decide +kernel
theorem dX9_worst_18 : decode cX9_worst 18 = .ok (.iload_n 1, 1) := by decide +kernel
theorem dX9_worst_19 : decode cX9_worst 19 = .ok (.aaload, 1) := by decide +kernel
theorem dX9_worst_20 : decode cX9_worst 20 = .ok (.invokevirtual 135, 3) := by decide +kernel
theorem dX9_worst_23 : decode cX9_worst 23 = .ok (.ifCond .eq 17, 3) := by decide +kernel
theorem dX9_worst_26 : decode cX9_worst 26 = .ok (.iload_n 2, 1) := by decide +kernel
theorem dX9_worst_27 : decode cX9_worst 27 = .ok (.iconst 0, 1) := by decide +kernel
theorem dX9_worst_28 : decode cX9_worst 28 = .ok (.bipush 15, 2) := by decide +kernel
theorem dX9_worst_30 : decode cX9_worst 30 = .ok (.invokestatic 33, 3) := by decide +kernel
theorem dX9_worst_33 : decode cX9_worst 33 = .ok (.ifCond .eq 7, 3) := by decide +kernel
theorem dX9_worst_36 : decode cX9_worst 36 = .ok (.iconst 1, 1) := by decide +kernel
theorem dX9_worst_37 : decode cX9_worst 37 = .ok (.goto 4, 3) := by decide +kernel
theorem dX9_worst_40 : decode cX9_worst 40 = .ok (.iconst 0, 1) := by decide +kernel
theorem dX9_worst_41 : decode cX9_worst 41 = .ok (.invokestatic 37, 3) := by decide +kernel
theorem dX9_worst_44 : decode cX9_worst 44 = .ok (.aload_n 0, 1) := by decide +kernel
theorem dX9_worst_45 : decode cX9_worst 45 = .ok (.getfield 21, 3) := by decide +kernel
theorem dX9_worst_48 : decode cX9_worst 48 = .ok (.iconst 0, 1) := by decide +kernel
theorem dX9_worst_49 : decode cX9_worst 49 = .ok (.iconst 1, 1) := by decide +kernel
theorem dX9_worst_50 : decode cX9_worst 50 = .ok (.invokevirtual 164, 3) := by decide +kernel
theorem dX9_worst_53 : decode cX9_worst 53 = .ok (.iload_n 1, 1) := by decide +kernel
theorem dX9_worst_54 : decode cX9_worst 54 = .ok (.iload_n 2, 1) := by decide +kernel
theorem dX9_worst_55 : decode cX9_worst 55 = .ok (.invokevirtual 201, 3) := by decide +kernel
theorem dX9_worst_58 : decode cX9_worst 58 = .ok (.ireturn, 1) := by decide +kernel
theorem dX9_many_0 : decode cX9_many 0 = .ok (.iload_n 1, 1) := by decide +kernel
theorem dX9_many_1 : decode cX9_many 1 = .ok (.iconst 0, 1) := by decide +kernel
theorem dX9_many_2 : decode cX9_many 2 = .ok (.bipush 10, 2) := by decide +kernel
theorem dX9_many_4 : decode cX9_many 4 = .ok (.invokestatic 33, 3) := by decide +kernel
theorem dX9_many_7 : decode cX9_many 7 = .ok (.invokestatic 37, 3) := by decide +kernel
theorem dX9_many_10 : decode cX9_many 10 = .ok (.iload_n 1, 1) := by decide +kernel
theorem dX9_many_11 : decode cX9_many 11 = .ok (.tableswitch 151 0 9 #[53, 61, 69, 77, 85, 96, 105, 114, 126, 138], 53) := by decide +kernel
theorem dX9_many_64 : decode cX9_many 64 = .ok (.aload_n 0, 1) := by decide +kernel
theorem dX9_many_65 : decode cX9_many 65 = .ok (.getfield 12, 3) := by decide +kernel
theorem dX9_many_68 : decode cX9_many 68 = .ok (.getfield 25, 3) := by decide +kernel
theorem dX9_many_71 : decode cX9_many 71 = .ok (.ireturn, 1) := by decide +kernel
theorem dX9_many_72 : decode cX9_many 72 = .ok (.aload_n 0, 1) := by decide +kernel
theorem dX9_many_73 : decode cX9_many 73 = .ok (.getfield 12, 3) := by decide +kernel
theorem dX9_many_76 : decode cX9_many 76 = .ok (.getfield 75, 3) := by decide +kernel
theorem dX9_many_79 : decode cX9_many 79 = .ok (.ireturn, 1) := by decide +kernel
theorem dX9_many_80 : decode cX9_many 80 = .ok (.aload_n 0, 1) := by decide +kernel
theorem dX9_many_81 : decode cX9_many 81 = .ok (.getfield 12, 3) := by decide +kernel
theorem dX9_many_84 : decode cX9_many 84 = .ok (.getfield 82, 3) := by decide +kernel
theorem dX9_many_87 : decode cX9_many 87 = .ok (.ireturn, 1) := by decide +kernel
theorem dX9_many_88 : decode cX9_many 88 = .ok (.aload_n 0, 1) := by decide +kernel
theorem dX9_many_89 : decode cX9_many 89 = .ok (.getfield 12, 3) := by decide +kernel
theorem dX9_many_92 : decode cX9_many 92 = .ok (.getfield 128, 3) := by decide +kernel
theorem dX9_many_95 : decode cX9_many 95 = .ok (.ireturn, 1) := by decide +kernel
theorem dX9_many_96 : decode cX9_many 96 = .ok (.aload_n 0, 1) := by decide +kernel
theorem dX9_many_97 : decode cX9_many 97 = .ok (.getfield 21, 3) := by decide +kernel
theorem dX9_many_100 : decode cX9_many 100 = .ok (.invokevirtual 192, 3) := by decide +kernel
theorem dX9_many_103 : decode cX9_many 103 = .ok (.invokevirtual 204, 3) := by decide +kernel
theorem dX9_many_106 : decode cX9_many 106 = .ok (.ireturn, 1) := by decide +kernel
theorem dX9_many_107 : decode cX9_many 107 = .ok (.aload_n 0, 1) := by decide +kernel
theorem dX9_many_108 : decode cX9_many 108 = .ok (.getfield 21, 3) := by decide +kernel
theorem dX9_many_111 : decode cX9_many 111 = .ok (.iconst 1, 1) := by decide +kernel
theorem dX9_many_112 : decode cX9_many 112 = .ok (.invokevirtual 208, 3) := by decide +kernel
theorem dX9_many_115 : decode cX9_many 115 = .ok (.ireturn, 1) := by decide +kernel
theorem dX9_many_116 : decode cX9_many 116 = .ok (.aload_n 0, 1) := by decide +kernel
theorem dX9_many_117 : decode cX9_many 117 = .ok (.getfield 21, 3) := by decide +kernel
theorem dX9_many_120 : decode cX9_many 120 = .ok (.iconst 0, 1) := by decide +kernel
theorem dX9_many_121 : decode cX9_many 121 = .ok (.invokevirtual 208, 3) := by decide +kernel
theorem dX9_many_124 : decode cX9_many 124 = .ok (.ireturn, 1) := by decide +kernel
theorem dX9_many_125 : decode cX9_many 125 = .ok (.aload_n 0, 1) := by decide +kernel
theorem dX9_many_126 : decode cX9_many 126 = .ok (.getfield 21, 3) := by decide +kernel
theorem dX9_many_129 : decode cX9_many 129 = .ok (.invokevirtual 192, 3) := by decide +kernel
theorem dX9_many_132 : decode cX9_many 132 = .ok (.iconst 0, 1) := by decide +kernel
theorem dX9_many_133 : decode cX9_many 133 = .ok (.invokevirtual 212, 3) := by decide +kernel
theorem dX9_many_136 : decode cX9_many 136 = .ok (.ireturn, 1) := by decide +kernel
theorem dX9_many_137 : decode cX9_many 137 = .ok (.aload_n 0, 1) := by decide +kernel
theorem dX9_many_138 : decode cX9_many 138 = .ok (.getfield 21, 3) := by decide +kernel
theorem dX9_many_141 : decode cX9_many 141 = .ok (.invokevirtual 192, 3) := by decide +kernel
theorem dX9_many_144 : decode cX9_many 144 = .ok (.iconst 1, 1) := by decide +kernel
theorem dX9_many_145 : decode cX9_many 145 = .ok (.invokevirtual 212, 3) := by decide +kernel
theorem dX9_many_148 : decode cX9_many 148 = .ok (.ireturn, 1) := by decide +kernel
theorem dX9_many_149 : decode cX9_many 149 = .ok (.aload_n 0, 1) := by decide +kernel
theorem dX9_many_150 : decode cX9_many 150 = .ok (.getfield 142, 3) := by decide +kernel
theorem dX9_many_153 : decode cX9_many 153 = .ok (.ifCond .eq 7, 3) := by decide +kernel
theorem dX9_many_156 : decode cX9_many 156 = .ok (.iconst 1, 1) := by decide +kernel
theorem dX9_many_157 : decode cX9_many 157 = .ok (.goto 4, 3) := by decide +kernel
theorem dX9_many_160 : decode cX9_many 160 = .ok (.iconst 0, 1) := by decide +kernel
theorem dX9_many_161 : decode cX9_many 161 = .ok (.ireturn, 1) := by decide +kernel
theorem dX9_many_162 : decode cX9_many 162 = .ok (.aload_n 0, 1) := by decide +kernel
theorem dX9_many_163 : decode cX9_many 163 = .ok (.getfield 146, 3) := by decide +kernel
theorem dX9_many_166 : decode cX9_many 166 = .ok (.ireturn, 1) := by decide +kernel
theorem dX9_least_0 : decode cX9_least 0 = .ok (.aload_n 0, 1) := by decide +kernel
theorem dX9_least_1 : decode cX9_least 1 = .ok (.getfield 21, 3) := by decide +kernel
theorem dX9_least_4 : decode cX9_least 4 = .ok (.iload_n 1, 1) := by decide +kernel
theorem dX9_least_5 : decode cX9_least 5 = .ok (.invokevirtual 215, 3) := by decide +kernel
theorem dX9_least_8 : decode cX9_least 8 = .ok (.dreturn, 1) := by decide +kernel
theorem dX9_best_0 : decode cX9_best 0 = .ok (.aload_n 0, 1) := by decide +kernel
theorem dX9_best_1 : decode cX9_best 1 = .ok (.getfield 21, 3) := by decide +kernel
theorem dX9_best_4 : decode cX9_best 4 = .ok (.invokevirtual 222, 3) := by decide +kernel
theorem dX9_best_7 : decode cX9_best 7 = .ok (.ireturn, 1) := by decide +kernel
theorem dX9_digest_0 : decode cX9_digest 0 = .ok (.ldc2_w 229, 3) := by decide +kernel
theorem dX9_digest_3 : decode cX9_digest 3 = .ok (.lstore_n 1, 1) := by decide +kernel
theorem dX9_digest_4 : decode cX9_digest 4 = .ok (.iconst 0, 1) := by decide +kernel
theorem dX9_digest_5 : decode cX9_digest 5 = .ok (.istore_n 3, 1) := by decide +kernel
theorem dX9_digest_6 : decode cX9_digest 6 = .ok (.iload_n 3, 1) := by decide +kernel
theorem dX9_digest_7 : decode cX9_digest 7 = .ok (.bipush 10, 2) := by decide +kernel
theorem dX9_digest_9 : decode cX9_digest 9 = .ok (.if_icmp .gt 22, 3) := by decide +kernel
theorem dX9_digest_12 : decode cX9_digest 12 = .ok (.lload_n 1, 1) := by decide +kernel
theorem dX9_digest_13 : decode cX9_digest 13 = .ok (.ldc2_w 231, 3) := by decide +kernel
theorem dX9_digest_16 : decode cX9_digest 16 = .ok (.lmul, 1) := by decide +kernel
theorem dX9_digest_17 : decode cX9_digest 17 = .ok (.aload_n 0, 1) := by decide +kernel
theorem dX9_digest_18 : decode cX9_digest 18 = .ok (.iload_n 3, 1) := by decide +kernel
theorem dX9_digest_19 : decode cX9_digest 19 = .ok (.invokevirtual 233, 3) := by decide +kernel
theorem dX9_digest_22 : decode cX9_digest 22 = .ok (.i2l, 1) := by decide +kernel
theorem dX9_digest_23 : decode cX9_digest 23 = .ok (.ladd, 1) := by decide +kernel
theorem dX9_digest_24 : decode cX9_digest 24 = .ok (.lstore_n 1, 1) := by decide +kernel
theorem dX9_digest_25 : decode cX9_digest 25 = .ok (.iinc 3 1, 3) := by decide +kernel
theorem dX9_digest_28 : decode cX9_digest 28 = .ok (.goto (-22), 3) := by decide +kernel
theorem dX9_digest_31 : decode cX9_digest 31 = .ok (.iconst 0, 1) := by decide +kernel
theorem dX9_digest_32 : decode cX9_digest 32 = .ok (.istore_n 3, 1) := by decide +kernel
theorem dX9_digest_33 : decode cX9_digest 33 = .ok (.iload_n 3, 1) := by decide +kernel
theorem dX9_digest_34 : decode cX9_digest 34 = .ok (.aload_n 0, 1) := by decide +kernel
theorem dX9_digest_35 : decode cX9_digest 35 = .ok (.getfield 12, 3) := by decide +kernel
theorem dX9_digest_38 : decode cX9_digest 38 = .ok (.getfield 25, 3) := by decide +kernel
theorem dX9_digest_41 : decode cX9_digest 41 = .ok (.if_icmp .ge 39, 3) := by decide +kernel
theorem dX9_digest_44 : decode cX9_digest 44 = .ok (.iconst 0, 1) := by decide +kernel
theorem dX9_digest_45 : decode cX9_digest 45 = .ok (.istore 4, 2) := by decide +kernel
theorem dX9_digest_47 : decode cX9_digest 47 = .ok (.iload 4, 2) := by decide +kernel
theorem dX9_digest_49 : decode cX9_digest 49 = .ok (.iconst 4, 1) := by decide +kernel
theorem dX9_digest_50 : decode cX9_digest 50 = .ok (.if_icmp .gt 24, 3) := by decide +kernel
theorem dX9_digest_53 : decode cX9_digest 53 = .ok (.lload_n 1, 1) := by decide +kernel
theorem dX9_digest_54 : decode cX9_digest 54 = .ok (.ldc2_w 231, 3) := by decide +kernel
theorem dX9_digest_57 : decode cX9_digest 57 = .ok (.lmul, 1) := by decide +kernel
theorem dX9_digest_58 : decode cX9_digest 58 = .ok (.aload_n 0, 1) := by decide +kernel
theorem dX9_digest_59 : decode cX9_digest 59 = .ok (.iload_n 3, 1) := by decide +kernel
theorem dX9_digest_60 : decode cX9_digest 60 = .ok (.iload 4, 2) := by decide +kernel
theorem dX9_digest_62 : decode cX9_digest 62 = .ok (.invokevirtual 236, 3) := by decide +kernel
theorem dX9_digest_65 : decode cX9_digest 65 = .ok (.i2l, 1) := by decide +kernel
theorem dX9_digest_66 : decode cX9_digest 66 = .ok (.ladd, 1) := by decide +kernel
theorem dX9_digest_67 : decode cX9_digest 67 = .ok (.lstore_n 1, 1) := by decide +kernel
theorem dX9_digest_68 : decode cX9_digest 68 = .ok (.iinc 4 1, 3) := by decide +kernel
theorem dX9_digest_71 : decode cX9_digest 71 = .ok (.goto (-24), 3) := by decide +kernel
theorem dX9_digest_74 : decode cX9_digest 74 = .ok (.iinc 3 1, 3) := by decide +kernel
theorem dX9_digest_77 : decode cX9_digest 77 = .ok (.goto (-44), 3) := by decide +kernel
theorem dX9_digest_80 : decode cX9_digest 80 = .ok (.iconst 0, 1) := by decide +kernel
theorem dX9_digest_81 : decode cX9_digest 81 = .ok (.istore_n 3, 1) := by decide +kernel
theorem dX9_digest_82 : decode cX9_digest 82 = .ok (.iload_n 3, 1) := by decide +kernel
theorem dX9_digest_83 : decode cX9_digest 83 = .ok (.aload_n 0, 1) := by decide +kernel
theorem dX9_digest_84 : decode cX9_digest 84 = .ok (.getfield 12, 3) := by decide +kernel
theorem dX9_digest_87 : decode cX9_digest 87 = .ok (.getfield 82, 3) := by decide +kernel
theorem dX9_digest_90 : decode cX9_digest 90 = .ok (.if_icmp .ge 16, 3) := by decide +kernel
theorem dX9_digest_93 : decode cX9_digest 93 = .ok (.aload_n 0, 1) := by decide +kernel
theorem dX9_digest_94 : decode cX9_digest 94 = .ok (.lload_n 1, 1) := by decide +kernel
theorem dX9_digest_95 : decode cX9_digest 95 = .ok (.iload_n 3, 1) := by decide +kernel
theorem dX9_digest_96 : decode cX9_digest 96 = .ok (.invokevirtual 239, 3) := by decide +kernel
theorem dX9_digest_99 : decode cX9_digest 99 = .ok (.lstore_n 1, 1) := by decide +kernel
theorem dX9_digest_100 : decode cX9_digest 100 = .ok (.iinc 3 1, 3) := by decide +kernel
theorem dX9_digest_103 : decode cX9_digest 103 = .ok (.goto (-21), 3) := by decide +kernel
theorem dX9_digest_106 : decode cX9_digest 106 = .ok (.lload_n 1, 1) := by decide +kernel
theorem dX9_digest_107 : decode cX9_digest 107 = .ok (.ldc2_w 231, 3) := by decide +kernel
theorem dX9_digest_110 : decode cX9_digest 110 = .ok (.lmul, 1) := by decide +kernel
theorem dX9_digest_111 : decode cX9_digest 111 = .ok (.aload_n 0, 1) := by decide +kernel
theorem dX9_digest_112 : decode cX9_digest 112 = .ok (.getfield 21, 3) := by decide +kernel
theorem dX9_digest_115 : decode cX9_digest 115 = .ok (.invokevirtual 222, 3) := by decide +kernel
theorem dX9_digest_118 : decode cX9_digest 118 = .ok (.i2l, 1) := by decide +kernel
theorem dX9_digest_119 : decode cX9_digest 119 = .ok (.ladd, 1) := by decide +kernel
theorem dX9_digest_120 : decode cX9_digest 120 = .ok (.lreturn, 1) := by decide +kernel
theorem dX9_digestNode_0 : decode cX9_digestNode 0 = .ok (.lload_n 1, 1) := by decide +kernel
theorem dX9_digestNode_1 : decode cX9_digestNode 1 = .ok (.lstore 4, 2) := by decide +kernel
theorem dX9_digestNode_3 : decode cX9_digestNode 3 = .ok (.iconst 0, 1) := by decide +kernel
theorem dX9_digestNode_4 : decode cX9_digestNode 4 = .ok (.istore 6, 2) := by decide +kernel
theorem dX9_digestNode_6 : decode cX9_digestNode 6 = .ok (.iload 6, 2) := by decide +kernel
theorem dX9_digestNode_8 : decode cX9_digestNode 8 = .ok (.bipush 6, 2) := by decide +kernel
theorem dX9_digestNode_10 : decode cX9_digestNode 10 = .ok (.if_icmp .gt 26, 3) := by decide +kernel
theorem dX9_digestNode_13 : decode cX9_digestNode 13 = .ok (.lload 4, 2) := by decide +kernel
theorem dX9_digestNode_15 : decode cX9_digestNode 15 = .ok (.ldc2_w 231, 3) := by decide +kernel
theorem dX9_digestNode_18 : decode cX9_digestNode 18 = .ok (.lmul, 1) := by decide +kernel
theorem dX9_digestNode_19 : decode cX9_digestNode 19 = .ok (.aload_n 0, 1) := by decide +kernel
theorem dX9_digestNode_20 : decode cX9_digestNode 20 = .ok (.iload_n 3, 1) := by decide +kernel
theorem dX9_digestNode_21 : decode cX9_digestNode 21 = .ok (.iload 6, 2) := by decide +kernel
theorem dX9_digestNode_23 : decode cX9_digestNode 23 = .ok (.invokevirtual 243, 3) := by decide +kernel
theorem dX9_digestNode_26 : decode cX9_digestNode 26 = .ok (.i2l, 1) := by decide +kernel
theorem dX9_digestNode_27 : decode cX9_digestNode 27 = .ok (.ladd, 1) := by decide +kernel
theorem dX9_digestNode_28 : decode cX9_digestNode 28 = .ok (.lstore 4, 2) := by decide +kernel
theorem dX9_digestNode_30 : decode cX9_digestNode 30 = .ok (.iinc 6 1, 3) := by decide +kernel
theorem dX9_digestNode_33 : decode cX9_digestNode 33 = .ok (.goto (-27), 3) := by decide +kernel
theorem dX9_digestNode_36 : decode cX9_digestNode 36 = .ok (.lload 4, 2) := by decide +kernel
theorem dX9_digestNode_38 : decode cX9_digestNode 38 = .ok (.ldc2_w 231, 3) := by decide +kernel
theorem dX9_digestNode_41 : decode cX9_digestNode 41 = .ok (.lmul, 1) := by decide +kernel
theorem dX9_digestNode_42 : decode cX9_digestNode 42 = .ok (.ldc2_w 246, 3) := by decide +kernel
theorem dX9_digestNode_45 : decode cX9_digestNode 45 = .ok (.aload_n 0, 1) := by decide +kernel
theorem dX9_digestNode_46 : decode cX9_digestNode 46 = .ok (.iload_n 3, 1) := by decide +kernel
theorem dX9_digestNode_47 : decode cX9_digestNode 47 = .ok (.invokevirtual 248, 3) := by decide +kernel
theorem dX9_digestNode_50 : decode cX9_digestNode 50 = .ok (.dmul, 1) := by decide +kernel
theorem dX9_digestNode_51 : decode cX9_digestNode 51 = .ok (.d2l, 1) := by decide +kernel
theorem dX9_digestNode_52 : decode cX9_digestNode 52 = .ok (.ladd, 1) := by decide +kernel
theorem dX9_digestNode_53 : decode cX9_digestNode 53 = .ok (.lstore 4, 2) := by decide +kernel
theorem dX9_digestNode_55 : decode cX9_digestNode 55 = .ok (.aload_n 0, 1) := by decide +kernel
theorem dX9_digestNode_56 : decode cX9_digestNode 56 = .ok (.getfield 12, 3) := by decide +kernel
theorem dX9_digestNode_59 : decode cX9_digestNode 59 = .ok (.getfield 88, 3) := by decide +kernel
theorem dX9_digestNode_62 : decode cX9_digestNode 62 = .ok (.iload_n 3, 1) := by decide +kernel
theorem dX9_digestNode_63 : decode cX9_digestNode 63 = .ok (.aaload, 1) := by decide +kernel
theorem dX9_digestNode_64 : decode cX9_digestNode 64 = .ok (.invokevirtual 135, 3) := by decide +kernel
theorem dX9_digestNode_67 : decode cX9_digestNode 67 = .ok (.ifCond .eq 61, 3) := by decide +kernel
theorem dX9_digestNode_70 : decode cX9_digestNode 70 = .ok (.lload 4, 2) := by decide +kernel
theorem dX9_digestNode_72 : decode cX9_digestNode 72 = .ok (.ldc2_w 231, 3) := by decide +kernel
theorem dX9_digestNode_75 : decode cX9_digestNode 75 = .ok (.lmul, 1) := by decide +kernel
theorem dX9_digestNode_76 : decode cX9_digestNode 76 = .ok (.ldc2_w 246, 3) := by decide +kernel
theorem dX9_digestNode_79 : decode cX9_digestNode 79 = .ok (.aload_n 0, 1) := by decide +kernel
theorem dX9_digestNode_80 : decode cX9_digestNode 80 = .ok (.iload_n 3, 1) := by decide +kernel
theorem dX9_digestNode_81 : decode cX9_digestNode 81 = .ok (.iconst 0, 1) := by decide +kernel
theorem dX9_digestNode_82 : decode cX9_digestNode 82 = .ok (.iconst 1, 1) := by decide +kernel
theorem dX9_digestNode_83 : decode cX9_digestNode 83 = .ok (.invokevirtual 251, 3) := by decide +kernel
theorem dX9_digestNode_86 : decode cX9_digestNode 86 = .ok (.dmul, 1) := by decide +kernel
theorem dX9_digestNode_87 : decode cX9_digestNode 87 = .ok (.d2l, 1) := by decide +kernel
theorem dX9_digestNode_88 : decode cX9_digestNode 88 = .ok (.ladd, 1) := by decide +kernel
theorem dX9_digestNode_89 : decode cX9_digestNode 89 = .ok (.lstore 4, 2) := by decide +kernel
theorem dX9_digestNode_91 : decode cX9_digestNode 91 = .ok (.lload 4, 2) := by decide +kernel
theorem dX9_digestNode_93 : decode cX9_digestNode 93 = .ok (.ldc2_w 231, 3) := by decide +kernel
theorem dX9_digestNode_96 : decode cX9_digestNode 96 = .ok (.lmul, 1) := by decide +kernel
theorem dX9_digestNode_97 : decode cX9_digestNode 97 = .ok (.ldc2_w 246, 3) := by decide +kernel
theorem dX9_digestNode_100 : decode cX9_digestNode 100 = .ok (.aload_n 0, 1) := by decide +kernel
theorem dX9_digestNode_101 : decode cX9_digestNode 101 = .ok (.iload_n 3, 1) := by decide +kernel
theorem dX9_digestNode_102 : decode cX9_digestNode 102 = .ok (.iconst 0, 1) := by decide +kernel
theorem dX9_digestNode_103 : decode cX9_digestNode 103 = .ok (.iconst 0, 1) := by decide +kernel
theorem dX9_digestNode_104 : decode cX9_digestNode 104 = .ok (.invokevirtual 251, 3) := by decide +kernel
theorem dX9_digestNode_107 : decode cX9_digestNode 107 = .ok (.dmul, 1) := by decide +kernel
theorem dX9_digestNode_108 : decode cX9_digestNode 108 = .ok (.d2l, 1) := by decide +kernel
theorem dX9_digestNode_109 : decode cX9_digestNode 109 = .ok (.ladd, 1) := by decide +kernel
theorem dX9_digestNode_110 : decode cX9_digestNode 110 = .ok (.lstore 4, 2) := by decide +kernel
theorem dX9_digestNode_112 : decode cX9_digestNode 112 = .ok (.lload 4, 2) := by decide +kernel
theorem dX9_digestNode_114 : decode cX9_digestNode 114 = .ok (.ldc2_w 231, 3) := by decide +kernel
theorem dX9_digestNode_117 : decode cX9_digestNode 117 = .ok (.lmul, 1) := by decide +kernel
theorem dX9_digestNode_118 : decode cX9_digestNode 118 = .ok (.aload_n 0, 1) := by decide +kernel
theorem dX9_digestNode_119 : decode cX9_digestNode 119 = .ok (.iload_n 3, 1) := by decide +kernel
theorem dX9_digestNode_120 : decode cX9_digestNode 120 = .ok (.iconst 0, 1) := by decide +kernel
theorem dX9_digestNode_121 : decode cX9_digestNode 121 = .ok (.invokevirtual 255, 3) := by decide +kernel
theorem dX9_digestNode_124 : decode cX9_digestNode 124 = .ok (.i2l, 1) := by decide +kernel
theorem dX9_digestNode_125 : decode cX9_digestNode 125 = .ok (.ladd, 1) := by decide +kernel
theorem dX9_digestNode_126 : decode cX9_digestNode 126 = .ok (.lstore 4, 2) := by decide +kernel
theorem dX9_digestNode_128 : decode cX9_digestNode 128 = .ok (.lload 4, 2) := by decide +kernel
theorem dX9_digestNode_130 : decode cX9_digestNode 130 = .ok (.lreturn, 1) := by decide +kernel
theorem dX9_mustBeOpen_0 : decode cX9_mustBeOpen 0 = .ok (.aload_n 0, 1) := by decide +kernel
theorem dX9_mustBeOpen_1 : decode cX9_mustBeOpen 1 = .ok (.getfield 142, 3) := by decide +kernel
theorem dX9_mustBeOpen_4 : decode cX9_mustBeOpen 4 = .ok (.ifCond .ne 7, 3) := by decide +kernel
theorem dX9_mustBeOpen_7 : decode cX9_mustBeOpen 7 = .ok (.iload_n 1, 1) := by decide +kernel
theorem dX9_mustBeOpen_8 : decode cX9_mustBeOpen 8 = .ok (.ifCond .ne 14, 3) := by decide +kernel
theorem dX9_mustBeOpen_11 : decode cX9_mustBeOpen 11 = .ok (.new 258, 3) := by decide +kernel
theorem dX9_mustBeOpen_14 : decode cX9_mustBeOpen 14 = .ok (.dup, 1) := by decide +kernel
theorem dX9_mustBeOpen_15 : decode cX9_mustBeOpen 15 = .ok (.ldc_w 260, 3) := by decide +kernel
theorem dX9_mustBeOpen_18 : decode cX9_mustBeOpen 18 = .ok (.invokespecial 262, 3) := by decide +kernel
theorem dX9_mustBeOpen_21 : decode cX9_mustBeOpen 21 = .ok (.athrow, 1) := by decide +kernel
theorem dX9_mustBeOpen_22 : decode cX9_mustBeOpen 22 = .ok (.return_, 1) := by decide +kernel
theorem dX9_mustExist_0 : decode cX9_mustExist 0 = .ok (.iload_n 0, 1) := by decide +kernel
theorem dX9_mustExist_1 : decode cX9_mustExist 1 = .ok (.ifCond .ne 14, 3) := by decide +kernel
theorem dX9_mustExist_4 : decode cX9_mustExist 4 = .ok (.new 265, 3) := by decide +kernel
theorem dX9_mustExist_7 : decode cX9_mustExist 7 = .ok (.dup, 1) := by decide +kernel
theorem dX9_mustExist_8 : decode cX9_mustExist 8 = .ok (.ldc_w 267, 3) := by decide +kernel
theorem dX9_mustExist_11 : decode cX9_mustExist 11 = .ok (.invokespecial 269, 3) := by decide +kernel
theorem dX9_mustExist_14 : decode cX9_mustExist 14 = .ok (.athrow, 1) := by decide +kernel
theorem dX9_mustExist_15 : decode cX9_mustExist 15 = .ok (.return_, 1) := by decide +kernel
theorem dX9_mustFit_0 : decode cX9_mustFit 0 = .ok (.iload_n 0, 1) := by decide +kernel
theorem dX9_mustFit_1 : decode cX9_mustFit 1 = .ok (.ifCond .ne 14, 3) := by decide +kernel
theorem dX9_mustFit_4 : decode cX9_mustFit 4 = .ok (.new 270, 3) := by decide +kernel
theorem dX9_mustFit_7 : decode cX9_mustFit 7 = .ok (.dup, 1) := by decide +kernel
theorem dX9_mustFit_8 : decode cX9_mustFit 8 = .ok (.ldc_w 272, 3) := by decide +kernel
theorem dX9_mustFit_11 : decode cX9_mustFit 11 = .ok (.invokespecial 274, 3) := by decide +kernel
theorem dX9_mustFit_14 : decode cX9_mustFit 14 = .ok (.athrow, 1) := by decide +kernel
theorem dX9_mustFit_15 : decode cX9_mustFit 15 = .ok (.return_, 1) := by decide +kernel
theorem dX9_mustBePair_0 : decode cX9_mustBePair 0 = .ok (.aload_n 0, 1) := by decide +kernel
theorem dX9_mustBePair_1 : decode cX9_mustBePair 1 = .ok (.getfield 12, 3) := by decide +kernel
theorem dX9_mustBePair_4 : decode cX9_mustBePair 4 = .ok (.iload_n 1, 1) := by decide +kernel
theorem dX9_mustBePair_5 : decode cX9_mustBePair 5 = .ok (.invokevirtual 85, 3) := by decide +kernel
theorem dX9_mustBePair_8 : decode cX9_mustBePair 8 = .ok (.ifCond .eq 18, 3) := by decide +kernel
theorem dX9_mustBePair_11 : decode cX9_mustBePair 11 = .ok (.aload_n 0, 1) := by decide +kernel
theorem dX9_mustBePair_12 : decode cX9_mustBePair 12 = .ok (.getfield 12, 3) := by decide +kernel
theorem dX9_mustBePair_15 : decode cX9_mustBePair 15 = .ok (.iload_n 2, 1) := by decide +kernel
theorem dX9_mustBePair_16 : decode cX9_mustBePair 16 = .ok (.invokevirtual 85, 3) := by decide +kernel
theorem dX9_mustBePair_19 : decode cX9_mustBePair 19 = .ok (.ifCond .eq 7, 3) := by decide +kernel
theorem dX9_mustBePair_22 : decode cX9_mustBePair 22 = .ok (.iconst 1, 1) := by decide +kernel
theorem dX9_mustBePair_23 : decode cX9_mustBePair 23 = .ok (.goto 4, 3) := by decide +kernel
theorem dX9_mustBePair_26 : decode cX9_mustBePair 26 = .ok (.iconst 0, 1) := by decide +kernel
theorem dX9_mustBePair_27 : decode cX9_mustBePair 27 = .ok (.invokestatic 51, 3) := by decide +kernel
theorem dX9_mustBePair_30 : decode cX9_mustBePair 30 = .ok (.aload_n 0, 1) := by decide +kernel
theorem dX9_mustBePair_31 : decode cX9_mustBePair 31 = .ok (.getfield 12, 3) := by decide +kernel
theorem dX9_mustBePair_34 : decode cX9_mustBePair 34 = .ok (.getfield 88, 3) := by decide +kernel
theorem dX9_mustBePair_37 : decode cX9_mustBePair 37 = .ok (.iload_n 1, 1) := by decide +kernel
theorem dX9_mustBePair_38 : decode cX9_mustBePair 38 = .ok (.aaload, 1) := by decide +kernel
theorem dX9_mustBePair_39 : decode cX9_mustBePair 39 = .ok (.invokevirtual 131, 3) := by decide +kernel
theorem dX9_mustBePair_42 : decode cX9_mustBePair 42 = .ok (.ifCond .eq 22, 3) := by decide +kernel
theorem dX9_mustBePair_45 : decode cX9_mustBePair 45 = .ok (.aload_n 0, 1) := by decide +kernel
theorem dX9_mustBePair_46 : decode cX9_mustBePair 46 = .ok (.getfield 12, 3) := by decide +kernel
theorem dX9_mustBePair_49 : decode cX9_mustBePair 49 = .ok (.getfield 88, 3) := by decide +kernel
theorem dX9_mustBePair_52 : decode cX9_mustBePair 52 = .ok (.iload_n 2, 1) := by decide +kernel
theorem dX9_mustBePair_53 : decode cX9_mustBePair 53 = .ok (.aaload, 1) := by decide +kernel
theorem dX9_mustBePair_54 : decode cX9_mustBePair 54 = .ok (.invokevirtual 135, 3) := by decide +kernel
theorem dX9_mustBePair_57 : decode cX9_mustBePair 57 = .ok (.ifCond .eq 7, 3) := by decide +kernel
theorem dX9_mustBePair_60 : decode cX9_mustBePair 60 = .ok (.iconst 1, 1) := by decide +kernel
theorem dX9_mustBePair_61 : decode cX9_mustBePair 61 = .ok (.goto 4, 3) := by decide +kernel
theorem dX9_mustBePair_64 : decode cX9_mustBePair 64 = .ok (.iconst 0, 1) := by decide +kernel
theorem dX9_mustBePair_65 : decode cX9_mustBePair 65 = .ok (.invokestatic 37, 3) := by decide +kernel
theorem dX9_mustBePair_68 : decode cX9_mustBePair 68 = .ok (.return_, 1) := by decide +kernel
theorem dX9_isIn_0 : decode cX9_isIn 0 = .ok (.iload_n 0, 1) := by decide +kernel
theorem dX9_isIn_1 : decode cX9_isIn 1 = .ok (.iload_n 1, 1) := by decide +kernel
theorem dX9_isIn_2 : decode cX9_isIn 2 = .ok (.if_icmp .lt 12, 3) := by decide +kernel
theorem dX9_isIn_5 : decode cX9_isIn 5 = .ok (.iload_n 0, 1) := by decide +kernel
theorem dX9_isIn_6 : decode cX9_isIn 6 = .ok (.iload_n 2, 1) := by decide +kernel
theorem dX9_isIn_7 : decode cX9_isIn 7 = .ok (.if_icmp .gt 7, 3) := by decide +kernel
theorem dX9_isIn_10 : decode cX9_isIn 10 = .ok (.iconst 1, 1) := by decide +kernel
theorem dX9_isIn_11 : decode cX9_isIn 11 = .ok (.goto 4, 3) := by decide +kernel
theorem dX9_isIn_14 : decode cX9_isIn 14 = .ok (.iconst 0, 1) := by decide +kernel
theorem dX9_isIn_15 : decode cX9_isIn 15 = .ok (.ireturn, 1) := by decide +kernel
theorem dX9_isSize_0 : decode cX9_isSize 0 = .ok (.iload_n 0, 1) := by decide +kernel
theorem dX9_isSize_1 : decode cX9_isSize 1 = .ok (.iconst 1, 1) := by decide +kernel
theorem dX9_isSize_2 : decode cX9_isSize 2 = .ok (.if_icmp .eq 13, 3) := by decide +kernel
theorem dX9_isSize_5 : decode cX9_isSize 5 = .ok (.iload_n 0, 1) := by decide +kernel
theorem dX9_isSize_6 : decode cX9_isSize 6 = .ok (.iconst 2, 1) := by decide +kernel
theorem dX9_isSize_7 : decode cX9_isSize 7 = .ok (.if_icmp .eq 8, 3) := by decide +kernel
theorem dX9_isSize_10 : decode cX9_isSize 10 = .ok (.iload_n 0, 1) := by decide +kernel
theorem dX9_isSize_11 : decode cX9_isSize 11 = .ok (.iconst 4, 1) := by decide +kernel
theorem dX9_isSize_12 : decode cX9_isSize 12 = .ok (.if_icmp .ne 7, 3) := by decide +kernel
theorem dX9_isSize_15 : decode cX9_isSize 15 = .ok (.iconst 1, 1) := by decide +kernel
theorem dX9_isSize_16 : decode cX9_isSize 16 = .ok (.goto 4, 3) := by decide +kernel
theorem dX9_isSize_19 : decode cX9_isSize 19 = .ok (.iconst 0, 1) := by decide +kernel
theorem dX9_isSize_20 : decode cX9_isSize 20 = .ok (.ireturn, 1) := by decide +kernel
theorem dX9_smaller_0 : decode cX9_smaller 0 = .ok (.dload_n 0, 1) := by decide +kernel
theorem dX9_smaller_1 : decode cX9_smaller 1 = .ok (.dload_n 2, 1) := by decide +kernel
theorem dX9_smaller_2 : decode cX9_smaller 2 = .ok (.dcmp .g, 1) := by decide +kernel
theorem dX9_smaller_3 : decode cX9_smaller 3 = .ok (.ifCond .gt 7, 3) := by decide +kernel
theorem dX9_smaller_6 : decode cX9_smaller 6 = .ok (.dload_n 0, 1) := by decide +kernel
theorem dX9_smaller_7 : decode cX9_smaller 7 = .ok (.goto 4, 3) := by decide +kernel
theorem dX9_smaller_10 : decode cX9_smaller 10 = .ok (.dload_n 2, 1) := by decide +kernel
theorem dX9_smaller_11 : decode cX9_smaller 11 = .ok (.dreturn, 1) := by decide +kernel
theorem dX9_greater_0 : decode cX9_greater 0 = .ok (.dload_n 0, 1) := by decide +kernel
theorem dX9_greater_1 : decode cX9_greater 1 = .ok (.dload_n 2, 1) := by decide +kernel
theorem dX9_greater_2 : decode cX9_greater 2 = .ok (.dcmp .l, 1) := by decide +kernel
theorem dX9_greater_3 : decode cX9_greater 3 = .ok (.ifCond .lt 7, 3) := by decide +kernel
theorem dX9_greater_6 : decode cX9_greater 6 = .ok (.dload_n 0, 1) := by decide +kernel
theorem dX9_greater_7 : decode cX9_greater 7 = .ok (.goto 4, 3) := by decide +kernel
theorem dX9_greater_10 : decode cX9_greater 10 = .ok (.dload_n 2, 1) := by decide +kernel
theorem dX9_greater_11 : decode cX9_greater 11 = .ok (.dreturn, 1) := by decide +kernel
theorem dJ6_bitCount_0f7a4_0 : decode cJ6_bitCount_0f7a4 0 = .ok (.iload_n 0, 1) := by decide +kernel
theorem dJ6_bitCount_0f7a4_1 : decode cJ6_bitCount_0f7a4 1 = .ok (.iload_n 0, 1) := by decide +kernel
theorem dJ6_bitCount_0f7a4_2 : decode cJ6_bitCount_0f7a4 2 = .ok (.iconst 1, 1) := by decide +kernel
theorem dJ6_bitCount_0f7a4_3 : decode cJ6_bitCount_0f7a4 3 = .ok (.iushr, 1) := by decide +kernel
theorem dJ6_bitCount_0f7a4_4 : decode cJ6_bitCount_0f7a4 4 = .ok (.ldc_w 265, 3) := by decide +kernel
theorem dJ6_bitCount_0f7a4_7 : decode cJ6_bitCount_0f7a4 7 = .ok (.iand, 1) := by decide +kernel
theorem dJ6_bitCount_0f7a4_8 : decode cJ6_bitCount_0f7a4 8 = .ok (.isub, 1) := by decide +kernel
theorem dJ6_bitCount_0f7a4_9 : decode cJ6_bitCount_0f7a4 9 = .ok (.istore_n 0, 1) := by decide +kernel
theorem dJ6_bitCount_0f7a4_10 : decode cJ6_bitCount_0f7a4 10 = .ok (.iload_n 0, 1) := by decide +kernel
theorem dJ6_bitCount_0f7a4_11 : decode cJ6_bitCount_0f7a4 11 = .ok (.ldc_w 266, 3) := by decide +kernel
theorem dJ6_bitCount_0f7a4_14 : decode cJ6_bitCount_0f7a4 14 = .ok (.iand, 1) := by decide +kernel
theorem dJ6_bitCount_0f7a4_15 : decode cJ6_bitCount_0f7a4 15 = .ok (.iload_n 0, 1) := by decide +kernel
theorem dJ6_bitCount_0f7a4_16 : decode cJ6_bitCount_0f7a4 16 = .ok (.iconst 2, 1) := by decide +kernel
theorem dJ6_bitCount_0f7a4_17 : decode cJ6_bitCount_0f7a4 17 = .ok (.iushr, 1) := by decide +kernel
theorem dJ6_bitCount_0f7a4_18 : decode cJ6_bitCount_0f7a4 18 = .ok (.ldc_w 266, 3) := by decide +kernel
theorem dJ6_bitCount_0f7a4_21 : decode cJ6_bitCount_0f7a4 21 = .ok (.iand, 1) := by decide +kernel
theorem dJ6_bitCount_0f7a4_22 : decode cJ6_bitCount_0f7a4 22 = .ok (.iadd, 1) := by decide +kernel
theorem dJ6_bitCount_0f7a4_23 : decode cJ6_bitCount_0f7a4 23 = .ok (.istore_n 0, 1) := by decide +kernel
theorem dJ6_bitCount_0f7a4_24 : decode cJ6_bitCount_0f7a4 24 = .ok (.iload_n 0, 1) := by decide +kernel
theorem dJ6_bitCount_0f7a4_25 : decode cJ6_bitCount_0f7a4 25 = .ok (.iload_n 0, 1) := by decide +kernel
theorem dJ6_bitCount_0f7a4_26 : decode cJ6_bitCount_0f7a4 26 = .ok (.iconst 4, 1) := by decide +kernel
theorem dJ6_bitCount_0f7a4_27 : decode cJ6_bitCount_0f7a4 27 = .ok (.iushr, 1) := by decide +kernel
theorem dJ6_bitCount_0f7a4_28 : decode cJ6_bitCount_0f7a4 28 = .ok (.iadd, 1) := by decide +kernel
theorem dJ6_bitCount_0f7a4_29 : decode cJ6_bitCount_0f7a4 29 = .ok (.ldc_w 267, 3) := by decide +kernel
theorem dJ6_bitCount_0f7a4_32 : decode cJ6_bitCount_0f7a4 32 = .ok (.iand, 1) := by decide +kernel
theorem dJ6_bitCount_0f7a4_33 : decode cJ6_bitCount_0f7a4 33 = .ok (.istore_n 0, 1) := by decide +kernel
theorem dJ6_bitCount_0f7a4_34 : decode cJ6_bitCount_0f7a4 34 = .ok (.iload_n 0, 1) := by decide +kernel
theorem dJ6_bitCount_0f7a4_35 : decode cJ6_bitCount_0f7a4 35 = .ok (.iload_n 0, 1) := by decide +kernel
theorem dJ6_bitCount_0f7a4_36 : decode cJ6_bitCount_0f7a4 36 = .ok (.bipush 8, 2) := by decide +kernel
theorem dJ6_bitCount_0f7a4_38 : decode cJ6_bitCount_0f7a4 38 = .ok (.iushr, 1) := by decide +kernel
theorem dJ6_bitCount_0f7a4_39 : decode cJ6_bitCount_0f7a4 39 = .ok (.iadd, 1) := by decide +kernel
theorem dJ6_bitCount_0f7a4_40 : decode cJ6_bitCount_0f7a4 40 = .ok (.istore_n 0, 1) := by decide +kernel
theorem dJ6_bitCount_0f7a4_41 : decode cJ6_bitCount_0f7a4 41 = .ok (.iload_n 0, 1) := by decide +kernel
theorem dJ6_bitCount_0f7a4_42 : decode cJ6_bitCount_0f7a4 42 = .ok (.iload_n 0, 1) := by decide +kernel
theorem dJ6_bitCount_0f7a4_43 : decode cJ6_bitCount_0f7a4 43 = .ok (.bipush 16, 2) := by decide +kernel
theorem dJ6_bitCount_0f7a4_45 : decode cJ6_bitCount_0f7a4 45 = .ok (.iushr, 1) := by decide +kernel
theorem dJ6_bitCount_0f7a4_46 : decode cJ6_bitCount_0f7a4 46 = .ok (.iadd, 1) := by decide +kernel
theorem dJ6_bitCount_0f7a4_47 : decode cJ6_bitCount_0f7a4 47 = .ok (.istore_n 0, 1) := by decide +kernel
theorem dJ6_bitCount_0f7a4_48 : decode cJ6_bitCount_0f7a4 48 = .ok (.iload_n 0, 1) := by decide +kernel
theorem dJ6_bitCount_0f7a4_49 : decode cJ6_bitCount_0f7a4 49 = .ok (.bipush 63, 2) := by decide +kernel
theorem dJ6_bitCount_0f7a4_51 : decode cJ6_bitCount_0f7a4 51 = .ok (.iand, 1) := by decide +kernel
theorem dJ6_bitCount_0f7a4_52 : decode cJ6_bitCount_0f7a4 52 = .ok (.ireturn, 1) := by decide +kernel
theorem dJ9_min_eb370_0 : decode cJ9_min_eb370 0 = .ok (.dload_n 0, 1) := by decide +kernel
theorem dJ9_min_eb370_1 : decode cJ9_min_eb370 1 = .ok (.dload_n 0, 1) := by decide +kernel
theorem dJ9_min_eb370_2 : decode cJ9_min_eb370 2 = .ok (.dcmp .l, 1) := by decide +kernel
theorem dJ9_min_eb370_3 : decode cJ9_min_eb370 3 = .ok (.ifCond .eq 5, 3) := by decide +kernel
theorem dJ9_min_eb370_6 : decode cJ9_min_eb370 6 = .ok (.dload_n 0, 1) := by decide +kernel
theorem dJ9_min_eb370_7 : decode cJ9_min_eb370 7 = .ok (.dreturn, 1) := by decide +kernel
theorem dJ9_min_eb370_8 : decode cJ9_min_eb370 8 = .ok (.dload_n 0, 1) := by decide +kernel
theorem dJ9_min_eb370_9 : decode cJ9_min_eb370 9 = .ok (.dconst 0, 1) := by decide +kernel
theorem dJ9_min_eb370_10 : decode cJ9_min_eb370 10 = .ok (.dcmp .l, 1) := by decide +kernel
theorem dJ9_min_eb370_11 : decode cJ9_min_eb370 11 = .ok (.ifCond .ne 22, 3) := by decide +kernel
theorem dJ9_min_eb370_14 : decode cJ9_min_eb370 14 = .ok (.dload_n 2, 1) := by decide +kernel
theorem dJ9_min_eb370_15 : decode cJ9_min_eb370 15 = .ok (.dconst 0, 1) := by decide +kernel
theorem dJ9_min_eb370_16 : decode cJ9_min_eb370 16 = .ok (.dcmp .l, 1) := by decide +kernel
theorem dJ9_min_eb370_17 : decode cJ9_min_eb370 17 = .ok (.ifCond .ne 16, 3) := by decide +kernel
theorem dJ9_min_eb370_20 : decode cJ9_min_eb370 20 = .ok (.dload_n 2, 1) := by decide +kernel
theorem dJ9_min_eb370_21 : decode cJ9_min_eb370 21 = .ok (.invokestatic 79, 3) := by decide +kernel
theorem dJ9_min_eb370_24 : decode cJ9_min_eb370 24 = .ok (.getstatic 174, 3) := by decide +kernel
theorem dJ9_min_eb370_27 : decode cJ9_min_eb370 27 = .ok (.lcmp, 1) := by decide +kernel
theorem dJ9_min_eb370_28 : decode cJ9_min_eb370 28 = .ok (.ifCond .ne 5, 3) := by decide +kernel
theorem dJ9_min_eb370_31 : decode cJ9_min_eb370 31 = .ok (.dload_n 2, 1) := by decide +kernel
theorem dJ9_min_eb370_32 : decode cJ9_min_eb370 32 = .ok (.dreturn, 1) := by decide +kernel
theorem dJ9_min_eb370_33 : decode cJ9_min_eb370 33 = .ok (.dload_n 0, 1) := by decide +kernel
theorem dJ9_min_eb370_34 : decode cJ9_min_eb370 34 = .ok (.dload_n 2, 1) := by decide +kernel
theorem dJ9_min_eb370_35 : decode cJ9_min_eb370 35 = .ok (.dcmp .g, 1) := by decide +kernel
theorem dJ9_min_eb370_36 : decode cJ9_min_eb370 36 = .ok (.ifCond .gt 7, 3) := by decide +kernel
theorem dJ9_min_eb370_39 : decode cJ9_min_eb370 39 = .ok (.dload_n 0, 1) := by decide +kernel
theorem dJ9_min_eb370_40 : decode cJ9_min_eb370 40 = .ok (.goto 4, 3) := by decide +kernel
theorem dJ9_min_eb370_43 : decode cJ9_min_eb370 43 = .ok (.dload_n 2, 1) := by decide +kernel
theorem dJ9_min_eb370_44 : decode cJ9_min_eb370 44 = .ok (.dreturn, 1) := by decide +kernel
theorem dL_below_0 : decode cL_below 0 = .ok (.iload_n 0, 1) := by decide +kernel
theorem dL_below_1 : decode cL_below 1 = .ok (.ldc 7, 2) := by decide +kernel
theorem dL_below_3 : decode cL_below 3 = .ok (.iand, 1) := by decide +kernel
theorem dL_below_4 : decode cL_below 4 = .ok (.iload_n 1, 1) := by decide +kernel
theorem dL_below_5 : decode cL_below 5 = .ok (.irem, 1) := by decide +kernel
theorem dL_below_6 : decode cL_below 6 = .ok (.ireturn, 1) := by decide +kernel
theorem dL_cell_0 : decode cL_cell 0 = .ok (.iload_n 1, 1) := by decide +kernel
theorem dL_cell_1 : decode cL_cell 1 = .ok (.aload_n 0, 1) := by decide +kernel
theorem dL_cell_2 : decode cL_cell 2 = .ok (.arraylength, 1) := by decide +kernel
theorem dL_cell_3 : decode cL_cell 3 = .ok (.if_icmp .ge 9, 3) := by decide +kernel
theorem dL_cell_6 : decode cL_cell 6 = .ok (.aload_n 0, 1) := by decide +kernel
theorem dL_cell_7 : decode cL_cell 7 = .ok (.iload_n 1, 1) := by decide +kernel
theorem dL_cell_8 : decode cL_cell 8 = .ok (.iaload, 1) := by decide +kernel
theorem dL_cell_9 : decode cL_cell 9 = .ok (.goto 9, 3) := by decide +kernel
theorem dL_cell_12 : decode cL_cell 12 = .ok (.ldc 8, 2) := by decide +kernel
theorem dL_cell_14 : decode cL_cell 14 = .ok (.iload_n 1, 1) := by decide +kernel
theorem dL_cell_15 : decode cL_cell 15 = .ok (.iconst 3, 1) := by decide +kernel
theorem dL_cell_16 : decode cL_cell 16 = .ok (.iadd, 1) := by decide +kernel
theorem dL_cell_17 : decode cL_cell 17 = .ok (.imul, 1) := by decide +kernel
theorem dL_cell_18 : decode cL_cell 18 = .ok (.ireturn, 1) := by decide +kernel
theorem dL_chip_0 : decode cL_chip 0 = .ok (.aload_n 0, 1) := by decide +kernel
theorem dL_chip_1 : decode cL_chip 1 = .ok (.iconst 4, 1) := by decide +kernel
theorem dL_chip_2 : decode cL_chip 2 = .ok (.aload_n 1, 1) := by decide +kernel
theorem dL_chip_3 : decode cL_chip 3 = .ok (.iload_n 2, 1) := by decide +kernel
theorem dL_chip_4 : decode cL_chip 4 = .ok (.invokestatic 9, 3) := by decide +kernel
theorem dL_chip_7 : decode cL_chip 7 = .ok (.bipush 37, 2) := by decide +kernel
theorem dL_chip_9 : decode cL_chip 9 = .ok (.invokestatic 15, 3) := by decide +kernel
theorem dL_chip_12 : decode cL_chip 12 = .ok (.iadd, 1) := by decide +kernel
theorem dL_chip_13 : decode cL_chip 13 = .ok (.aload_n 1, 1) := by decide +kernel
theorem dL_chip_14 : decode cL_chip 14 = .ok (.iload_n 2, 1) := by decide +kernel
theorem dL_chip_15 : decode cL_chip 15 = .ok (.iconst 1, 1) := by decide +kernel
theorem dL_chip_16 : decode cL_chip 16 = .ok (.iadd, 1) := by decide +kernel
theorem dL_chip_17 : decode cL_chip 17 = .ok (.invokestatic 9, 3) := by decide +kernel
theorem dL_chip_20 : decode cL_chip 20 = .ok (.bipush 41, 2) := by decide +kernel
theorem dL_chip_22 : decode cL_chip 22 = .ok (.invokestatic 15, 3) := by decide +kernel
theorem dL_chip_25 : decode cL_chip 25 = .ok (.aload_n 1, 1) := by decide +kernel
theorem dL_chip_26 : decode cL_chip 26 = .ok (.iload_n 2, 1) := by decide +kernel
theorem dL_chip_27 : decode cL_chip 27 = .ok (.iconst 2, 1) := by decide +kernel
theorem dL_chip_28 : decode cL_chip 28 = .ok (.iadd, 1) := by decide +kernel
theorem dL_chip_29 : decode cL_chip 29 = .ok (.invokestatic 9, 3) := by decide +kernel
theorem dL_chip_32 : decode cL_chip 32 = .ok (.bipush 21, 2) := by decide +kernel
theorem dL_chip_34 : decode cL_chip 34 = .ok (.invokestatic 15, 3) := by decide +kernel
theorem dL_chip_37 : decode cL_chip 37 = .ok (.iconst 0, 1) := by decide +kernel
theorem dL_chip_38 : decode cL_chip 38 = .ok (.invokevirtual 19, 3) := by decide +kernel
theorem dL_chip_41 : decode cL_chip 41 = .ok (.pop, 1) := by decide +kernel
theorem dL_chip_42 : decode cL_chip 42 = .ok (.aload_n 0, 1) := by decide +kernel
theorem dL_chip_43 : decode cL_chip 43 = .ok (.iconst 4, 1) := by decide +kernel
theorem dL_chip_44 : decode cL_chip 44 = .ok (.aload_n 1, 1) := by decide +kernel
theorem dL_chip_45 : decode cL_chip 45 = .ok (.iload_n 2, 1) := by decide +kernel
theorem dL_chip_46 : decode cL_chip 46 = .ok (.iconst 3, 1) := by decide +kernel
theorem dL_chip_47 : decode cL_chip 47 = .ok (.iadd, 1) := by decide +kernel
theorem dL_chip_48 : decode cL_chip 48 = .ok (.invokestatic 9, 3) := by decide +kernel
theorem dL_chip_51 : decode cL_chip 51 = .ok (.bipush 37, 2) := by decide +kernel
theorem dL_chip_53 : decode cL_chip 53 = .ok (.invokestatic 15, 3) := by decide +kernel
theorem dL_chip_56 : decode cL_chip 56 = .ok (.iadd, 1) := by decide +kernel
theorem dL_chip_57 : decode cL_chip 57 = .ok (.aload_n 1, 1) := by decide +kernel
theorem dL_chip_58 : decode cL_chip 58 = .ok (.iload_n 2, 1) := by decide +kernel
theorem dL_chip_59 : decode cL_chip 59 = .ok (.iconst 4, 1) := by decide +kernel
theorem dL_chip_60 : decode cL_chip 60 = .ok (.iadd, 1) := by decide +kernel
theorem dL_chip_61 : decode cL_chip 61 = .ok (.invokestatic 9, 3) := by decide +kernel
theorem dL_chip_64 : decode cL_chip 64 = .ok (.bipush 41, 2) := by decide +kernel
theorem dL_chip_66 : decode cL_chip 66 = .ok (.invokestatic 15, 3) := by decide +kernel
theorem dL_chip_69 : decode cL_chip 69 = .ok (.aload_n 1, 1) := by decide +kernel
theorem dL_chip_70 : decode cL_chip 70 = .ok (.iload_n 2, 1) := by decide +kernel
theorem dL_chip_71 : decode cL_chip 71 = .ok (.iconst 5, 1) := by decide +kernel
theorem dL_chip_72 : decode cL_chip 72 = .ok (.iadd, 1) := by decide +kernel
theorem dL_chip_73 : decode cL_chip 73 = .ok (.invokestatic 9, 3) := by decide +kernel
theorem dL_chip_76 : decode cL_chip 76 = .ok (.bipush 21, 2) := by decide +kernel
theorem dL_chip_78 : decode cL_chip 78 = .ok (.invokestatic 15, 3) := by decide +kernel
theorem dL_chip_81 : decode cL_chip 81 = .ok (.aload_n 1, 1) := by decide +kernel
theorem dL_chip_82 : decode cL_chip 82 = .ok (.iload_n 2, 1) := by decide +kernel
theorem dL_chip_83 : decode cL_chip 83 = .ok (.bipush 6, 2) := by decide +kernel
theorem dL_chip_85 : decode cL_chip 85 = .ok (.iadd, 1) := by decide +kernel
theorem dL_chip_86 : decode cL_chip 86 = .ok (.invokestatic 9, 3) := by decide +kernel
theorem dL_chip_89 : decode cL_chip 89 = .ok (.iconst 3, 1) := by decide +kernel
theorem dL_chip_90 : decode cL_chip 90 = .ok (.invokestatic 15, 3) := by decide +kernel
theorem dL_chip_93 : decode cL_chip 93 = .ok (.ifCond .ne 7, 3) := by decide +kernel
theorem dL_chip_96 : decode cL_chip 96 = .ok (.iconst 1, 1) := by decide +kernel
theorem dL_chip_97 : decode cL_chip 97 = .ok (.goto 4, 3) := by decide +kernel
theorem dL_chip_100 : decode cL_chip 100 = .ok (.iconst 0, 1) := by decide +kernel
theorem dL_chip_101 : decode cL_chip 101 = .ok (.invokevirtual 19, 3) := by decide +kernel
theorem dL_chip_104 : decode cL_chip 104 = .ok (.pop, 1) := by decide +kernel
theorem dL_chip_105 : decode cL_chip 105 = .ok (.aload_n 0, 1) := by decide +kernel
theorem dL_chip_106 : decode cL_chip 106 = .ok (.iconst 0, 1) := by decide +kernel
theorem dL_chip_107 : decode cL_chip 107 = .ok (.iconst 2, 1) := by decide +kernel
theorem dL_chip_108 : decode cL_chip 108 = .ok (.aload_n 1, 1) := by decide +kernel
theorem dL_chip_109 : decode cL_chip 109 = .ok (.iload_n 2, 1) := by decide +kernel
theorem dL_chip_110 : decode cL_chip 110 = .ok (.bipush 7, 2) := by decide +kernel
theorem dL_chip_112 : decode cL_chip 112 = .ok (.iadd, 1) := by decide +kernel
theorem dL_chip_113 : decode cL_chip 113 = .ok (.invokestatic 9, 3) := by decide +kernel
theorem dL_chip_116 : decode cL_chip 116 = .ok (.iconst 3, 1) := by decide +kernel
theorem dL_chip_117 : decode cL_chip 117 = .ok (.invokestatic 15, 3) := by decide +kernel
theorem dL_chip_120 : decode cL_chip 120 = .ok (.iadd, 1) := by decide +kernel
theorem dL_chip_121 : decode cL_chip 121 = .ok (.aload_n 1, 1) := by decide +kernel
theorem dL_chip_122 : decode cL_chip 122 = .ok (.iload_n 2, 1) := by decide +kernel
theorem dL_chip_123 : decode cL_chip 123 = .ok (.bipush 8, 2) := by decide +kernel
theorem dL_chip_125 : decode cL_chip 125 = .ok (.iadd, 1) := by decide +kernel
theorem dL_chip_126 : decode cL_chip 126 = .ok (.invokestatic 9, 3) := by decide +kernel
theorem dL_chip_129 : decode cL_chip 129 = .ok (.bipush 21, 2) := by decide +kernel
theorem dL_chip_131 : decode cL_chip 131 = .ok (.invokestatic 15, 3) := by decide +kernel
theorem dL_chip_134 : decode cL_chip 134 = .ok (.invokevirtual 25, 3) := by decide +kernel
theorem dL_chip_137 : decode cL_chip 137 = .ok (.pop, 1) := by decide +kernel
theorem dL_chip_138 : decode cL_chip 138 = .ok (.iload_n 3, 1) := by decide +kernel
theorem dL_chip_139 : decode cL_chip 139 = .ok (.anewarray 29, 3) := by decide +kernel
theorem dL_chip_142 : decode cL_chip 142 = .ok (.astore 5, 2) := by decide +kernel
theorem dL_chip_144 : decode cL_chip 144 = .ok (.iconst 0, 1) := by decide +kernel
theorem dL_chip_145 : decode cL_chip 145 = .ok (.istore 6, 2) := by decide +kernel
theorem dL_chip_147 : decode cL_chip 147 = .ok (.iload 6, 2) := by decide +kernel
theorem dL_chip_149 : decode cL_chip 149 = .ok (.iload_n 3, 1) := by decide +kernel
theorem dL_chip_150 : decode cL_chip 150 = .ok (.if_icmp .ge 353, 3) := by decide +kernel
theorem dL_chip_153 : decode cL_chip 153 = .ok (.aload_n 1, 1) := by decide +kernel
theorem dL_chip_154 : decode cL_chip 154 = .ok (.iload_n 2, 1) := by decide +kernel
theorem dL_chip_155 : decode cL_chip 155 = .ok (.iload 6, 2) := by decide +kernel
theorem dL_chip_157 : decode cL_chip 157 = .ok (.iadd, 1) := by decide +kernel
theorem dL_chip_158 : decode cL_chip 158 = .ok (.invokestatic 9, 3) := by decide +kernel
theorem dL_chip_161 : decode cL_chip 161 = .ok (.bipush 13, 2) := by decide +kernel
theorem dL_chip_163 : decode cL_chip 163 = .ok (.iload 6, 2) := by decide +kernel
theorem dL_chip_165 : decode cL_chip 165 = .ok (.imul, 1) := by decide +kernel
theorem dL_chip_166 : decode cL_chip 166 = .ok (.iadd, 1) := by decide +kernel
theorem dL_chip_167 : decode cL_chip 167 = .ok (.istore 7, 2) := by decide +kernel
theorem dL_chip_169 : decode cL_chip 169 = .ok (.bipush 9, 2) := by decide +kernel
theorem dL_chip_171 : decode cL_chip 171 = .ok (.newarray .int, 2) := by decide +kernel
theorem dL_chip_173 : decode cL_chip 173 = .ok (.dup, 1) := by decide +kernel
theorem dL_chip_174 : decode cL_chip 174 = .ok (.iconst 0, 1) := by decide +kernel
theorem dL_chip_175 : decode cL_chip 175 = .ok (.iconst 1, 1) := by decide +kernel
theorem dL_chip_176 : decode cL_chip 176 = .ok (.iastore, 1) := by decide +kernel
theorem dL_chip_177 : decode cL_chip 177 = .ok (.dup, 1) := by decide +kernel
theorem dL_chip_178 : decode cL_chip 178 = .ok (.iconst 1, 1) := by decide +kernel
theorem dL_chip_179 : decode cL_chip 179 = .ok (.iconst 2, 1) := by decide +kernel
theorem dL_chip_180 : decode cL_chip 180 = .ok (.iastore, 1) := by decide +kernel
theorem dL_chip_181 : decode cL_chip 181 = .ok (.dup, 1) := by decide +kernel
theorem dL_chip_182 : decode cL_chip 182 = .ok (.iconst 2, 1) := by decide +kernel
theorem dL_chip_183 : decode cL_chip 183 = .ok (.iconst 3, 1) := by decide +kernel
theorem dL_chip_184 : decode cL_chip 184 = .ok (.iastore, 1) := by decide +kernel
theorem dL_chip_185 : decode cL_chip 185 = .ok (.dup, 1) := by decide +kernel
theorem dL_chip_186 : decode cL_chip 186 = .ok (.iconst 3, 1) := by decide +kernel
theorem dL_chip_187 : decode cL_chip 187 = .ok (.iconst 4, 1) := by decide +kernel
theorem dL_chip_188 : decode cL_chip 188 = .ok (.iastore, 1) := by decide +kernel
theorem dL_chip_189 : decode cL_chip 189 = .ok (.dup, 1) := by decide +kernel
theorem dL_chip_190 : decode cL_chip 190 = .ok (.iconst 4, 1) := by decide +kernel
theorem dL_chip_191 : decode cL_chip 191 = .ok (.iconst 5, 1) := by decide +kernel
theorem dL_chip_192 : decode cL_chip 192 = .ok (.iastore, 1) := by decide +kernel
theorem dL_chip_193 : decode cL_chip 193 = .ok (.dup, 1) := by decide +kernel
theorem dL_chip_194 : decode cL_chip 194 = .ok (.iconst 5, 1) := by decide +kernel
theorem dL_chip_195 : decode cL_chip 195 = .ok (.bipush 6, 2) := by decide +kernel
theorem dL_chip_197 : decode cL_chip 197 = .ok (.iastore, 1) := by decide +kernel
theorem dL_chip_198 : decode cL_chip 198 = .ok (.dup, 1) := by decide +kernel
theorem dL_chip_199 : decode cL_chip 199 = .ok (.bipush 6, 2) := by decide +kernel
theorem dL_chip_201 : decode cL_chip 201 = .ok (.bipush 8, 2) := by decide +kernel
theorem dL_chip_203 : decode cL_chip 203 = .ok (.iastore, 1) := by decide +kernel
theorem dL_chip_204 : decode cL_chip 204 = .ok (.dup, 1) := by decide +kernel
theorem dL_chip_205 : decode cL_chip 205 = .ok (.bipush 7, 2) := by decide +kernel
theorem dL_chip_207 : decode cL_chip 207 = .ok (.iload 4, 2) := by decide +kernel
theorem dL_chip_209 : decode cL_chip 209 = .ok (.iastore, 1) := by decide +kernel
theorem dL_chip_210 : decode cL_chip 210 = .ok (.dup, 1) := by decide +kernel
theorem dL_chip_211 : decode cL_chip 211 = .ok (.bipush 8, 2) := by decide +kernel
theorem dL_chip_213 : decode cL_chip 213 = .ok (.iconst 3, 1) := by decide +kernel
theorem dL_chip_214 : decode cL_chip 214 = .ok (.iastore, 1) := by decide +kernel
theorem dL_chip_215 : decode cL_chip 215 = .ok (.astore 8, 2) := by decide +kernel
theorem dL_chip_217 : decode cL_chip 217 = .ok (.iload 6, 2) := by decide +kernel
theorem dL_chip_219 : decode cL_chip 219 = .ok (.iconst 2, 1) := by decide +kernel
theorem dL_chip_220 : decode cL_chip 220 = .ok (.if_icmp .ge 11, 3) := by decide +kernel
theorem dL_chip_223 : decode cL_chip 223 = .ok (.bipush 6, 2) := by decide +kernel
theorem dL_chip_225 : decode cL_chip 225 = .ok (.iload 6, 2) := by decide +kernel
theorem dL_chip_227 : decode cL_chip 227 = .ok (.imul, 1) := by decide +kernel
theorem dL_chip_228 : decode cL_chip 228 = .ok (.goto 13, 3) := by decide +kernel
theorem dL_chip_231 : decode cL_chip 231 = .ok (.aload 8, 2) := by decide +kernel
theorem dL_chip_233 : decode cL_chip 233 = .ok (.iload 7, 2) := by decide +kernel
theorem dL_chip_235 : decode cL_chip 235 = .ok (.bipush 9, 2) := by decide +kernel
theorem dL_chip_237 : decode cL_chip 237 = .ok (.invokestatic 15, 3) := by decide +kernel
theorem dL_chip_240 : decode cL_chip 240 = .ok (.iaload, 1) := by decide +kernel
theorem dL_chip_241 : decode cL_chip 241 = .ok (.istore 9, 2) := by decide +kernel
theorem dL_chip_243 : decode cL_chip 243 = .ok (.bipush 7, 2) := by decide +kernel
theorem dL_chip_245 : decode cL_chip 245 = .ok (.newarray .int, 2) := by decide +kernel
theorem dL_chip_247 : decode cL_chip 247 = .ok (.dup, 1) := by decide +kernel
theorem dL_chip_248 : decode cL_chip 248 = .ok (.iconst 0, 1) := by decide +kernel
theorem dL_chip_249 : decode cL_chip 249 = .ok (.iload 9, 2) := by decide +kernel
theorem dL_chip_251 : decode cL_chip 251 = .ok (.iastore, 1) := by decide +kernel
theorem dL_chip_252 : decode cL_chip 252 = .ok (.dup, 1) := by decide +kernel
theorem dL_chip_253 : decode cL_chip 253 = .ok (.iconst 1, 1) := by decide +kernel
theorem dL_chip_254 : decode cL_chip 254 = .ok (.aload 5, 2) := by decide +kernel
theorem dL_chip_256 : decode cL_chip 256 = .ok (.iload 6, 2) := by decide +kernel
theorem dL_chip_258 : decode cL_chip 258 = .ok (.iload 7, 2) := by decide +kernel
theorem dL_chip_260 : decode cL_chip 260 = .ok (.iconst 3, 1) := by decide +kernel
theorem dL_chip_261 : decode cL_chip 261 = .ok (.ishr, 1) := by decide +kernel
theorem dL_chip_262 : decode cL_chip 262 = .ok (.invokestatic 31, 3) := by decide +kernel
theorem dL_chip_265 : decode cL_chip 265 = .ok (.iastore, 1) := by decide +kernel
theorem dL_chip_266 : decode cL_chip 266 = .ok (.dup, 1) := by decide +kernel
theorem dL_chip_267 : decode cL_chip 267 = .ok (.iconst 2, 1) := by decide +kernel
theorem dL_chip_268 : decode cL_chip 268 = .ok (.aload 5, 2) := by decide +kernel
theorem dL_chip_270 : decode cL_chip 270 = .ok (.iload 6, 2) := by decide +kernel
theorem dL_chip_272 : decode cL_chip 272 = .ok (.iload 7, 2) := by decide +kernel
theorem dL_chip_274 : decode cL_chip 274 = .ok (.iconst 5, 1) := by decide +kernel
theorem dL_chip_275 : decode cL_chip 275 = .ok (.ishr, 1) := by decide +kernel
theorem dL_chip_276 : decode cL_chip 276 = .ok (.invokestatic 31, 3) := by decide +kernel
theorem dL_chip_279 : decode cL_chip 279 = .ok (.iastore, 1) := by decide +kernel
theorem dL_chip_280 : decode cL_chip 280 = .ok (.dup, 1) := by decide +kernel
theorem dL_chip_281 : decode cL_chip 281 = .ok (.iconst 3, 1) := by decide +kernel
theorem dL_chip_282 : decode cL_chip 282 = .ok (.iload 7, 2) := by decide +kernel
theorem dL_chip_284 : decode cL_chip 284 = .ok (.iconst 2, 1) := by decide +kernel
theorem dL_chip_285 : decode cL_chip 285 = .ok (.ishr, 1) := by decide +kernel
theorem dL_chip_286 : decode cL_chip 286 = .ok (.iconst 3, 1) := by decide +kernel
theorem dL_chip_287 : decode cL_chip 287 = .ok (.invokestatic 15, 3) := by decide +kernel
theorem dL_chip_290 : decode cL_chip 290 = .ok (.iastore, 1) := by decide +kernel
theorem dL_chip_291 : decode cL_chip 291 = .ok (.dup, 1) := by decide +kernel
theorem dL_chip_292 : decode cL_chip 292 = .ok (.iconst 4, 1) := by decide +kernel
theorem dL_chip_293 : decode cL_chip 293 = .ok (.iconst 1, 1) := by decide +kernel
theorem dL_chip_294 : decode cL_chip 294 = .ok (.iastore, 1) := by decide +kernel
theorem dL_chip_295 : decode cL_chip 295 = .ok (.dup, 1) := by decide +kernel
theorem dL_chip_296 : decode cL_chip 296 = .ok (.iconst 5, 1) := by decide +kernel
theorem dL_chip_297 : decode cL_chip 297 = .ok (.iconst 4, 1) := by decide +kernel
theorem dL_chip_298 : decode cL_chip 298 = .ok (.iastore, 1) := by decide +kernel
theorem dL_chip_299 : decode cL_chip 299 = .ok (.dup, 1) := by decide +kernel
theorem dL_chip_300 : decode cL_chip 300 = .ok (.bipush 6, 2) := by decide +kernel
theorem dL_chip_302 : decode cL_chip 302 = .ok (.iconst 0, 1) := by decide +kernel
theorem dL_chip_303 : decode cL_chip 303 = .ok (.iastore, 1) := by decide +kernel
theorem dL_chip_304 : decode cL_chip 304 = .ok (.astore 10, 2) := by decide +kernel
theorem dL_chip_306 : decode cL_chip 306 = .ok (.aload_n 0, 1) := by decide +kernel
theorem dL_chip_307 : decode cL_chip 307 = .ok (.iload 9, 2) := by decide +kernel
theorem dL_chip_309 : decode cL_chip 309 = .ok (.aload 10, 2) := by decide +kernel
theorem dL_chip_311 : decode cL_chip 311 = .ok (.iconst 1, 1) := by decide +kernel
theorem dL_chip_312 : decode cL_chip 312 = .ok (.iaload, 1) := by decide +kernel
theorem dL_chip_313 : decode cL_chip 313 = .ok (.aload 10, 2) := by decide +kernel
theorem dL_chip_315 : decode cL_chip 315 = .ok (.iconst 2, 1) := by decide +kernel
theorem dL_chip_316 : decode cL_chip 316 = .ok (.iaload, 1) := by decide +kernel
theorem dL_chip_317 : decode cL_chip 317 = .ok (.aload 10, 2) := by decide +kernel
theorem dL_chip_319 : decode cL_chip 319 = .ok (.iconst 3, 1) := by decide +kernel
theorem dL_chip_320 : decode cL_chip 320 = .ok (.iaload, 1) := by decide +kernel
theorem dL_chip_321 : decode cL_chip 321 = .ok (.invokevirtual 35, 3) := by decide +kernel
theorem dL_chip_324 : decode cL_chip 324 = .ok (.pop, 1) := by decide +kernel
theorem dL_chip_325 : decode cL_chip 325 = .ok (.aload 10, 2) := by decide +kernel
theorem dL_chip_327 : decode cL_chip 327 = .ok (.iconst 1, 1) := by decide +kernel
theorem dL_chip_328 : decode cL_chip 328 = .ok (.iload 9, 2) := by decide +kernel
theorem dL_chip_330 : decode cL_chip 330 = .ok (.ifCond .eq 10, 3) := by decide +kernel
theorem dL_chip_333 : decode cL_chip 333 = .ok (.iload 9, 2) := by decide +kernel
theorem dL_chip_335 : decode cL_chip 335 = .ok (.bipush 6, 2) := by decide +kernel
theorem dL_chip_337 : decode cL_chip 337 = .ok (.if_icmp .ne 7, 3) := by decide +kernel
theorem dL_chip_340 : decode cL_chip 340 = .ok (.iconst (-1), 1) := by decide +kernel
theorem dL_chip_341 : decode cL_chip 341 = .ok (.goto 7, 3) := by decide +kernel
theorem dL_chip_344 : decode cL_chip 344 = .ok (.aload 10, 2) := by decide +kernel
theorem dL_chip_346 : decode cL_chip 346 = .ok (.iconst 1, 1) := by decide +kernel
theorem dL_chip_347 : decode cL_chip 347 = .ok (.iaload, 1) := by decide +kernel
theorem dL_chip_348 : decode cL_chip 348 = .ok (.iastore, 1) := by decide +kernel
theorem dL_chip_349 : decode cL_chip 349 = .ok (.aload 10, 2) := by decide +kernel
theorem dL_chip_351 : decode cL_chip 351 = .ok (.iconst 2, 1) := by decide +kernel
theorem dL_chip_352 : decode cL_chip 352 = .ok (.iload 9, 2) := by decide +kernel
theorem dL_chip_354 : decode cL_chip 354 = .ok (.iconst 2, 1) := by decide +kernel
theorem dL_chip_355 : decode cL_chip 355 = .ok (.if_icmp .le 17, 3) := by decide +kernel
theorem dL_chip_358 : decode cL_chip 358 = .ok (.iload 9, 2) := by decide +kernel
theorem dL_chip_360 : decode cL_chip 360 = .ok (.bipush 6, 2) := by decide +kernel
theorem dL_chip_362 : decode cL_chip 362 = .ok (.if_icmp .ge 10, 3) := by decide +kernel
theorem dL_chip_365 : decode cL_chip 365 = .ok (.aload 10, 2) := by decide +kernel
theorem dL_chip_367 : decode cL_chip 367 = .ok (.iconst 2, 1) := by decide +kernel
theorem dL_chip_368 : decode cL_chip 368 = .ok (.iaload, 1) := by decide +kernel
theorem dL_chip_369 : decode cL_chip 369 = .ok (.goto 4, 3) := by decide +kernel
theorem dL_chip_372 : decode cL_chip 372 = .ok (.iconst (-1), 1) := by decide +kernel
theorem dL_chip_373 : decode cL_chip 373 = .ok (.iastore, 1) := by decide +kernel
theorem dL_chip_374 : decode cL_chip 374 = .ok (.aload 5, 2) := by decide +kernel
theorem dL_chip_376 : decode cL_chip 376 = .ok (.iload 6, 2) := by decide +kernel
theorem dL_chip_378 : decode cL_chip 378 = .ok (.aload 10, 2) := by decide +kernel
theorem dL_chip_380 : decode cL_chip 380 = .ok (.aastore, 1) := by decide +kernel
theorem dL_chip_381 : decode cL_chip 381 = .ok (.iload 7, 2) := by decide +kernel
theorem dL_chip_383 : decode cL_chip 383 = .ok (.iconst 4, 1) := by decide +kernel
theorem dL_chip_384 : decode cL_chip 384 = .ok (.ishr, 1) := by decide +kernel
theorem dL_chip_385 : decode cL_chip 385 = .ok (.iconst 3, 1) := by decide +kernel
theorem dL_chip_386 : decode cL_chip 386 = .ok (.invokestatic 15, 3) := by decide +kernel
theorem dL_chip_389 : decode cL_chip 389 = .ok (.ifCond .ne 26, 3) := by decide +kernel
theorem dL_chip_392 : decode cL_chip 392 = .ok (.aload_n 0, 1) := by decide +kernel
theorem dL_chip_393 : decode cL_chip 393 = .ok (.iload 6, 2) := by decide +kernel
theorem dL_chip_395 : decode cL_chip 395 = .ok (.aload 10, 2) := by decide +kernel
theorem dL_chip_397 : decode cL_chip 397 = .ok (.iconst 4, 1) := by decide +kernel
theorem dL_chip_398 : decode cL_chip 398 = .ok (.iconst 1, 1) := by decide +kernel
theorem dL_chip_399 : decode cL_chip 399 = .ok (.iload 7, 2) := by decide +kernel
theorem dL_chip_401 : decode cL_chip 401 = .ok (.bipush 6, 2) := by decide +kernel
theorem dL_chip_403 : decode cL_chip 403 = .ok (.ishr, 1) := by decide +kernel
theorem dL_chip_404 : decode cL_chip 404 = .ok (.iconst 3, 1) := by decide +kernel
theorem dL_chip_405 : decode cL_chip 405 = .ok (.invokestatic 15, 3) := by decide +kernel
theorem dL_chip_408 : decode cL_chip 408 = .ok (.ishl, 1) := by decide +kernel
theorem dL_chip_409 : decode cL_chip 409 = .ok (.dup_x2, 1) := by decide +kernel
theorem dL_chip_410 : decode cL_chip 410 = .ok (.iastore, 1) := by decide +kernel
theorem dL_chip_411 : decode cL_chip 411 = .ok (.invokevirtual 38, 3) := by decide +kernel
theorem dL_chip_414 : decode cL_chip 414 = .ok (.pop, 1) := by decide +kernel
theorem dL_chip_415 : decode cL_chip 415 = .ok (.iload 7, 2) := by decide +kernel
theorem dL_chip_417 : decode cL_chip 417 = .ok (.bipush 7, 2) := by decide +kernel
theorem dL_chip_419 : decode cL_chip 419 = .ok (.ishr, 1) := by decide +kernel
theorem dL_chip_420 : decode cL_chip 420 = .ok (.iconst 3, 1) := by decide +kernel
theorem dL_chip_421 : decode cL_chip 421 = .ok (.invokestatic 15, 3) := by decide +kernel
theorem dL_chip_424 : decode cL_chip 424 = .ok (.ifCond .ne 25, 3) := by decide +kernel
theorem dL_chip_427 : decode cL_chip 427 = .ok (.aload_n 0, 1) := by decide +kernel
theorem dL_chip_428 : decode cL_chip 428 = .ok (.iload 6, 2) := by decide +kernel
theorem dL_chip_430 : decode cL_chip 430 = .ok (.aload 10, 2) := by decide +kernel
theorem dL_chip_432 : decode cL_chip 432 = .ok (.iconst 5, 1) := by decide +kernel
theorem dL_chip_433 : decode cL_chip 433 = .ok (.iload 7, 2) := by decide +kernel
theorem dL_chip_435 : decode cL_chip 435 = .ok (.bipush 9, 2) := by decide +kernel
theorem dL_chip_437 : decode cL_chip 437 = .ok (.ishr, 1) := by decide +kernel
theorem dL_chip_438 : decode cL_chip 438 = .ok (.bipush 81, 2) := by decide +kernel
theorem dL_chip_440 : decode cL_chip 440 = .ok (.invokestatic 15, 3) := by decide +kernel
theorem dL_chip_443 : decode cL_chip 443 = .ok (.dup_x2, 1) := by decide +kernel
theorem dL_chip_444 : decode cL_chip 444 = .ok (.iastore, 1) := by decide +kernel
theorem dL_chip_445 : decode cL_chip 445 = .ok (.invokevirtual 41, 3) := by decide +kernel
theorem dL_chip_448 : decode cL_chip 448 = .ok (.pop, 1) := by decide +kernel
theorem dL_chip_449 : decode cL_chip 449 = .ok (.iload 9, 2) := by decide +kernel
theorem dL_chip_451 : decode cL_chip 451 = .ok (.bipush 6, 2) := by decide +kernel
theorem dL_chip_453 : decode cL_chip 453 = .ok (.if_icmp .eq 10, 3) := by decide +kernel
theorem dL_chip_456 : decode cL_chip 456 = .ok (.iload 9, 2) := by decide +kernel
theorem dL_chip_458 : decode cL_chip 458 = .ok (.bipush 7, 2) := by decide +kernel
theorem dL_chip_460 : decode cL_chip 460 = .ok (.if_icmp .ne 37, 3) := by decide +kernel
theorem dL_chip_463 : decode cL_chip 463 = .ok (.iload 7, 2) := by decide +kernel
theorem dL_chip_465 : decode cL_chip 465 = .ok (.iconst 5, 1) := by decide +kernel
theorem dL_chip_466 : decode cL_chip 466 = .ok (.ishr, 1) := by decide +kernel
theorem dL_chip_467 : decode cL_chip 467 = .ok (.iconst 2, 1) := by decide +kernel
theorem dL_chip_468 : decode cL_chip 468 = .ok (.invokestatic 15, 3) := by decide +kernel
theorem dL_chip_471 : decode cL_chip 471 = .ok (.ifCond .ne 26, 3) := by decide +kernel
theorem dL_chip_474 : decode cL_chip 474 = .ok (.aload_n 0, 1) := by decide +kernel
theorem dL_chip_475 : decode cL_chip 475 = .ok (.iload 6, 2) := by decide +kernel
theorem dL_chip_477 : decode cL_chip 477 = .ok (.aload 10, 2) := by decide +kernel
theorem dL_chip_479 : decode cL_chip 479 = .ok (.bipush 6, 2) := by decide +kernel
theorem dL_chip_481 : decode cL_chip 481 = .ok (.iload 7, 2) := by decide +kernel
theorem dL_chip_483 : decode cL_chip 483 = .ok (.bipush 8, 2) := by decide +kernel
theorem dL_chip_485 : decode cL_chip 485 = .ok (.ishr, 1) := by decide +kernel
theorem dL_chip_486 : decode cL_chip 486 = .ok (.bipush 21, 2) := by decide +kernel
theorem dL_chip_488 : decode cL_chip 488 = .ok (.invokestatic 15, 3) := by decide +kernel
theorem dL_chip_491 : decode cL_chip 491 = .ok (.dup_x2, 1) := by decide +kernel
theorem dL_chip_492 : decode cL_chip 492 = .ok (.iastore, 1) := by decide +kernel
theorem dL_chip_493 : decode cL_chip 493 = .ok (.invokevirtual 44, 3) := by decide +kernel
theorem dL_chip_496 : decode cL_chip 496 = .ok (.pop, 1) := by decide +kernel
theorem dL_chip_497 : decode cL_chip 497 = .ok (.iinc 6 1, 3) := by decide +kernel
theorem dL_chip_500 : decode cL_chip 500 = .ok (.goto (-353), 3) := by decide +kernel
theorem dL_chip_503 : decode cL_chip 503 = .ok (.iconst 0, 1) := by decide +kernel
theorem dL_chip_504 : decode cL_chip 504 = .ok (.istore 6, 2) := by decide +kernel
theorem dL_chip_506 : decode cL_chip 506 = .ok (.iload 6, 2) := by decide +kernel
theorem dL_chip_508 : decode cL_chip 508 = .ok (.iload_n 3, 1) := by decide +kernel
theorem dL_chip_509 : decode cL_chip 509 = .ok (.if_icmp .ge 66, 3) := by decide +kernel
theorem dL_chip_512 : decode cL_chip 512 = .ok (.aload 5, 2) := by decide +kernel
theorem dL_chip_514 : decode cL_chip 514 = .ok (.iload 6, 2) := by decide +kernel
theorem dL_chip_516 : decode cL_chip 516 = .ok (.aaload, 1) := by decide +kernel
theorem dL_chip_517 : decode cL_chip 517 = .ok (.iconst 0, 1) := by decide +kernel
theorem dL_chip_518 : decode cL_chip 518 = .ok (.iaload, 1) := by decide +kernel
theorem dL_chip_519 : decode cL_chip 519 = .ok (.bipush 6, 2) := by decide +kernel
theorem dL_chip_521 : decode cL_chip 521 = .ok (.if_icmp .eq 6, 3) := by decide +kernel
theorem dL_chip_524 : decode cL_chip 524 = .ok (.goto 45, 3) := by decide +kernel
theorem dL_chip_527 : decode cL_chip 527 = .ok (.aload 5, 2) := by decide +kernel
theorem dL_chip_529 : decode cL_chip 529 = .ok (.iload 6, 2) := by decide +kernel
theorem dL_chip_531 : decode cL_chip 531 = .ok (.aaload, 1) := by decide +kernel
theorem dL_chip_532 : decode cL_chip 532 = .ok (.iconst 1, 1) := by decide +kernel
theorem dL_chip_533 : decode cL_chip 533 = .ok (.aload 5, 2) := by decide +kernel
theorem dL_chip_535 : decode cL_chip 535 = .ok (.iload_n 3, 1) := by decide +kernel
theorem dL_chip_536 : decode cL_chip 536 = .ok (.aload_n 1, 1) := by decide +kernel
theorem dL_chip_537 : decode cL_chip 537 = .ok (.iload_n 2, 1) := by decide +kernel
theorem dL_chip_538 : decode cL_chip 538 = .ok (.iload 6, 2) := by decide +kernel
theorem dL_chip_540 : decode cL_chip 540 = .ok (.iadd, 1) := by decide +kernel
theorem dL_chip_541 : decode cL_chip 541 = .ok (.iconst 3, 1) := by decide +kernel
theorem dL_chip_542 : decode cL_chip 542 = .ok (.iadd, 1) := by decide +kernel
theorem dL_chip_543 : decode cL_chip 543 = .ok (.invokestatic 9, 3) := by decide +kernel
theorem dL_chip_546 : decode cL_chip 546 = .ok (.iconst 5, 1) := by decide +kernel
theorem dL_chip_547 : decode cL_chip 547 = .ok (.iload 6, 2) := by decide +kernel
theorem dL_chip_549 : decode cL_chip 549 = .ok (.imul, 1) := by decide +kernel
theorem dL_chip_550 : decode cL_chip 550 = .ok (.iadd, 1) := by decide +kernel
theorem dL_chip_551 : decode cL_chip 551 = .ok (.invokestatic 31, 3) := by decide +kernel
theorem dL_chip_554 : decode cL_chip 554 = .ok (.iastore, 1) := by decide +kernel
theorem dL_chip_555 : decode cL_chip 555 = .ok (.aload_n 0, 1) := by decide +kernel
theorem dL_chip_556 : decode cL_chip 556 = .ok (.iload 6, 2) := by decide +kernel
theorem dL_chip_558 : decode cL_chip 558 = .ok (.aload 5, 2) := by decide +kernel
theorem dL_chip_560 : decode cL_chip 560 = .ok (.iload 6, 2) := by decide +kernel
theorem dL_chip_562 : decode cL_chip 562 = .ok (.aaload, 1) := by decide +kernel
theorem dL_chip_563 : decode cL_chip 563 = .ok (.iconst 1, 1) := by decide +kernel
theorem dL_chip_564 : decode cL_chip 564 = .ok (.iaload, 1) := by decide +kernel
theorem dL_chip_565 : decode cL_chip 565 = .ok (.invokevirtual 47, 3) := by decide +kernel
theorem dL_chip_568 : decode cL_chip 568 = .ok (.pop, 1) := by decide +kernel
theorem dL_chip_569 : decode cL_chip 569 = .ok (.iinc 6 1, 3) := by decide +kernel
theorem dL_chip_572 : decode cL_chip 572 = .ok (.goto (-66), 3) := by decide +kernel
theorem dL_chip_575 : decode cL_chip 575 = .ok (.aload 5, 2) := by decide +kernel
theorem dL_chip_577 : decode cL_chip 577 = .ok (.areturn, 1) := by decide +kernel
theorem dL_inner_0 : decode cL_inner 0 = .ok (.iload_n 1, 1) := by decide +kernel
theorem dL_inner_1 : decode cL_inner 1 = .ok (.ifCond .ne 7, 3) := by decide +kernel
theorem dL_inner_4 : decode cL_inner 4 = .ok (.iconst 0, 1) := by decide +kernel
theorem dL_inner_5 : decode cL_inner 5 = .ok (.goto 8, 3) := by decide +kernel
theorem dL_inner_8 : decode cL_inner 8 = .ok (.iload_n 2, 1) := by decide +kernel
theorem dL_inner_9 : decode cL_inner 9 = .ok (.iload_n 1, 1) := by decide +kernel
theorem dL_inner_10 : decode cL_inner 10 = .ok (.invokestatic 15, 3) := by decide +kernel
theorem dL_inner_13 : decode cL_inner 13 = .ok (.istore_n 3, 1) := by decide +kernel
theorem dL_inner_14 : decode cL_inner 14 = .ok (.iload_n 3, 1) := by decide +kernel
theorem dL_inner_15 : decode cL_inner 15 = .ok (.ifCond .le 25, 3) := by decide +kernel
theorem dL_inner_18 : decode cL_inner 18 = .ok (.aload_n 0, 1) := by decide +kernel
theorem dL_inner_19 : decode cL_inner 19 = .ok (.iload_n 3, 1) := by decide +kernel
theorem dL_inner_20 : decode cL_inner 20 = .ok (.aaload, 1) := by decide +kernel
theorem dL_inner_21 : decode cL_inner 21 = .ok (.ifnull 19, 3) := by decide +kernel
theorem dL_inner_24 : decode cL_inner 24 = .ok (.aload_n 0, 1) := by decide +kernel
theorem dL_inner_25 : decode cL_inner 25 = .ok (.iload_n 3, 1) := by decide +kernel
theorem dL_inner_26 : decode cL_inner 26 = .ok (.aaload, 1) := by decide +kernel
theorem dL_inner_27 : decode cL_inner 27 = .ok (.iconst 0, 1) := by decide +kernel
theorem dL_inner_28 : decode cL_inner 28 = .ok (.iaload, 1) := by decide +kernel
theorem dL_inner_29 : decode cL_inner 29 = .ok (.bipush 8, 2) := by decide +kernel
theorem dL_inner_31 : decode cL_inner 31 = .ok (.if_icmp .ne 9, 3) := by decide +kernel
theorem dL_inner_34 : decode cL_inner 34 = .ok (.iinc 3 (-1), 3) := by decide +kernel
theorem dL_inner_37 : decode cL_inner 37 = .ok (.goto (-23), 3) := by decide +kernel
theorem dL_inner_40 : decode cL_inner 40 = .ok (.iload_n 3, 1) := by decide +kernel
theorem dL_inner_41 : decode cL_inner 41 = .ok (.ireturn, 1) := by decide +kernel
theorem dL_isStart_0 : decode cL_isStart 0 = .ok (.iload_n 0, 1) := by decide +kernel
theorem dL_isStart_1 : decode cL_isStart 1 = .ok (.ifCond .eq 15, 3) := by decide +kernel
theorem dL_isStart_4 : decode cL_isStart 4 = .ok (.iload_n 0, 1) := by decide +kernel
theorem dL_isStart_5 : decode cL_isStart 5 = .ok (.bipush 6, 2) := by decide +kernel
theorem dL_isStart_7 : decode cL_isStart 7 = .ok (.if_icmp .eq 9, 3) := by decide +kernel
theorem dL_isStart_10 : decode cL_isStart 10 = .ok (.iload_n 0, 1) := by decide +kernel
theorem dL_isStart_11 : decode cL_isStart 11 = .ok (.bipush 7, 2) := by decide +kernel
theorem dL_isStart_13 : decode cL_isStart 13 = .ok (.if_icmp .ne 7, 3) := by decide +kernel
theorem dL_isStart_16 : decode cL_isStart 16 = .ok (.iconst 1, 1) := by decide +kernel
theorem dL_isStart_17 : decode cL_isStart 17 = .ok (.goto 4, 3) := by decide +kernel
theorem dL_isStart_20 : decode cL_isStart 20 = .ok (.iconst 0, 1) := by decide +kernel
theorem dL_isStart_21 : decode cL_isStart 21 = .ok (.ireturn, 1) := by decide +kernel
theorem dL_law_0 : decode cL_law 0 = .ok (.new 20, 3) := by decide +kernel
theorem dL_law_3 : decode cL_law 3 = .ok (.dup, 1) := by decide +kernel
theorem dL_law_4 : decode cL_law 4 = .ok (.invokespecial 50, 3) := by decide +kernel
theorem dL_law_7 : decode cL_law 7 = .ok (.astore_n 1, 1) := by decide +kernel
theorem dL_law_8 : decode cL_law 8 = .ok (.aload_n 1, 1) := by decide +kernel
theorem dL_law_9 : decode cL_law 9 = .ok (.aload_n 0, 1) := by decide +kernel
theorem dL_law_10 : decode cL_law 10 = .ok (.iconst 3, 1) := by decide +kernel
theorem dL_law_11 : decode cL_law 11 = .ok (.bipush 11, 2) := by decide +kernel
theorem dL_law_13 : decode cL_law 13 = .ok (.bipush 7, 2) := by decide +kernel
theorem dL_law_15 : decode cL_law 15 = .ok (.invokestatic 51, 3) := by decide +kernel
theorem dL_law_18 : decode cL_law 18 = .ok (.astore_n 2, 1) := by decide +kernel
theorem dL_law_19 : decode cL_law 19 = .ok (.aload_n 1, 1) := by decide +kernel
theorem dL_law_20 : decode cL_law 20 = .ok (.bipush 8, 2) := by decide +kernel
theorem dL_law_22 : decode cL_law 22 = .ok (.aload_n 0, 1) := by decide +kernel
theorem dL_law_23 : decode cL_law 23 = .ok (.iconst 4, 1) := by decide +kernel
theorem dL_law_24 : decode cL_law 24 = .ok (.invokestatic 9, 3) := by decide +kernel
theorem dL_law_27 : decode cL_law 27 = .ok (.bipush 9, 2) := by decide +kernel
theorem dL_law_29 : decode cL_law 29 = .ok (.invokestatic 15, 3) := by decide +kernel
theorem dL_law_32 : decode cL_law 32 = .ok (.iadd, 1) := by decide +kernel
theorem dL_law_33 : decode cL_law 33 = .ok (.iconst 1, 1) := by decide +kernel
theorem dL_law_34 : decode cL_law 34 = .ok (.aload_n 0, 1) := by decide +kernel
theorem dL_law_35 : decode cL_law 35 = .ok (.bipush 6, 2) := by decide +kernel
theorem dL_law_37 : decode cL_law 37 = .ok (.invokestatic 9, 3) := by decide +kernel
theorem dL_law_40 : decode cL_law 40 = .ok (.bipush 8, 2) := by decide +kernel
theorem dL_law_42 : decode cL_law 42 = .ok (.invokestatic 15, 3) := by decide +kernel
theorem dL_law_45 : decode cL_law 45 = .ok (.iadd, 1) := by decide +kernel
theorem dL_law_46 : decode cL_law 46 = .ok (.invokevirtual 55, 3) := by decide +kernel
theorem dL_law_49 : decode cL_law 49 = .ok (.pop, 1) := by decide +kernel
theorem dL_law_50 : decode cL_law 50 = .ok (.aload_n 1, 1) := by decide +kernel
theorem dL_law_51 : decode cL_law 51 = .ok (.invokevirtual 58, 3) := by decide +kernel
theorem dL_law_54 : decode cL_law 54 = .ok (.lstore_n 3, 1) := by decide +kernel
theorem dL_law_55 : decode cL_law 55 = .ok (.iconst 2, 1) := by decide +kernel
theorem dL_law_56 : decode cL_law 56 = .ok (.newarray .double, 2) := by decide +kernel
theorem dL_law_58 : decode cL_law 58 = .ok (.dup, 1) := by decide +kernel
theorem dL_law_59 : decode cL_law 59 = .ok (.iconst 0, 1) := by decide +kernel
theorem dL_law_60 : decode cL_law 60 = .ok (.ldc2_w 62, 3) := by decide +kernel
theorem dL_law_63 : decode cL_law 63 = .ok (.dastore, 1) := by decide +kernel
theorem dL_law_64 : decode cL_law 64 = .ok (.dup, 1) := by decide +kernel
theorem dL_law_65 : decode cL_law 65 = .ok (.iconst 1, 1) := by decide +kernel
theorem dL_law_66 : decode cL_law 66 = .ok (.ldc2_w 62, 3) := by decide +kernel
theorem dL_law_69 : decode cL_law 69 = .ok (.dastore, 1) := by decide +kernel
theorem dL_law_70 : decode cL_law 70 = .ok (.astore 5, 2) := by decide +kernel
theorem dL_law_72 : decode cL_law 72 = .ok (.iconst 0, 1) := by decide +kernel
theorem dL_law_73 : decode cL_law 73 = .ok (.istore 6, 2) := by decide +kernel
theorem dL_law_75 : decode cL_law 75 = .ok (.iconst 0, 1) := by decide +kernel
theorem dL_law_76 : decode cL_law 76 = .ok (.istore 7, 2) := by decide +kernel
theorem dL_law_78 : decode cL_law 78 = .ok (.iload 7, 2) := by decide +kernel
theorem dL_law_80 : decode cL_law 80 = .ok (.bipush 11, 2) := by decide +kernel
theorem dL_law_82 : decode cL_law 82 = .ok (.if_icmp .ge 283, 3) := by decide +kernel
theorem dL_law_85 : decode cL_law 85 = .ok (.aload_n 1, 1) := by decide +kernel
theorem dL_law_86 : decode cL_law 86 = .ok (.iload 7, 2) := by decide +kernel
theorem dL_law_88 : decode cL_law 88 = .ok (.iconst 0, 1) := by decide +kernel
theorem dL_law_89 : decode cL_law 89 = .ok (.invokevirtual 64, 3) := by decide +kernel
theorem dL_law_92 : decode cL_law 92 = .ok (.aload_n 1, 1) := by decide +kernel
theorem dL_law_93 : decode cL_law 93 = .ok (.iload 7, 2) := by decide +kernel
theorem dL_law_95 : decode cL_law 95 = .ok (.iconst 1, 1) := by decide +kernel
theorem dL_law_96 : decode cL_law 96 = .ok (.invokevirtual 64, 3) := by decide +kernel
theorem dL_law_99 : decode cL_law 99 = .ok (.dcmp .l, 1) := by decide +kernel
theorem dL_law_100 : decode cL_law 100 = .ok (.ifCond .gt 14, 3) := by decide +kernel
theorem dL_law_103 : decode cL_law 103 = .ok (.aload_n 1, 1) := by decide +kernel
theorem dL_law_104 : decode cL_law 104 = .ok (.iload 7, 2) := by decide +kernel
theorem dL_law_106 : decode cL_law 106 = .ok (.invokevirtual 68, 3) := by decide +kernel
theorem dL_law_109 : decode cL_law 109 = .ok (.dconst 0, 1) := by decide +kernel
theorem dL_law_110 : decode cL_law 110 = .ok (.dcmp .g, 1) := by decide +kernel
theorem dL_law_111 : decode cL_law 111 = .ok (.ifCond .ge 5, 3) := by decide +kernel
theorem dL_law_114 : decode cL_law 114 = .ok (.iconst 0, 1) := by decide +kernel
theorem dL_law_115 : decode cL_law 115 = .ok (.ireturn, 1) := by decide +kernel
theorem dL_law_116 : decode cL_law 116 = .ok (.aload_n 2, 1) := by decide +kernel
theorem dL_law_117 : decode cL_law 117 = .ok (.iload 7, 2) := by decide +kernel
theorem dL_law_119 : decode cL_law 119 = .ok (.aaload, 1) := by decide +kernel
theorem dL_law_120 : decode cL_law 120 = .ok (.iconst 0, 1) := by decide +kernel
theorem dL_law_121 : decode cL_law 121 = .ok (.iaload, 1) := by decide +kernel
theorem dL_law_122 : decode cL_law 122 = .ok (.bipush 6, 2) := by decide +kernel
theorem dL_law_124 : decode cL_law 124 = .ok (.if_icmp .lt 7, 3) := by decide +kernel
theorem dL_law_127 : decode cL_law 127 = .ok (.iconst 1, 1) := by decide +kernel
theorem dL_law_128 : decode cL_law 128 = .ok (.goto 4, 3) := by decide +kernel
theorem dL_law_131 : decode cL_law 131 = .ok (.iconst 0, 1) := by decide +kernel
theorem dL_law_132 : decode cL_law 132 = .ok (.istore 8, 2) := by decide +kernel
theorem dL_law_134 : decode cL_law 134 = .ok (.iconst 0, 1) := by decide +kernel
theorem dL_law_135 : decode cL_law 135 = .ok (.istore 9, 2) := by decide +kernel
theorem dL_law_137 : decode cL_law 137 = .ok (.iload 9, 2) := by decide +kernel
theorem dL_law_139 : decode cL_law 139 = .ok (.iconst 2, 1) := by decide +kernel
theorem dL_law_140 : decode cL_law 140 = .ok (.if_icmp .ge 159, 3) := by decide +kernel
theorem dL_law_143 : decode cL_law 143 = .ok (.aload_n 2, 1) := by decide +kernel
theorem dL_law_144 : decode cL_law 144 = .ok (.iload 7, 2) := by decide +kernel
theorem dL_law_146 : decode cL_law 146 = .ok (.aaload, 1) := by decide +kernel
theorem dL_law_147 : decode cL_law 147 = .ok (.iconst 0, 1) := by decide +kernel
theorem dL_law_148 : decode cL_law 148 = .ok (.iaload, 1) := by decide +kernel
theorem dL_law_149 : decode cL_law 149 = .ok (.bipush 7, 2) := by decide +kernel
theorem dL_law_151 : decode cL_law 151 = .ok (.if_icmp .ne 46, 3) := by decide +kernel
theorem dL_law_154 : decode cL_law 154 = .ok (.aload_n 1, 1) := by decide +kernel
theorem dL_law_155 : decode cL_law 155 = .ok (.iload 7, 2) := by decide +kernel
theorem dL_law_157 : decode cL_law 157 = .ok (.iload 9, 2) := by decide +kernel
theorem dL_law_159 : decode cL_law 159 = .ok (.invokevirtual 72, 3) := by decide +kernel
theorem dL_law_162 : decode cL_law 162 = .ok (.dconst 0, 1) := by decide +kernel
theorem dL_law_163 : decode cL_law 163 = .ok (.dcmp .g, 1) := by decide +kernel
theorem dL_law_164 : decode cL_law 164 = .ok (.ifCond .lt 31, 3) := by decide +kernel
theorem dL_law_167 : decode cL_law 167 = .ok (.aload_n 1, 1) := by decide +kernel
theorem dL_law_168 : decode cL_law 168 = .ok (.iload 7, 2) := by decide +kernel
theorem dL_law_170 : decode cL_law 170 = .ok (.iload 9, 2) := by decide +kernel
theorem dL_law_172 : decode cL_law 172 = .ok (.invokevirtual 72, 3) := by decide +kernel
theorem dL_law_175 : decode cL_law 175 = .ok (.aload_n 1, 1) := by decide +kernel
theorem dL_law_176 : decode cL_law 176 = .ok (.aload_n 2, 1) := by decide +kernel
theorem dL_law_177 : decode cL_law 177 = .ok (.iload 7, 2) := by decide +kernel
theorem dL_law_179 : decode cL_law 179 = .ok (.aaload, 1) := by decide +kernel
theorem dL_law_180 : decode cL_law 180 = .ok (.iconst 3, 1) := by decide +kernel
theorem dL_law_181 : decode cL_law 181 = .ok (.iaload, 1) := by decide +kernel
theorem dL_law_182 : decode cL_law 182 = .ok (.iconst 0, 1) := by decide +kernel
theorem dL_law_183 : decode cL_law 183 = .ok (.invokevirtual 76, 3) := by decide +kernel
theorem dL_law_186 : decode cL_law 186 = .ok (.i2d, 1) := by decide +kernel
theorem dL_law_187 : decode cL_law 187 = .ok (.ldc2_w 79, 3) := by decide +kernel
theorem dL_law_190 : decode cL_law 190 = .ok (.ddiv, 1) := by decide +kernel
theorem dL_law_191 : decode cL_law 191 = .ok (.dcmp .l, 1) := by decide +kernel
theorem dL_law_192 : decode cL_law 192 = .ok (.ifCond .le 5, 3) := by decide +kernel
theorem dL_law_195 : decode cL_law 195 = .ok (.iconst 0, 1) := by decide +kernel
theorem dL_law_196 : decode cL_law 196 = .ok (.ireturn, 1) := by decide +kernel
theorem dL_law_197 : decode cL_law 197 = .ok (.iconst 0, 1) := by decide +kernel
theorem dL_law_198 : decode cL_law 198 = .ok (.istore 10, 2) := by decide +kernel
theorem dL_law_200 : decode cL_law 200 = .ok (.iload 10, 2) := by decide +kernel
theorem dL_law_202 : decode cL_law 202 = .ok (.iconst 2, 1) := by decide +kernel
theorem dL_law_203 : decode cL_law 203 = .ok (.if_icmp .ge 45, 3) := by decide +kernel
theorem dL_law_206 : decode cL_law 206 = .ok (.iload 8, 2) := by decide +kernel
theorem dL_law_208 : decode cL_law 208 = .ok (.ifCond .eq 40, 3) := by decide +kernel
theorem dL_law_211 : decode cL_law 211 = .ok (.aload 5, 2) := by decide +kernel
theorem dL_law_213 : decode cL_law 213 = .ok (.iload 10, 2) := by decide +kernel
theorem dL_law_215 : decode cL_law 215 = .ok (.aload 5, 2) := by decide +kernel
theorem dL_law_217 : decode cL_law 217 = .ok (.iload 10, 2) := by decide +kernel
theorem dL_law_219 : decode cL_law 219 = .ok (.daload, 1) := by decide +kernel
theorem dL_law_220 : decode cL_law 220 = .ok (.aload_n 1, 1) := by decide +kernel
theorem dL_law_221 : decode cL_law 221 = .ok (.iload 7, 2) := by decide +kernel
theorem dL_law_223 : decode cL_law 223 = .ok (.iload 9, 2) := by decide +kernel
theorem dL_law_225 : decode cL_law 225 = .ok (.iload 10, 2) := by decide +kernel
theorem dL_law_227 : decode cL_law 227 = .ok (.ifCond .ne 7, 3) := by decide +kernel
theorem dL_law_230 : decode cL_law 230 = .ok (.iconst 1, 1) := by decide +kernel
theorem dL_law_231 : decode cL_law 231 = .ok (.goto 4, 3) := by decide +kernel
theorem dL_law_234 : decode cL_law 234 = .ok (.iconst 0, 1) := by decide +kernel
theorem dL_law_235 : decode cL_law 235 = .ok (.invokevirtual 81, 3) := by decide +kernel
theorem dL_law_238 : decode cL_law 238 = .ok (.invokestatic 85, 3) := by decide +kernel
theorem dL_law_241 : decode cL_law 241 = .ok (.dastore, 1) := by decide +kernel
theorem dL_law_242 : decode cL_law 242 = .ok (.iinc 10 1, 3) := by decide +kernel
theorem dL_law_245 : decode cL_law 245 = .ok (.goto (-45), 3) := by decide +kernel
theorem dL_law_248 : decode cL_law 248 = .ok (.iconst 0, 1) := by decide +kernel
theorem dL_law_249 : decode cL_law 249 = .ok (.istore 10, 2) := by decide +kernel
theorem dL_law_251 : decode cL_law 251 = .ok (.iload 10, 2) := by decide +kernel
theorem dL_law_253 : decode cL_law 253 = .ok (.bipush 11, 2) := by decide +kernel
theorem dL_law_255 : decode cL_law 255 = .ok (.if_icmp .ge 38, 3) := by decide +kernel
theorem dL_law_258 : decode cL_law 258 = .ok (.aload_n 2, 1) := by decide +kernel
theorem dL_law_259 : decode cL_law 259 = .ok (.iload 10, 2) := by decide +kernel
theorem dL_law_261 : decode cL_law 261 = .ok (.aaload, 1) := by decide +kernel
theorem dL_law_262 : decode cL_law 262 = .ok (.iconst 0, 1) := by decide +kernel
theorem dL_law_263 : decode cL_law 263 = .ok (.iaload, 1) := by decide +kernel
theorem dL_law_264 : decode cL_law 264 = .ok (.invokestatic 91, 3) := by decide +kernel
theorem dL_law_267 : decode cL_law 267 = .ok (.ifCond .eq 20, 3) := by decide +kernel
theorem dL_law_270 : decode cL_law 270 = .ok (.aload_n 1, 1) := by decide +kernel
theorem dL_law_271 : decode cL_law 271 = .ok (.iload 10, 2) := by decide +kernel
theorem dL_law_273 : decode cL_law 273 = .ok (.iload 7, 2) := by decide +kernel
theorem dL_law_275 : decode cL_law 275 = .ok (.iload 9, 2) := by decide +kernel
theorem dL_law_277 : decode cL_law 277 = .ok (.iload 8, 2) := by decide +kernel
theorem dL_law_279 : decode cL_law 279 = .ok (.invokestatic 95, 3) := by decide +kernel
theorem dL_law_282 : decode cL_law 282 = .ok (.ifCond .ne 5, 3) := by decide +kernel
theorem dL_law_285 : decode cL_law 285 = .ok (.iconst 0, 1) := by decide +kernel
theorem dL_law_286 : decode cL_law 286 = .ok (.ireturn, 1) := by decide +kernel
theorem dL_law_287 : decode cL_law 287 = .ok (.iinc 10 1, 3) := by decide +kernel
theorem dL_law_290 : decode cL_law 290 = .ok (.goto (-39), 3) := by decide +kernel
theorem dL_law_293 : decode cL_law 293 = .ok (.iinc 9 1, 3) := by decide +kernel
theorem dL_law_296 : decode cL_law 296 = .ok (.goto (-159), 3) := by decide +kernel
theorem dL_law_299 : decode cL_law 299 = .ok (.iconst 0, 1) := by decide +kernel
theorem dL_law_300 : decode cL_law 300 = .ok (.istore 9, 2) := by decide +kernel
theorem dL_law_302 : decode cL_law 302 = .ok (.iload 9, 2) := by decide +kernel
theorem dL_law_304 : decode cL_law 304 = .ok (.bipush 11, 2) := by decide +kernel
theorem dL_law_306 : decode cL_law 306 = .ok (.if_icmp .ge 53, 3) := by decide +kernel
theorem dL_law_309 : decode cL_law 309 = .ok (.iload 8, 2) := by decide +kernel
theorem dL_law_311 : decode cL_law 311 = .ok (.ifCond .eq 48, 3) := by decide +kernel
theorem dL_law_314 : decode cL_law 314 = .ok (.aload_n 2, 1) := by decide +kernel
theorem dL_law_315 : decode cL_law 315 = .ok (.iload 9, 2) := by decide +kernel
theorem dL_law_317 : decode cL_law 317 = .ok (.aaload, 1) := by decide +kernel
theorem dL_law_318 : decode cL_law 318 = .ok (.iconst 0, 1) := by decide +kernel
theorem dL_law_319 : decode cL_law 319 = .ok (.iaload, 1) := by decide +kernel
theorem dL_law_320 : decode cL_law 320 = .ok (.invokestatic 91, 3) := by decide +kernel
theorem dL_law_323 : decode cL_law 323 = .ok (.ifCond .eq 30, 3) := by decide +kernel
theorem dL_law_326 : decode cL_law 326 = .ok (.iload 6, 2) := by decide +kernel
theorem dL_law_328 : decode cL_law 328 = .ok (.aload_n 1, 1) := by decide +kernel
theorem dL_law_329 : decode cL_law 329 = .ok (.iload 9, 2) := by decide +kernel
theorem dL_law_331 : decode cL_law 331 = .ok (.iload 7, 2) := by decide +kernel
theorem dL_law_333 : decode cL_law 333 = .ok (.iconst 0, 1) := by decide +kernel
theorem dL_law_334 : decode cL_law 334 = .ok (.iconst 1, 1) := by decide +kernel
theorem dL_law_335 : decode cL_law 335 = .ok (.invokevirtual 99, 3) := by decide +kernel
theorem dL_law_338 : decode cL_law 338 = .ok (.ldc2_w 62, 3) := by decide +kernel
theorem dL_law_341 : decode cL_law 341 = .ok (.dcmp .g, 1) := by decide +kernel
theorem dL_law_342 : decode cL_law 342 = .ok (.ifCond .ge 7, 3) := by decide +kernel
theorem dL_law_345 : decode cL_law 345 = .ok (.iconst 1, 1) := by decide +kernel
theorem dL_law_346 : decode cL_law 346 = .ok (.goto 4, 3) := by decide +kernel
theorem dL_law_349 : decode cL_law 349 = .ok (.iconst 0, 1) := by decide +kernel
theorem dL_law_350 : decode cL_law 350 = .ok (.iadd, 1) := by decide +kernel
theorem dL_law_351 : decode cL_law 351 = .ok (.istore 6, 2) := by decide +kernel
theorem dL_law_353 : decode cL_law 353 = .ok (.iinc 9 1, 3) := by decide +kernel
theorem dL_law_356 : decode cL_law 356 = .ok (.goto (-54), 3) := by decide +kernel
theorem dL_law_359 : decode cL_law 359 = .ok (.iinc 7 1, 3) := by decide +kernel
theorem dL_law_362 : decode cL_law 362 = .ok (.goto (-284), 3) := by decide +kernel
theorem dL_law_365 : decode cL_law 365 = .ok (.aload_n 1, 1) := by decide +kernel
theorem dL_law_366 : decode cL_law 366 = .ok (.iconst 1, 1) := by decide +kernel
theorem dL_law_367 : decode cL_law 367 = .ok (.invokevirtual 103, 3) := by decide +kernel
theorem dL_law_370 : decode cL_law 370 = .ok (.aload 5, 2) := by decide +kernel
theorem dL_law_372 : decode cL_law 372 = .ok (.iconst 0, 1) := by decide +kernel
theorem dL_law_373 : decode cL_law 373 = .ok (.daload, 1) := by decide +kernel
theorem dL_law_374 : decode cL_law 374 = .ok (.dcmp .l, 1) := by decide +kernel
theorem dL_law_375 : decode cL_law 375 = .ok (.ifCond .ne 35, 3) := by decide +kernel
theorem dL_law_378 : decode cL_law 378 = .ok (.aload_n 1, 1) := by decide +kernel
theorem dL_law_379 : decode cL_law 379 = .ok (.iconst 0, 1) := by decide +kernel
theorem dL_law_380 : decode cL_law 380 = .ok (.invokevirtual 103, 3) := by decide +kernel
theorem dL_law_383 : decode cL_law 383 = .ok (.aload 5, 2) := by decide +kernel
theorem dL_law_385 : decode cL_law 385 = .ok (.iconst 1, 1) := by decide +kernel
theorem dL_law_386 : decode cL_law 386 = .ok (.daload, 1) := by decide +kernel
theorem dL_law_387 : decode cL_law 387 = .ok (.dcmp .l, 1) := by decide +kernel
theorem dL_law_388 : decode cL_law 388 = .ok (.ifCond .ne 22, 3) := by decide +kernel
theorem dL_law_391 : decode cL_law 391 = .ok (.aload_n 1, 1) := by decide +kernel
theorem dL_law_392 : decode cL_law 392 = .ok (.iconst 4, 1) := by decide +kernel
theorem dL_law_393 : decode cL_law 393 = .ok (.invokevirtual 107, 3) := by decide +kernel
theorem dL_law_396 : decode cL_law 396 = .ok (.iload 6, 2) := by decide +kernel
theorem dL_law_398 : decode cL_law 398 = .ok (.if_icmp .ne 12, 3) := by decide +kernel
theorem dL_law_401 : decode cL_law 401 = .ok (.aload_n 1, 1) := by decide +kernel
theorem dL_law_402 : decode cL_law 402 = .ok (.invokevirtual 58, 3) := by decide +kernel
theorem dL_law_405 : decode cL_law 405 = .ok (.lload_n 3, 1) := by decide +kernel
theorem dL_law_406 : decode cL_law 406 = .ok (.lcmp, 1) := by decide +kernel
theorem dL_law_407 : decode cL_law 407 = .ok (.ifCond .eq 5, 3) := by decide +kernel
theorem dL_law_410 : decode cL_law 410 = .ok (.iconst 0, 1) := by decide +kernel
theorem dL_law_411 : decode cL_law 411 = .ok (.ireturn, 1) := by decide +kernel
theorem dL_law_412 : decode cL_law 412 = .ok (.aload_n 1, 1) := by decide +kernel
theorem dL_law_413 : decode cL_law 413 = .ok (.iconst 0, 1) := by decide +kernel
theorem dL_law_414 : decode cL_law 414 = .ok (.iconst (-1), 1) := by decide +kernel
theorem dL_law_415 : decode cL_law 415 = .ok (.iconst (-1), 1) := by decide +kernel
theorem dL_law_416 : decode cL_law 416 = .ok (.invokevirtual 111, 3) := by decide +kernel
theorem dL_law_419 : decode cL_law 419 = .ok (.ifCond .ne 35, 3) := by decide +kernel
theorem dL_law_422 : decode cL_law 422 = .ok (.aload_n 1, 1) := by decide +kernel
theorem dL_law_423 : decode cL_law 423 = .ok (.iconst 4, 1) := by decide +kernel
theorem dL_law_424 : decode cL_law 424 = .ok (.invokevirtual 107, 3) := by decide +kernel
theorem dL_law_427 : decode cL_law 427 = .ok (.ifCond .ne 27, 3) := by decide +kernel
theorem dL_law_430 : decode cL_law 430 = .ok (.aload_n 1, 1) := by decide +kernel
theorem dL_law_431 : decode cL_law 431 = .ok (.iconst 1, 1) := by decide +kernel
theorem dL_law_432 : decode cL_law 432 = .ok (.invokevirtual 103, 3) := by decide +kernel
theorem dL_law_435 : decode cL_law 435 = .ok (.ldc2_w 62, 3) := by decide +kernel
theorem dL_law_438 : decode cL_law 438 = .ok (.dcmp .l, 1) := by decide +kernel
theorem dL_law_439 : decode cL_law 439 = .ok (.ifCond .ne 15, 3) := by decide +kernel
theorem dL_law_442 : decode cL_law 442 = .ok (.aload_n 1, 1) := by decide +kernel
theorem dL_law_443 : decode cL_law 443 = .ok (.invokevirtual 114, 3) := by decide +kernel
theorem dL_law_446 : decode cL_law 446 = .ok (.iconst (-1), 1) := by decide +kernel
theorem dL_law_447 : decode cL_law 447 = .ok (.if_icmp .ne 7, 3) := by decide +kernel
theorem dL_law_450 : decode cL_law 450 = .ok (.iconst 1, 1) := by decide +kernel
theorem dL_law_451 : decode cL_law 451 = .ok (.goto 4, 3) := by decide +kernel
theorem dL_law_454 : decode cL_law 454 = .ok (.iconst 0, 1) := by decide +kernel
theorem dL_law_455 : decode cL_law 455 = .ok (.ireturn, 1) := by decide +kernel
theorem dL_isSound_0 : decode cL_isSound 0 = .ok (.iconst 0, 1) := by decide +kernel
theorem dL_isSound_1 : decode cL_isSound 1 = .ok (.istore 5, 2) := by decide +kernel
theorem dL_isSound_3 : decode cL_isSound 3 = .ok (.iload 5, 2) := by decide +kernel
theorem dL_isSound_5 : decode cL_isSound 5 = .ok (.iconst 2, 1) := by decide +kernel
theorem dL_isSound_6 : decode cL_isSound 6 = .ok (.if_icmp .ge 86, 3) := by decide +kernel
theorem dL_isSound_9 : decode cL_isSound 9 = .ok (.aload_n 0, 1) := by decide +kernel
theorem dL_isSound_10 : decode cL_isSound 10 = .ok (.iload_n 1, 1) := by decide +kernel
theorem dL_isSound_11 : decode cL_isSound 11 = .ok (.iload_n 2, 1) := by decide +kernel
theorem dL_isSound_12 : decode cL_isSound 12 = .ok (.iload_n 3, 1) := by decide +kernel
theorem dL_isSound_13 : decode cL_isSound 13 = .ok (.iconst 1, 1) := by decide +kernel
theorem dL_isSound_14 : decode cL_isSound 14 = .ok (.iload 5, 2) := by decide +kernel
theorem dL_isSound_16 : decode cL_isSound 16 = .ok (.ifCond .ne 7, 3) := by decide +kernel
theorem dL_isSound_19 : decode cL_isSound 19 = .ok (.iconst 1, 1) := by decide +kernel
theorem dL_isSound_20 : decode cL_isSound 20 = .ok (.goto 4, 3) := by decide +kernel
theorem dL_isSound_23 : decode cL_isSound 23 = .ok (.iconst 0, 1) := by decide +kernel
theorem dL_isSound_24 : decode cL_isSound 24 = .ok (.invokevirtual 118, 3) := by decide +kernel
theorem dL_isSound_27 : decode cL_isSound 27 = .ok (.dstore 6, 2) := by decide +kernel
theorem dL_isSound_29 : decode cL_isSound 29 = .ok (.aload_n 0, 1) := by decide +kernel
theorem dL_isSound_30 : decode cL_isSound 30 = .ok (.iload_n 1, 1) := by decide +kernel
theorem dL_isSound_31 : decode cL_isSound 31 = .ok (.iload_n 2, 1) := by decide +kernel
theorem dL_isSound_32 : decode cL_isSound 32 = .ok (.iload_n 3, 1) := by decide +kernel
theorem dL_isSound_33 : decode cL_isSound 33 = .ok (.iconst 0, 1) := by decide +kernel
theorem dL_isSound_34 : decode cL_isSound 34 = .ok (.iload 5, 2) := by decide +kernel
theorem dL_isSound_36 : decode cL_isSound 36 = .ok (.ifCond .ne 7, 3) := by decide +kernel
theorem dL_isSound_39 : decode cL_isSound 39 = .ok (.iconst 1, 1) := by decide +kernel
theorem dL_isSound_40 : decode cL_isSound 40 = .ok (.goto 4, 3) := by decide +kernel
theorem dL_isSound_43 : decode cL_isSound 43 = .ok (.iconst 0, 1) := by decide +kernel
theorem dL_isSound_44 : decode cL_isSound 44 = .ok (.invokevirtual 118, 3) := by decide +kernel
theorem dL_isSound_47 : decode cL_isSound 47 = .ok (.dstore 8, 2) := by decide +kernel
theorem dL_isSound_49 : decode cL_isSound 49 = .ok (.dload 8, 2) := by decide +kernel
theorem dL_isSound_51 : decode cL_isSound 51 = .ok (.dload 6, 2) := by decide +kernel
theorem dL_isSound_53 : decode cL_isSound 53 = .ok (.dcmp .l, 1) := by decide +kernel
theorem dL_isSound_54 : decode cL_isSound 54 = .ok (.ifCond .gt 30, 3) := by decide +kernel
theorem dL_isSound_57 : decode cL_isSound 57 = .ok (.dload 8, 2) := by decide +kernel
theorem dL_isSound_59 : decode cL_isSound 59 = .ok (.dconst 0, 1) := by decide +kernel
theorem dL_isSound_60 : decode cL_isSound 60 = .ok (.dcmp .g, 1) := by decide +kernel
theorem dL_isSound_61 : decode cL_isSound 61 = .ok (.ifCond .ge 7, 3) := by decide +kernel
theorem dL_isSound_64 : decode cL_isSound 64 = .ok (.iconst 1, 1) := by decide +kernel
theorem dL_isSound_65 : decode cL_isSound 65 = .ok (.goto 4, 3) := by decide +kernel
theorem dL_isSound_68 : decode cL_isSound 68 = .ok (.iconst 0, 1) := by decide +kernel
theorem dL_isSound_69 : decode cL_isSound 69 = .ok (.dload 6, 2) := by decide +kernel
theorem dL_isSound_71 : decode cL_isSound 71 = .ok (.dconst 0, 1) := by decide +kernel
theorem dL_isSound_72 : decode cL_isSound 72 = .ok (.dcmp .g, 1) := by decide +kernel
theorem dL_isSound_73 : decode cL_isSound 73 = .ok (.ifCond .ge 7, 3) := by decide +kernel
theorem dL_isSound_76 : decode cL_isSound 76 = .ok (.iconst 1, 1) := by decide +kernel
theorem dL_isSound_77 : decode cL_isSound 77 = .ok (.goto 4, 3) := by decide +kernel
theorem dL_isSound_80 : decode cL_isSound 80 = .ok (.iconst 0, 1) := by decide +kernel
theorem dL_isSound_81 : decode cL_isSound 81 = .ok (.if_icmp .eq 5, 3) := by decide +kernel
theorem dL_isSound_84 : decode cL_isSound 84 = .ok (.iconst 0, 1) := by decide +kernel
theorem dL_isSound_85 : decode cL_isSound 85 = .ok (.ireturn, 1) := by decide +kernel
theorem dL_isSound_86 : decode cL_isSound 86 = .ok (.iinc 5 1, 3) := by decide +kernel
theorem dL_isSound_89 : decode cL_isSound 89 = .ok (.goto (-86), 3) := by decide +kernel
theorem dL_isSound_92 : decode cL_isSound 92 = .ok (.iload 4, 2) := by decide +kernel
theorem dL_isSound_94 : decode cL_isSound 94 = .ok (.ifCond .eq 27, 3) := by decide +kernel
theorem dL_isSound_97 : decode cL_isSound 97 = .ok (.aload_n 0, 1) := by decide +kernel
theorem dL_isSound_98 : decode cL_isSound 98 = .ok (.iload_n 1, 1) := by decide +kernel
theorem dL_isSound_99 : decode cL_isSound 99 = .ok (.iload_n 2, 1) := by decide +kernel
theorem dL_isSound_100 : decode cL_isSound 100 = .ok (.invokevirtual 122, 3) := by decide +kernel
theorem dL_isSound_103 : decode cL_isSound 103 = .ok (.ifCond .gt 18, 3) := by decide +kernel
theorem dL_isSound_106 : decode cL_isSound 106 = .ok (.aload_n 0, 1) := by decide +kernel
theorem dL_isSound_107 : decode cL_isSound 107 = .ok (.iload_n 1, 1) := by decide +kernel
theorem dL_isSound_108 : decode cL_isSound 108 = .ok (.iload_n 2, 1) := by decide +kernel
theorem dL_isSound_109 : decode cL_isSound 109 = .ok (.iload_n 3, 1) := by decide +kernel
theorem dL_isSound_110 : decode cL_isSound 110 = .ok (.iconst 1, 1) := by decide +kernel
theorem dL_isSound_111 : decode cL_isSound 111 = .ok (.invokevirtual 99, 3) := by decide +kernel
theorem dL_isSound_114 : decode cL_isSound 114 = .ok (.ldc2_w 62, 3) := by decide +kernel
theorem dL_isSound_117 : decode cL_isSound 117 = .ok (.dcmp .l, 1) := by decide +kernel
theorem dL_isSound_118 : decode cL_isSound 118 = .ok (.ifCond .ne 7, 3) := by decide +kernel
theorem dL_isSound_121 : decode cL_isSound 121 = .ok (.iconst 1, 1) := by decide +kernel
theorem dL_isSound_122 : decode cL_isSound 122 = .ok (.goto 4, 3) := by decide +kernel
theorem dL_isSound_125 : decode cL_isSound 125 = .ok (.iconst 0, 1) := by decide +kernel
theorem dL_isSound_126 : decode cL_isSound 126 = .ok (.ireturn, 1) := by decide +kernel
