/-! names, as the kit prints them -/
def RX0 : String := "RegressionCourt$Bisection"
def TX0 : u_T := fun k => match k with
  | 0 => ("RegressionCourt$Bisection", "isOn", "Z", false)
  | 1 => ("RegressionCourt$Bisection", "good", "I", false)
  | 2 => ("RegressionCourt$Bisection", "bad", "I", false)
  | _ => ("RegressionCourt$Bisection", "waitsFor", "I", false)
def tyX0 : Nat → FieldType := fun k => match k with
  | 0 => .boolean
  | 1 => .int
  | 2 => .int
  | _ => .int
abbrev wsX00 : List Cond := u_ws RX0 TX0 4
theorem nmX0 : ∀ a, a < 4 → ∀ b, b < 4 → a ≠ b → (TX0 a).2.1 ≠ (TX0 b).2.1 := by decide +kernel
theorem tyX0_ok : ∀ k, k < 4 → parseFieldDescriptor (TX0 k).2.2.1 = some (tyX0 k) := by decide +kernel
abbrev cX0_init : ByteArray := prog_2_method_1_code
def yX0_init : MethodName := ⟨RX0, "<init>", "()V"⟩
abbrev cX0_open : ByteArray := prog_2_method_2_code
def yX0_open : MethodName := ⟨RX0, "open", "(II)V"⟩
abbrev cX0_close : ByteArray := prog_2_method_3_code
def yX0_close : MethodName := ⟨RX0, "close", "()V"⟩
abbrev cX0_probe : ByteArray := prog_2_method_4_code
def yX0_probe : MethodName := ⟨RX0, "probe", "()I"⟩
abbrev cX0_narrow : ByteArray := prog_2_method_5_code
def yX0_narrow : MethodName := ⟨RX0, "narrow", "(IZ)V"⟩
def RX1 : String := "RegressionCourt$Change"
def TX1 : u_T := fun k => match k with
  | 0 => ("RegressionCourt$Change", "runs", "Ljava/util/ArrayList;", true)
  | 1 => ("RegressionCourt$Change", "isNamed", "Z", false)
  | _ => ("RegressionCourt$Change", "isExcused", "Z", false)
def tyX1 : Nat → FieldType := fun k => match k with
  | 0 => .object "java/util/ArrayList"
  | 1 => .boolean
  | _ => .boolean
abbrev wsX10 : List Cond := u_ws RX1 TX1 3
theorem nmX1 : ∀ a, a < 3 → ∀ b, b < 3 → a ≠ b → (TX1 a).2.1 ≠ (TX1 b).2.1 := by decide +kernel
theorem tyX1_ok : ∀ k, k < 3 → parseFieldDescriptor (TX1 k).2.2.1 = some (tyX1 k) := by decide +kernel
abbrev cX1_init : ByteArray := prog_3_method_1_code
def yX1_init : MethodName := ⟨RX1, "<init>", "()V"⟩
abbrev cX1_sampleSize : ByteArray := prog_3_method_2_code
def yX1_sampleSize : MethodName := ⟨RX1, "sampleSize", "()I"⟩
abbrev cX1_sampleSizeWithout : ByteArray := prog_3_method_3_code
def yX1_sampleSizeWithout : MethodName := ⟨RX1, "sampleSizeWithout", "(LRegressionCourt$Machine;)I"⟩
abbrev cX1_isInSample : ByteArray := prog_3_method_4_code
def yX1_isInSample : MethodName := ⟨RX1, "isInSample", "(LRegressionCourt$Run;)Z"⟩
def RX2 : String := "RegressionCourt$Duel"
def TX2 : u_T := fun k => match k with
  | 0 => ("RegressionCourt$Duel", "first", "LRegressionCourt$Sample;", true)
  | 1 => ("RegressionCourt$Duel", "second", "LRegressionCourt$Sample;", true)
  | 2 => ("RegressionCourt$Duel", "laid", "[I", true)
  | 3 => ("RegressionCourt$Duel", "ways", "[[I", true)
  | 4 => ("RegressionCourt$Duel", "laidMany", "I", false)
  | 5 => ("RegressionCourt$Duel", "leadsUpTo", "I", false)
  | 6 => ("RegressionCourt$Duel", "score", "I", false)
  | 7 => ("RegressionCourt$Duel", "high", "I", false)
  | 8 => ("RegressionCourt$Duel", "low", "I", false)
  | _ => ("RegressionCourt$Duel", "all", "I", false)
def tyX2 : Nat → FieldType := fun k => match k with
  | 0 => .object "RegressionCourt$Sample"
  | 1 => .object "RegressionCourt$Sample"
  | 2 => .array .int
  | 3 => .array (.array .int)
  | 4 => .int
  | 5 => .int
  | 6 => .int
  | 7 => .int
  | 8 => .int
  | _ => .int
abbrev wsX20 : List Cond := u_ws RX2 TX2 10
theorem nmX2 : ∀ a, a < 10 → ∀ b, b < 10 → a ≠ b → (TX2 a).2.1 ≠ (TX2 b).2.1 := by decide +kernel
theorem tyX2_ok : ∀ k, k < 10 → parseFieldDescriptor (TX2 k).2.2.1 = some (tyX2 k) := by decide +kernel
abbrev cX2_init : ByteArray := prog_4_method_1_code
def yX2_init : MethodName := ⟨RX2, "<init>", "()V"⟩
abbrev cX2_weigh : ByteArray := prog_4_method_2_code
def yX2_weigh : MethodName := ⟨RX2, "weigh", "()V"⟩
abbrev cX2_lay : ByteArray := prog_4_method_3_code
def yX2_lay : MethodName := ⟨RX2, "lay", "(LRegressionCourt$Sample;)V"⟩
abbrev cX2_leadOf : ByteArray := prog_4_method_4_code
def yX2_leadOf : MethodName := ⟨RX2, "leadOf", "(I)I"⟩
abbrev cX2_countWays : ByteArray := prog_4_method_5_code
def yX2_countWays : MethodName := ⟨RX2, "countWays", "()V"⟩
abbrev cX2_clearLeads : ByteArray := prog_4_method_6_code
def yX2_clearLeads : MethodName := ⟨RX2, "clearLeads", "([I)V"⟩
abbrev cX2_addShifted : ByteArray := prog_4_method_7_code
def yX2_addShifted : MethodName := ⟨RX2, "addShifted", "([I[II)V"⟩
abbrev cX2_tally : ByteArray := prog_4_method_8_code
def yX2_tally : MethodName := ⟨RX2, "tally", "(I)V"⟩
abbrev cX2_outcome : ByteArray := prog_4_method_9_code
def yX2_outcome : MethodName := ⟨RX2, "outcome", "(II)I"⟩
abbrev cX2_shareOfHigh : ByteArray := prog_4_method_10_code
def yX2_shareOfHigh : MethodName := ⟨RX2, "shareOfHigh", "()D"⟩
def RX3 : String := "RegressionCourt$Machine"
def TX3 : u_T := fun k => match k with
  | 0 => ("RegressionCourt$Machine", "number", "I", true)
  | 1 => ("RegressionCourt$Machine", "price", "I", true)
  | 2 => ("RegressionCourt$Machine", "scale", "I", false)
  | 3 => ("RegressionCourt$Machine", "measureBefore", "I", false)
  | 4 => ("RegressionCourt$Machine", "measureTwoBefore", "I", false)
  | 5 => ("RegressionCourt$Machine", "measures", "I", false)
  | 6 => ("RegressionCourt$Machine", "runs", "I", false)
  | _ => ("RegressionCourt$Machine", "isAside", "Z", false)
def tyX3 : Nat → FieldType := fun k => match k with
  | 0 => .int
  | 1 => .int
  | 2 => .int
  | 3 => .int
  | 4 => .int
  | 5 => .int
  | 6 => .int
  | _ => .boolean
abbrev wsX30 : List Cond := u_ws RX3 TX3 8
theorem nmX3 : ∀ a, a < 8 → ∀ b, b < 8 → a ≠ b → (TX3 a).2.1 ≠ (TX3 b).2.1 := by decide +kernel
theorem tyX3_ok : ∀ k, k < 8 → parseFieldDescriptor (TX3 k).2.2.1 = some (tyX3 k) := by decide +kernel
abbrev cX3_init : ByteArray := prog_5_method_1_code
def yX3_init : MethodName := ⟨RX3, "<init>", "(III)V"⟩
abbrev cX3_take : ByteArray := prog_5_method_2_code
def yX3_take : MethodName := ⟨RX3, "take", "(I)V"⟩
abbrev cX3_drifts : ByteArray := prog_5_method_3_code
def yX3_drifts : MethodName := ⟨RX3, "drifts", "()Z"⟩
abbrev cX3_worthOf : ByteArray := prog_5_method_4_code
def yX3_worthOf : MethodName := ⟨RX3, "worthOf", "(I)I"⟩
def RX4 : String := "RegressionCourt$Run"
def TX4 : u_T := fun k => match k with
  | 0 => ("RegressionCourt$Run", "change", "I", true)
  | 1 => ("RegressionCourt$Run", "machine", "LRegressionCourt$Machine;", true)
  | 2 => ("RegressionCourt$Run", "time", "I", true)
  | 3 => ("RegressionCourt$Run", "worth", "I", true)
  | _ => ("RegressionCourt$Run", "isStruck", "Z", false)
def tyX4 : Nat → FieldType := fun k => match k with
  | 0 => .int
  | 1 => .object "RegressionCourt$Machine"
  | 2 => .int
  | 3 => .int
  | _ => .boolean
abbrev wsX40 : List Cond := u_ws RX4 TX4 5
theorem nmX4 : ∀ a, a < 5 → ∀ b, b < 5 → a ≠ b → (TX4 a).2.1 ≠ (TX4 b).2.1 := by decide +kernel
theorem tyX4_ok : ∀ k, k < 5 → parseFieldDescriptor (TX4 k).2.2.1 = some (tyX4 k) := by decide +kernel
abbrev cX4_init : ByteArray := prog_6_method_1_code
def yX4_init : MethodName := ⟨RX4, "<init>", "(ILRegressionCourt$Machine;I)V"⟩
abbrev cX4_isCounting : ByteArray := prog_6_method_2_code
def yX4_isCounting : MethodName := ⟨RX4, "isCounting", "()Z"⟩
def RX5 : String := "RegressionCourt$Sample"
def TX5 : u_T := fun k => match k with
  | 0 => ("RegressionCourt$Sample", "worths", "[I", true)
  | _ => ("RegressionCourt$Sample", "size", "I", false)
def tyX5 : Nat → FieldType := fun k => match k with
  | 0 => .array .int
  | _ => .int
abbrev wsX50 : List Cond := u_ws RX5 TX5 2
theorem nmX5 : ∀ a, a < 2 → ∀ b, b < 2 → a ≠ b → (TX5 a).2.1 ≠ (TX5 b).2.1 := by decide +kernel
theorem tyX5_ok : ∀ k, k < 2 → parseFieldDescriptor (TX5 k).2.2.1 = some (tyX5 k) := by decide +kernel
abbrev cX5_init : ByteArray := prog_7_method_1_code
def yX5_init : MethodName := ⟨RX5, "<init>", "()V"⟩
abbrev cX5_clear : ByteArray := prog_7_method_2_code
def yX5_clear : MethodName := ⟨RX5, "clear", "()V"⟩
abbrev cX5_add : ByteArray := prog_7_method_3_code
def yX5_add : MethodName := ⟨RX5, "add", "(I)V"⟩
abbrev cX5_addLastOf : ByteArray := prog_7_method_4_code
def yX5_addLastOf : MethodName := ⟨RX5, "addLastOf", "(LRegressionCourt$Change;)V"⟩
abbrev cX5_worthAt : ByteArray := prog_7_method_5_code
def yX5_worthAt : MethodName := ⟨RX5, "worthAt", "(I)I"⟩
def RX6 : String := "RegressionCourt"
def TX6 : u_T := fun k => match k with
  | 0 => ("RegressionCourt", "machines", "Ljava/util/ArrayList;", true)
  | 1 => ("RegressionCourt", "changes", "Ljava/util/ArrayList;", true)
  | 2 => ("RegressionCourt", "runs", "Ljava/util/ArrayList;", true)
  | 3 => ("RegressionCourt", "origin", "LRegressionCourt$Change;", true)
  | 4 => ("RegressionCourt", "sample", "LRegressionCourt$Sample;", true)
  | 5 => ("RegressionCourt", "duel", "LRegressionCourt$Duel;", true)
  | 6 => ("RegressionCourt", "bisection", "LRegressionCourt$Bisection;", true)
  | 7 => ("RegressionCourt", "enough", "I", false)
  | 8 => ("RegressionCourt", "level", "I", false)
  | 9 => ("RegressionCourt", "minutesLeft", "I", false)
  | 10 => ("RegressionCourt", "credit", "I", false)
  | 11 => ("RegressionCourt", "baseline", "I", false)
  | _ => ("RegressionCourt", "lastNamed", "I", false)
def tyX6 : Nat → FieldType := fun k => match k with
  | 0 => .object "java/util/ArrayList"
  | 1 => .object "java/util/ArrayList"
  | 2 => .object "java/util/ArrayList"
  | 3 => .object "RegressionCourt$Change"
  | 4 => .object "RegressionCourt$Sample"
  | 5 => .object "RegressionCourt$Duel"
  | 6 => .object "RegressionCourt$Bisection"
  | 7 => .int
  | 8 => .int
  | 9 => .int
  | 10 => .int
  | 11 => .int
  | _ => .int
abbrev wsX60 : List Cond := u_ws RX6 TX6 13
theorem nmX6 : ∀ a, a < 13 → ∀ b, b < 13 → a ≠ b → (TX6 a).2.1 ≠ (TX6 b).2.1 := by decide +kernel
theorem tyX6_ok : ∀ k, k < 13 → parseFieldDescriptor (TX6 k).2.2.1 = some (tyX6 k) := by decide +kernel
abbrev cX6_init : ByteArray := prog_1_method_1_code
def yX6_init : MethodName := ⟨RX6, "<init>", "()V"⟩
abbrev cX6_machine : ByteArray := prog_1_method_2_code
def yX6_machine : MethodName := ⟨RX6, "machine", "(II)I"⟩
abbrev cX6_measure : ByteArray := prog_1_method_3_code
def yX6_measure : MethodName := ⟨RX6, "measure", "(II)Z"⟩
abbrev cX6_ofMachine : ByteArray := prog_1_method_4_code
def yX6_ofMachine : MethodName := ⟨RX6, "ofMachine", "(II)I"⟩
abbrev cX6_changes : ByteArray := prog_1_method_5_code
def yX6_changes : MethodName := ⟨RX6, "changes", "(I)I"⟩
abbrev cX6_run : ByteArray := prog_1_method_6_code
def yX6_run : MethodName := ⟨RX6, "run", "(III)I"⟩
abbrev cX6_strike : ByteArray := prog_1_method_7_code
def yX6_strike : MethodName := ⟨RX6, "strike", "(I)I"⟩
abbrev cX6_ofRun : ByteArray := prog_1_method_8_code
def yX6_ofRun : MethodName := ⟨RX6, "ofRun", "(II)I"⟩
abbrev cX6_ofChange : ByteArray := prog_1_method_9_code
def yX6_ofChange : MethodName := ⟨RX6, "ofChange", "(II)I"⟩
abbrev cX6_verdict : ByteArray := prog_1_method_10_code
def yX6_verdict : MethodName := ⟨RX6, "verdict", "(III)I"⟩
abbrev cX6_doubt : ByteArray := prog_1_method_11_code
def yX6_doubt : MethodName := ⟨RX6, "doubt", "(II)D"⟩
abbrev cX6_rule : ByteArray := prog_1_method_12_code
def yX6_rule : MethodName := ⟨RX6, "rule", "(II)I"⟩
abbrev cX6_begin : ByteArray := prog_1_method_13_code
def yX6_begin : MethodName := ⟨RX6, "begin", "(II)I"⟩
abbrev cX6_drop : ByteArray := prog_1_method_14_code
def yX6_drop : MethodName := ⟨RX6, "drop", "()I"⟩
abbrev cX6_ofCase : ByteArray := prog_1_method_15_code
def yX6_ofCase : MethodName := ⟨RX6, "ofCase", "(I)I"⟩
abbrev cX6_move : ByteArray := prog_1_method_16_code
def yX6_move : MethodName := ⟨RX6, "move", "()I"⟩
abbrev cX6_excuse : ByteArray := prog_1_method_17_code
def yX6_excuse : MethodName := ⟨RX6, "excuse", "(II)I"⟩
abbrev cX6_budget : ByteArray := prog_1_method_18_code
def yX6_budget : MethodName := ⟨RX6, "budget", "(I)I"⟩
abbrev cX6_many : ByteArray := prog_1_method_19_code
def yX6_many : MethodName := ⟨RX6, "many", "(I)I"⟩
abbrev cX6_minutesFor : ByteArray := prog_1_method_20_code
def yX6_minutesFor : MethodName := ⟨RX6, "minutesFor", "(I)I"⟩
abbrev cX6_wouldMove : ByteArray := prog_1_method_23_code
def yX6_wouldMove : MethodName := ⟨RX6, "wouldMove", "()I"⟩
abbrev cX6_digest : ByteArray := prog_1_method_24_code
def yX6_digest : MethodName := ⟨RX6, "digest", "()J"⟩
abbrev cX6_isOutside : ByteArray := prog_1_method_25_code
def yX6_isOutside : MethodName := ⟨RX6, "isOutside", "(III)Z"⟩
abbrev cX6_isNoMeasure : ByteArray := prog_1_method_26_code
def yX6_isNoMeasure : MethodName := ⟨RX6, "isNoMeasure", "(I)Z"⟩
abbrev cX6_isNoChange : ByteArray := prog_1_method_27_code
def yX6_isNoChange : MethodName := ⟨RX6, "isNoChange", "(I)Z"⟩
abbrev cX6_changeAt : ByteArray := prog_1_method_28_code
def yX6_changeAt : MethodName := ⟨RX6, "changeAt", "(I)LRegressionCourt$Change;"⟩
abbrev cX6_oneIf : ByteArray := prog_1_method_29_code
def yX6_oneIf : MethodName := ⟨RX6, "oneIf", "(Z)I"⟩
abbrev cX6_machineFact : ByteArray := prog_1_method_30_code
def yX6_machineFact : MethodName := ⟨RX6, "machineFact", "(LRegressionCourt$Machine;I)I"⟩
abbrev cX6_runFact : ByteArray := prog_1_method_31_code
def yX6_runFact : MethodName := ⟨RX6, "runFact", "(LRegressionCourt$Run;I)I"⟩
abbrev cX6_changeFact : ByteArray := prog_1_method_32_code
def yX6_changeFact : MethodName := ⟨RX6, "changeFact", "(LRegressionCourt$Change;I)I"⟩
abbrev cX6_duelFact : ByteArray := prog_1_method_33_code
def yX6_duelFact : MethodName := ⟨RX6, "duelFact", "(I)I"⟩
abbrev cX6_caseFact : ByteArray := prog_1_method_34_code
def yX6_caseFact : MethodName := ⟨RX6, "caseFact", "(I)I"⟩
abbrev cX6_courtFact : ByteArray := prog_1_method_35_code
def yX6_courtFact : MethodName := ⟨RX6, "courtFact", "(I)I"⟩
abbrev cX6_runsThatCount : ByteArray := prog_1_method_36_code
def yX6_runsThatCount : MethodName := ⟨RX6, "runsThatCount", "()I"⟩
abbrev cX6_changesNamed : ByteArray := prog_1_method_37_code
def yX6_changesNamed : MethodName := ⟨RX6, "changesNamed", "()I"⟩
abbrev cX6_machinesAside : ByteArray := prog_1_method_38_code
def yX6_machinesAside : MethodName := ⟨RX6, "machinesAside", "()I"⟩
abbrev cX6_meet : ByteArray := prog_1_method_39_code
def yX6_meet : MethodName := ⟨RX6, "meet", "(II)V"⟩
abbrev cX6_goOn : ByteArray := prog_1_method_40_code
def yX6_goOn : MethodName := ⟨RX6, "goOn", "()V"⟩
abbrev cX6_bisectOnce : ByteArray := prog_1_method_41_code
def yX6_bisectOnce : MethodName := ⟨RX6, "bisectOnce", "()Z"⟩
abbrev cX6_creditOfStepTo : ByteArray := prog_1_method_42_code
def yX6_creditOfStepTo : MethodName := ⟨RX6, "creditOfStepTo", "(I)I"⟩
abbrev cX6_minutesToFill : ByteArray := prog_1_method_43_code
def yX6_minutesToFill : MethodName := ⟨RX6, "minutesToFill", "(LRegressionCourt$Change;)I"⟩
abbrev cX6_leastPrice : ByteArray := prog_1_method_44_code
def yX6_leastPrice : MethodName := ⟨RX6, "leastPrice", "()I"⟩
abbrev cX6_changesHurtWithout : ByteArray := prog_1_method_45_code
def yX6_changesHurtWithout : MethodName := ⟨RX6, "changesHurtWithout", "(LRegressionCourt$Machine;)I"⟩
abbrev cX6_digestOfMachines : ByteArray := prog_1_method_46_code
def yX6_digestOfMachines : MethodName := ⟨RX6, "digestOfMachines", "(J)J"⟩
abbrev cX6_digestOfChanges : ByteArray := prog_1_method_47_code
def yX6_digestOfChanges : MethodName := ⟨RX6, "digestOfChanges", "(J)J"⟩
abbrev cX6_digestOfRuns : ByteArray := prog_1_method_48_code
def yX6_digestOfRuns : MethodName := ⟨RX6, "digestOfRuns", "(J)J"⟩
abbrev cX6_digestOfVerdicts : ByteArray := prog_1_method_49_code
def yX6_digestOfVerdicts : MethodName := ⟨RX6, "digestOfVerdicts", "(J)J"⟩
def RX7 : String := "RegressionCourtModel"
def TX7 : u_T := fun k => match k with
  | _ => ("", "", "", false)
def tyX7 : Nat → FieldType := fun k => match k with
  | _ => .int
abbrev wsX70 : List Cond := u_ws RX7 TX7 0
theorem nmX7 : ∀ a, a < 0 → ∀ b, b < 0 → a ≠ b → (TX7 a).2.1 ≠ (TX7 b).2.1 := by decide +kernel
theorem tyX7_ok : ∀ k, k < 0 → parseFieldDescriptor (TX7 k).2.2.1 = some (tyX7 k) := by decide +kernel
def RJx145de : String := "java/io/Serializable"
def TJx145de : u_T := fun k => match k with
  | _ => ("", "", "", false)
def tyJx145de : Nat → FieldType := fun k => match k with
  | _ => .int
abbrev wsJx145de0 : List Cond := u_ws RJx145de TJx145de 0
theorem nmJx145de : ∀ a, a < 0 → ∀ b, b < 0 → a ≠ b → (TJx145de a).2.1 ≠ (TJx145de b).2.1 := by decide +kernel
theorem tyJx145de_ok : ∀ k, k < 0 → parseFieldDescriptor (TJx145de k).2.2.1 = some (tyJx145de k) := by decide +kernel
def RJx8e188 : String := "java/lang/Cloneable"
def TJx8e188 : u_T := fun k => match k with
  | _ => ("", "", "", false)
def tyJx8e188 : Nat → FieldType := fun k => match k with
  | _ => .int
abbrev wsJx8e1880 : List Cond := u_ws RJx8e188 TJx8e188 0
theorem nmJx8e188 : ∀ a, a < 0 → ∀ b, b < 0 → a ≠ b → (TJx8e188 a).2.1 ≠ (TJx8e188 b).2.1 := by decide +kernel
theorem tyJx8e188_ok : ∀ k, k < 0 → parseFieldDescriptor (TJx8e188 k).2.2.1 = some (tyJx8e188 k) := by decide +kernel
def RJxb160c : String := "java/lang/Comparable"
def TJxb160c : u_T := fun k => match k with
  | _ => ("", "", "", false)
def tyJxb160c : Nat → FieldType := fun k => match k with
  | _ => .int
abbrev wsJxb160c0 : List Cond := u_ws RJxb160c TJxb160c 0
theorem nmJxb160c : ∀ a, a < 0 → ∀ b, b < 0 → a ≠ b → (TJxb160c a).2.1 ≠ (TJxb160c b).2.1 := by decide +kernel
theorem tyJxb160c_ok : ∀ k, k < 0 → parseFieldDescriptor (TJxb160c k).2.2.1 = some (tyJxb160c k) := by decide +kernel
def RJxe99ae : String := "java/lang/Double"
def TJxe99ae : u_T := fun k => match k with
  | _ => ("", "", "", false)
def tyJxe99ae : Nat → FieldType := fun k => match k with
  | _ => .int
abbrev wsJxe99ae0 : List Cond := u_ws RJxe99ae TJxe99ae 0
theorem nmJxe99ae : ∀ a, a < 0 → ∀ b, b < 0 → a ≠ b → (TJxe99ae a).2.1 ≠ (TJxe99ae b).2.1 := by decide +kernel
theorem tyJxe99ae_ok : ∀ k, k < 0 → parseFieldDescriptor (TJxe99ae k).2.2.1 = some (tyJxe99ae k) := by decide +kernel
def RJxab1ab : String := "java/lang/Iterable"
def TJxab1ab : u_T := fun k => match k with
  | _ => ("", "", "", false)
def tyJxab1ab : Nat → FieldType := fun k => match k with
  | _ => .int
abbrev wsJxab1ab0 : List Cond := u_ws RJxab1ab TJxab1ab 0
theorem nmJxab1ab : ∀ a, a < 0 → ∀ b, b < 0 → a ≠ b → (TJxab1ab a).2.1 ≠ (TJxab1ab b).2.1 := by decide +kernel
theorem tyJxab1ab_ok : ∀ k, k < 0 → parseFieldDescriptor (TJxab1ab k).2.2.1 = some (tyJxab1ab k) := by decide +kernel
def RJ9 : String := "java/lang/Math"
def TJ9 : u_T := fun k => match k with
  | _ => ("", "", "", false)
def tyJ9 : Nat → FieldType := fun k => match k with
  | _ => .int
abbrev wsJ90 : List Cond := u_ws RJ9 TJ9 0
theorem nmJ9 : ∀ a, a < 0 → ∀ b, b < 0 → a ≠ b → (TJ9 a).2.1 ≠ (TJ9 b).2.1 := by decide +kernel
theorem tyJ9_ok : ∀ k, k < 0 → parseFieldDescriptor (TJ9 k).2.2.1 = some (tyJ9 k) := by decide +kernel
abbrev cJ9_abs_294c1 : ByteArray := prog_19_method_64_code
def yJ9_abs_294c1 : MethodName := ⟨RJ9, "abs", "(D)D"⟩
abbrev cJ9_max_7cf53 : ByteArray := prog_19_method_65_code
def yJ9_max_7cf53 : MethodName := ⟨RJ9, "max", "(II)I"⟩
abbrev cJ9_min_7cf53 : ByteArray := prog_19_method_69_code
def yJ9_min_7cf53 : MethodName := ⟨RJ9, "min", "(II)I"⟩
def RJxd2413 : String := "java/lang/Number"
def TJxd2413 : u_T := fun k => match k with
  | _ => ("", "", "", false)
def tyJxd2413 : Nat → FieldType := fun k => match k with
  | _ => .int
abbrev wsJxd24130 : List Cond := u_ws RJxd2413 TJxd2413 0
theorem nmJxd2413 : ∀ a, a < 0 → ∀ b, b < 0 → a ≠ b → (TJxd2413 a).2.1 ≠ (TJxd2413 b).2.1 := by decide +kernel
theorem tyJxd2413_ok : ∀ k, k < 0 → parseFieldDescriptor (TJxd2413 k).2.2.1 = some (tyJxd2413 k) := by decide +kernel
def RJ0 : String := "java/lang/String"
def TJ0 : u_T := fun k => match k with
  | _ => ("", "", "", false)
def tyJ0 : Nat → FieldType := fun k => match k with
  | _ => .int
abbrev wsJ00 : List Cond := u_ws RJ0 TJ0 0
theorem nmJ0 : ∀ a, a < 0 → ∀ b, b < 0 → a ≠ b → (TJ0 a).2.1 ≠ (TJ0 b).2.1 := by decide +kernel
theorem tyJ0_ok : ∀ k, k < 0 → parseFieldDescriptor (TJ0 k).2.2.1 = some (tyJ0 k) := by decide +kernel
def RJ10 : String := "java/lang/System"
def TJ10 : u_T := fun k => match k with
  | _ => ("", "", "", false)
def tyJ10 : Nat → FieldType := fun k => match k with
  | _ => .int
abbrev wsJ100 : List Cond := u_ws RJ10 TJ10 0
theorem nmJ10 : ∀ a, a < 0 → ∀ b, b < 0 → a ≠ b → (TJ10 a).2.1 ≠ (TJ10 b).2.1 := by decide +kernel
theorem tyJ10_ok : ∀ k, k < 0 → parseFieldDescriptor (TJ10 k).2.2.1 = some (tyJ10 k) := by decide +kernel
def RJxfd54e : String := "java/lang/constant/Constable"
def TJxfd54e : u_T := fun k => match k with
  | _ => ("", "", "", false)
def tyJxfd54e : Nat → FieldType := fun k => match k with
  | _ => .int
abbrev wsJxfd54e0 : List Cond := u_ws RJxfd54e TJxfd54e 0
theorem nmJxfd54e : ∀ a, a < 0 → ∀ b, b < 0 → a ≠ b → (TJxfd54e a).2.1 ≠ (TJxfd54e b).2.1 := by decide +kernel
theorem tyJxfd54e_ok : ∀ k, k < 0 → parseFieldDescriptor (TJxfd54e k).2.2.1 = some (tyJxfd54e k) := by decide +kernel
def RJx3cf43 : String := "java/lang/constant/ConstantDesc"
def TJx3cf43 : u_T := fun k => match k with
  | _ => ("", "", "", false)
def tyJx3cf43 : Nat → FieldType := fun k => match k with
  | _ => .int
abbrev wsJx3cf430 : List Cond := u_ws RJx3cf43 TJx3cf43 0
theorem nmJx3cf43 : ∀ a, a < 0 → ∀ b, b < 0 → a ≠ b → (TJx3cf43 a).2.1 ≠ (TJx3cf43 b).2.1 := by decide +kernel
theorem tyJx3cf43_ok : ∀ k, k < 0 → parseFieldDescriptor (TJx3cf43 k).2.2.1 = some (tyJx3cf43 k) := by decide +kernel
def RJxa1e45 : String := "java/util/AbstractCollection"
def TJxa1e45 : u_T := fun k => match k with
  | _ => ("", "", "", false)
def tyJxa1e45 : Nat → FieldType := fun k => match k with
  | _ => .int
abbrev wsJxa1e450 : List Cond := u_ws RJxa1e45 TJxa1e45 0
theorem nmJxa1e45 : ∀ a, a < 0 → ∀ b, b < 0 → a ≠ b → (TJxa1e45 a).2.1 ≠ (TJxa1e45 b).2.1 := by decide +kernel
theorem tyJxa1e45_ok : ∀ k, k < 0 → parseFieldDescriptor (TJxa1e45 k).2.2.1 = some (tyJxa1e45 k) := by decide +kernel
abbrev cJxa1e45_init_da8c8 : ByteArray := prog_27_method_1_code
def yJxa1e45_init_da8c8 : MethodName := ⟨RJxa1e45, "<init>", "()V"⟩
def RJxc12de : String := "java/util/AbstractList"
def TJxc12de : u_T := fun k => match k with
  | _ => ("", "", "", false)
def tyJxc12de : Nat → FieldType := fun k => match k with
  | _ => .int
abbrev wsJxc12de0 : List Cond := u_ws RJxc12de TJxc12de 0
theorem nmJxc12de : ∀ a, a < 0 → ∀ b, b < 0 → a ≠ b → (TJxc12de a).2.1 ≠ (TJxc12de b).2.1 := by decide +kernel
theorem tyJxc12de_ok : ∀ k, k < 0 → parseFieldDescriptor (TJxc12de k).2.2.1 = some (tyJxc12de k) := by decide +kernel
abbrev cJxc12de_init_da8c8 : ByteArray := prog_28_method_1_code
def yJxc12de_init_da8c8 : MethodName := ⟨RJxc12de, "<init>", "()V"⟩
def RJx4a65c : String := "java/util/ArrayList"
def TJx4a65c : u_T := fun k => match k with
  | 0 => ("java/util/AbstractList", "modCount", "I", false)
  | 1 => ("java/util/ArrayList", "elementData", "[Ljava/lang/Object;", false)
  | _ => ("java/util/ArrayList", "size", "I", false)
def tyJx4a65c : Nat → FieldType := fun k => match k with
  | 0 => .int
  | 1 => .array (.object "java/lang/Object")
  | _ => .int
abbrev wsJx4a65c0 : List Cond := u_ws RJx4a65c TJx4a65c 3
theorem nmJx4a65c : ∀ a, a < 3 → ∀ b, b < 3 → a ≠ b → (TJx4a65c a).2.1 ≠ (TJx4a65c b).2.1 := by decide +kernel
theorem tyJx4a65c_ok : ∀ k, k < 3 → parseFieldDescriptor (TJx4a65c k).2.2.1 = some (tyJx4a65c k) := by decide +kernel
abbrev cJx4a65c_init_da8c8 : ByteArray := prog_29_method_2_code
def yJx4a65c_init_da8c8 : MethodName := ⟨RJx4a65c, "<init>", "()V"⟩
abbrev cJx4a65c_grow_92f84 : ByteArray := prog_29_method_6_code
def yJx4a65c_grow_92f84 : MethodName := ⟨RJx4a65c, "grow", "(I)[Ljava/lang/Object;"⟩
abbrev cJx4a65c_grow_d5877 : ByteArray := prog_29_method_7_code
def yJx4a65c_grow_d5877 : MethodName := ⟨RJx4a65c, "grow", "()[Ljava/lang/Object;"⟩
abbrev cJx4a65c_size_8abf5 : ByteArray := prog_29_method_8_code
def yJx4a65c_size_8abf5 : MethodName := ⟨RJx4a65c, "size", "()I"⟩
abbrev cJx4a65c_elementData_915e3 : ByteArray := prog_29_method_18_code
def yJx4a65c_elementData_915e3 : MethodName := ⟨RJx4a65c, "elementData", "(I)Ljava/lang/Object;"⟩
abbrev cJx4a65c_get_915e3 : ByteArray := prog_29_method_20_code
def yJx4a65c_get_915e3 : MethodName := ⟨RJx4a65c, "get", "(I)Ljava/lang/Object;"⟩
abbrev cJx4a65c_add_72be8 : ByteArray := prog_29_method_24_code
def yJx4a65c_add_72be8 : MethodName := ⟨RJx4a65c, "add", "(Ljava/lang/Object;[Ljava/lang/Object;I)V"⟩
abbrev cJx4a65c_add_9ea2d : ByteArray := prog_29_method_25_code
def yJx4a65c_add_9ea2d : MethodName := ⟨RJx4a65c, "add", "(Ljava/lang/Object;)Z"⟩
def RJ7 : String := "java/util/Arrays"
def TJ7 : u_T := fun k => match k with
  | _ => ("", "", "", false)
def tyJ7 : Nat → FieldType := fun k => match k with
  | _ => .int
abbrev wsJ70 : List Cond := u_ws RJ7 TJ7 0
theorem nmJ7 : ∀ a, a < 0 → ∀ b, b < 0 → a ≠ b → (TJ7 a).2.1 ≠ (TJ7 b).2.1 := by decide +kernel
theorem tyJ7_ok : ∀ k, k < 0 → parseFieldDescriptor (TJ7 k).2.2.1 = some (tyJ7 k) := by decide +kernel
abbrev cJ7_copyOf_1904c : ByteArray := prog_30_method_119_code
def yJ7_copyOf_1904c : MethodName := ⟨RJ7, "copyOf", "([Ljava/lang/Object;I)[Ljava/lang/Object;"⟩
abbrev cJ7_copyOf_6403c : ByteArray := prog_30_method_120_code
def yJ7_copyOf_6403c : MethodName := ⟨RJ7, "copyOf", "([Ljava/lang/Object;ILjava/lang/Class;)[Ljava/lang/Object;"⟩
def RJx5ef63 : String := "java/util/Collection"
def TJx5ef63 : u_T := fun k => match k with
  | _ => ("", "", "", false)
def tyJx5ef63 : Nat → FieldType := fun k => match k with
  | _ => .int
abbrev wsJx5ef630 : List Cond := u_ws RJx5ef63 TJx5ef63 0
theorem nmJx5ef63 : ∀ a, a < 0 → ∀ b, b < 0 → a ≠ b → (TJx5ef63 a).2.1 ≠ (TJx5ef63 b).2.1 := by decide +kernel
theorem tyJx5ef63_ok : ∀ k, k < 0 → parseFieldDescriptor (TJx5ef63 k).2.2.1 = some (tyJx5ef63 k) := by decide +kernel
def RJxbd725 : String := "java/util/List"
def TJxbd725 : u_T := fun k => match k with
  | _ => ("", "", "", false)
def tyJxbd725 : Nat → FieldType := fun k => match k with
  | _ => .int
abbrev wsJxbd7250 : List Cond := u_ws RJxbd725 TJxbd725 0
theorem nmJxbd725 : ∀ a, a < 0 → ∀ b, b < 0 → a ≠ b → (TJxbd725 a).2.1 ≠ (TJxbd725 b).2.1 := by decide +kernel
theorem tyJxbd725_ok : ∀ k, k < 0 → parseFieldDescriptor (TJxbd725 k).2.2.1 = some (tyJxbd725 k) := by decide +kernel
def RJ15 : String := "java/util/Objects"
def TJ15 : u_T := fun k => match k with
  | _ => ("", "", "", false)
def tyJ15 : Nat → FieldType := fun k => match k with
  | _ => .int
abbrev wsJ150 : List Cond := u_ws RJ15 TJ15 0
theorem nmJ15 : ∀ a, a < 0 → ∀ b, b < 0 → a ≠ b → (TJ15 a).2.1 ≠ (TJ15 b).2.1 := by decide +kernel
theorem tyJ15_ok : ∀ k, k < 0 → parseFieldDescriptor (TJ15 k).2.2.1 = some (tyJ15 k) := by decide +kernel
abbrev cJ15_checkIndex_7cf53 : ByteArray := prog_33_method_17_code
def yJ15_checkIndex_7cf53 : MethodName := ⟨RJ15, "checkIndex", "(II)I"⟩
def RJxf0a74 : String := "java/util/RandomAccess"
def TJxf0a74 : u_T := fun k => match k with
  | _ => ("", "", "", false)
def tyJxf0a74 : Nat → FieldType := fun k => match k with
  | _ => .int
abbrev wsJxf0a740 : List Cond := u_ws RJxf0a74 TJxf0a74 0
theorem nmJxf0a74 : ∀ a, a < 0 → ∀ b, b < 0 → a ≠ b → (TJxf0a74 a).2.1 ≠ (TJxf0a74 b).2.1 := by decide +kernel
theorem tyJxf0a74_ok : ∀ k, k < 0 → parseFieldDescriptor (TJxf0a74 k).2.2.1 = some (tyJxf0a74 k) := by decide +kernel
def RJxa66e6 : String := "java/util/SequencedCollection"
def TJxa66e6 : u_T := fun k => match k with
  | _ => ("", "", "", false)
def tyJxa66e6 : Nat → FieldType := fun k => match k with
  | _ => .int
abbrev wsJxa66e60 : List Cond := u_ws RJxa66e6 TJxa66e6 0
theorem nmJxa66e6 : ∀ a, a < 0 → ∀ b, b < 0 → a ≠ b → (TJxa66e6 a).2.1 ≠ (TJxa66e6 b).2.1 := by decide +kernel
theorem tyJxa66e6_ok : ∀ k, k < 0 → parseFieldDescriptor (TJxa66e6 k).2.2.1 = some (tyJxa66e6 k) := by decide +kernel
def RJ8 : String := "jdk/internal/util/ArraysSupport"
def TJ8 : u_T := fun k => match k with
  | _ => ("", "", "", false)
def tyJ8 : Nat → FieldType := fun k => match k with
  | _ => .int
abbrev wsJ80 : List Cond := u_ws RJ8 TJ8 0
theorem nmJ8 : ∀ a, a < 0 → ∀ b, b < 0 → a ≠ b → (TJ8 a).2.1 ≠ (TJ8 b).2.1 := by decide +kernel
theorem tyJ8_ok : ∀ k, k < 0 → parseFieldDescriptor (TJ8 k).2.2.1 = some (tyJ8 k) := by decide +kernel
abbrev cJ8_newLength_cabcc : ByteArray := prog_36_method_27_code
def yJ8_newLength_cabcc : MethodName := ⟨RJ8, "newLength", "(III)I"⟩
abbrev cJ8_hugeLength_7cf53 : ByteArray := prog_36_method_28_code
def yJ8_hugeLength_7cf53 : MethodName := ⟨RJ8, "hugeLength", "(II)I"⟩
def RJ3 : String := "jdk/internal/util/Preconditions"
def TJ3 : u_T := fun k => match k with
  | _ => ("", "", "", false)
def tyJ3 : Nat → FieldType := fun k => match k with
  | _ => .int
abbrev wsJ30 : List Cond := u_ws RJ3 TJ3 0
theorem nmJ3 : ∀ a, a < 0 → ∀ b, b < 0 → a ≠ b → (TJ3 a).2.1 ≠ (TJ3 b).2.1 := by decide +kernel
theorem tyJ3_ok : ∀ k, k < 0 → parseFieldDescriptor (TJ3 k).2.2.1 = some (tyJ3 k) := by decide +kernel
abbrev cJ3_checkIndex_8e157 : ByteArray := prog_37_method_11_code
def yJ3_checkIndex_8e157 : MethodName := ⟨RJ3, "checkIndex", "(IILjava/util/function/BiFunction;)I"⟩
def RL : String := "RegressionCourtLaw"
abbrev cL_below : ByteArray := method_2_code
def yL_below : MethodName := ⟨RL, "below", "(II)I"⟩
abbrev cL_cell : ByteArray := method_3_code
def yL_cell : MethodName := ⟨RL, "cell", "([II)I"⟩
abbrev cL_law : ByteArray := code
def yL_law : MethodName := ⟨RL, "law", "([I)Z"⟩
abbrev cL_act : ByteArray := method_5_code
def yL_act : MethodName := ⟨RL, "act", "(LRegressionCourt;I)Z"⟩
abbrev cL_areSamplesRight : ByteArray := method_6_code
def yL_areSamplesRight : MethodName := ⟨RL, "areSamplesRight", "(LRegressionCourt;)Z"⟩
abbrev cL_isVerdictRight : ByteArray := method_7_code
def yL_isVerdictRight : MethodName := ⟨RL, "isVerdictRight", "(LRegressionCourt;IIII)Z"⟩
abbrev cL_isCaseRight : ByteArray := method_8_code
def yL_isCaseRight : MethodName := ⟨RL, "isCaseRight", "(LRegressionCourt;)Z"⟩
abbrev vwCl : List vw_C := [(RJx4a65c, TJx4a65c, 3), (RX0, TX0, 4), (RX1, TX1, 3), (RX2, TX2, 10), (RX3, TX3, 8), (RX4, TX4, 5), (RX5, TX5, 2), (RX6, TX6, 13)]
