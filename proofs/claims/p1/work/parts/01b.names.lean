/-! names, as the kit prints them -/
def RX0 : String := "RegressionCourt$Bisection"
def TX0 : u_T := fun k => match k with
  | 0 => ("RegressionCourt$Bisection", "isOn", "Z", false)
  | 1 => ("RegressionCourt$Bisection", "good", "I", false)
  | 2 => ("RegressionCourt$Bisection", "bad", "I", false)
  | _ => ("RegressionCourt$Bisection", "waitsFor", "I", false)
def tyX0 : Nat → FieldType := fun k => match k with
  | 0 => .boolean
  | 1 => .int
  | 2 => .int
  | _ => .int
abbrev wsX00 : List Cond := u_ws RX0 TX0 4
theorem nmX0 : ∀ a, a < 4 → ∀ b, b < 4 → a ≠ b → (TX0 a).2.1 ≠ (TX0 b).2.1 := by decide +kernel
theorem tyX0_ok : ∀ k, k < 4 → parseFieldDescriptor (TX0 k).2.2.1 = some (tyX0 k) := by decide +kernel
abbrev cX0_init : ByteArray := prog_2_method_1_code
def yX0_init : MethodName := ⟨RX0, "<init>", "()V"⟩
abbrev cX0_open : ByteArray := prog_2_method_2_code
def yX0_open : MethodName := ⟨RX0, "open", "(II)V"⟩
abbrev cX0_close : ByteArray := prog_2_method_3_code
def yX0_close : MethodName := ⟨RX0, "close", "()V"⟩
abbrev cX0_probe : ByteArray := prog_2_method_4_code
def yX0_probe : MethodName := ⟨RX0, "probe", "()I"⟩
abbrev cX0_narrow : ByteArray := prog_2_method_5_code
def yX0_narrow : MethodName := ⟨RX0, "narrow", "(IZ)V"⟩
def RX1 : String := "RegressionCourt$Change"
def TX1 : u_T := fun k => match k with
  | 0 => ("RegressionCourt$Change", "runs", "Ljava/util/ArrayList;", true)
  | 1 => ("RegressionCourt$Change", "isNamed", "Z", false)
  | _ => ("RegressionCourt$Change", "isExcused", "Z", false)
def tyX1 : Nat → FieldType := fun k => match k with
  | 0 => .object "java/util/ArrayList"
  | 1 => .boolean
  | _ => .boolean
abbrev wsX10 : List Cond := u_ws RX1 TX1 3
theorem nmX1 : ∀ a, a < 3 → ∀ b, b < 3 → a ≠ b → (TX1 a).2.1 ≠ (TX1 b).2.1 := by decide +kernel
theorem tyX1_ok : ∀ k, k < 3 → parseFieldDescriptor (TX1 k).2.2.1 = some (tyX1 k) := by decide +kernel
abbrev cX1_init : ByteArray := prog_3_method_1_code
def yX1_init : MethodName := ⟨RX1, "<init>", "()V"⟩
abbrev cX1_sampleSize : ByteArray := prog_3_method_2_code
def yX1_sampleSize : MethodName := ⟨RX1, "sampleSize", "()I"⟩
abbrev cX1_sampleSizeWithout : ByteArray := prog_3_method_3_code
def yX1_sampleSizeWithout : MethodName := ⟨RX1, "sampleSizeWithout", "(LRegressionCourt$Machine;)I"⟩
abbrev cX1_isInSample : ByteArray := prog_3_method_4_code
def yX1_isInSample : MethodName := ⟨RX1, "isInSample", "(LRegressionCourt$Run;)Z"⟩
def RX2 : String := "RegressionCourt$Duel"
def TX2 : u_T := fun k => match k with
  | 0 => ("RegressionCourt$Duel", "first", "LRegressionCourt$Sample;", true)
  | 1 => ("RegressionCourt$Duel", "second", "LRegressionCourt$Sample;", true)
  | 2 => ("RegressionCourt$Duel", "laid", "[I", true)
  | 3 => ("RegressionCourt$Duel", "ways", "[[I", true)
  | 4 => ("RegressionCourt$Duel", "laidMany", "I", false)
  | 5 => ("RegressionCourt$Duel", "leadsUpTo", "I", false)
  | 6 => ("RegressionCourt$Duel", "score", "I", false)
  | 7 => ("RegressionCourt$Duel", "high", "I", false)
  | 8 => ("RegressionCourt$Duel", "low", "I", false)
  | _ => ("RegressionCourt$Duel", "all", "I", false)
def tyX2 : Nat → FieldType := fun k => match k with
  | 0 => .object "RegressionCourt$Sample"
  | 1 => .object "RegressionCourt$Sample"
  | 2 => .array .int
  | 3 => .array (.array .int)
  | 4 => .int
  | 5 => .int
  | 6 => .int
  | 7 => .int
  | 8 => .int
  | _ => .int
abbrev wsX20 : List Cond := u_ws RX2 TX2 10
theorem nmX2 : ∀ a, a < 10 → ∀ b, b < 10 → a ≠ b → (TX2 a).2.1 ≠ (TX2 b).2.1 := by decide +kernel
theorem tyX2_ok : ∀ k, k < 10 → parseFieldDescriptor (TX2 k).2.2.1 = some (tyX2 k) := by decide +kernel
abbrev cX2_init : ByteArray := prog_4_method_1_code
def yX2_init : MethodName := ⟨RX2, "<init>", "()V"⟩
abbrev cX2_weigh : ByteArray := prog_4_method_2_code
def yX2_weigh : MethodName := ⟨RX2, "weigh", "()V"⟩
abbrev cX2_lay : ByteArray := prog_4_method_3_code
def yX2_lay : MethodName := ⟨RX2, "lay", "(LRegressionCourt$Sample;)V"⟩
abbrev cX2_leadOf : ByteArray := prog_4_method_4_code
def yX2_leadOf : MethodName := ⟨RX2, "leadOf", "(I)I"⟩
abbrev cX2_countWays : ByteArray := prog_4_method_5_code
def yX2_countWays : MethodName := ⟨RX2, "countWays", "()V"⟩
abbrev cX2_clearLeads : ByteArray := prog_4_method_6_code
def yX2_clearLeads : MethodName := ⟨RX2, "clearLeads", "([I)V"⟩
abbrev cX2_addShifted : ByteArray := prog_4_method_7_code
def yX2_addShifted : MethodName := ⟨RX2, "addShifted", "([I[II)V"⟩
abbrev cX2_tally : ByteArray := prog_4_method_8_code
def yX2_tally : MethodName := ⟨RX2, "tally", "(I)V"⟩
abbrev cX2_outcome : ByteArray := prog_4_method_9_code
def yX2_outcome : MethodName := ⟨RX2, "outcome", "(II)I"⟩
abbrev cX2_shareOfHigh : ByteArray := prog_4_method_10_code
def yX2_shareOfHigh : MethodName := ⟨RX2, "shareOfHigh", "()D"⟩
def RX3 : String := "RegressionCourt$Machine"
def TX3 : u_T := fun k => match k with
  | 0 => ("RegressionCourt$Machine", "number", "I", true)
  | 1 => ("RegressionCourt$Machine", "price", "I", true)
  | 2 => ("RegressionCourt$Machine", "scale", "I", false)
  | 3 => ("RegressionCourt$Machine", "measureBefore", "I", false)
  | 4 => ("RegressionCourt$Machine", "measureTwoBefore", "I", false)
  | 5 => ("RegressionCourt$Machine", "measures", "I", false)
  | 6 => ("RegressionCourt$Machine", "runs", "I", false)
  | _ => ("RegressionCourt$Machine", "isAside", "Z", false)
def tyX3 : Nat → FieldType := fun k => match k with
  | 0 => .int
  | 1 => .int
  | 2 => .int
  | 3 => .int
  | 4 => .int
  | 5 => .int
  | 6 => .int
  | _ => .boolean
abbrev wsX30 : List Cond := u_ws RX3 TX3 8
theorem nmX3 : ∀ a, a < 8 → ∀ b, b < 8 → a ≠ b → (TX3 a).2.1 ≠ (TX3 b).2.1 := by decide +kernel
theorem tyX3_ok : ∀ k, k < 8 → parseFieldDescriptor (TX3 k).2.2.1 = some (tyX3 k) := by decide +kernel
abbrev cX3_init : ByteArray := prog_5_method_1_code
def yX3_init : MethodName := ⟨RX3, "<init>", "(III)V"⟩
abbrev cX3_take : ByteArray := prog_5_method_2_code
def yX3_take : MethodName := ⟨RX3, "take", "(I)V"⟩
abbrev cX3_drifts : ByteArray := prog_5_method_3_code
def yX3_drifts : MethodName := ⟨RX3, "drifts", "()Z"⟩
abbrev cX3_worthOf : ByteArray := prog_5_method_4_code
def yX3_worthOf : MethodName := ⟨RX3, "worthOf", "(I)I"⟩
def RX4 : String := "RegressionCourt$Run"
def TX4 : u_T := fun k => match k with
  | 0 => ("RegressionCourt$Run", "change", "I", true)
  | 1 => ("RegressionCourt$Run", "machine", "LRegressionCourt$Machine;", true)
  | 2 => ("RegressionCourt$Run", "time", "I", true)
  | 3 => ("RegressionCourt$Run", "worth", "I", true)
  | _ => ("RegressionCourt$Run", "isStruck", "Z", false)
def tyX4 : Nat → FieldType := fun k => match k with
  | 0 => .int
  | 1 => .object "RegressionCourt$Machine"
  | 2 => .int
  | 3 => .int
  | _ => .boolean
abbrev wsX40 : List Cond := u_ws RX4 TX4 5
theorem nmX4 : ∀ a, a < 5 → ∀ b, b < 5 → a ≠ b → (TX4 a).2.1 ≠ (TX4 b).2.1 := by decide +kernel
theorem tyX4_ok : ∀ k, k < 5 → parseFieldDescriptor (TX4 k).2.2.1 = some (tyX4 k) := by decide +kernel
abbrev cX4_init : ByteArray := prog_6_method_1_code
def yX4_init : MethodName := ⟨RX4, "<init>", "(ILRegressionCourt$Machine;I)V"⟩
abbrev cX4_isCounting : ByteArray := prog_6_method_2_code
def yX4_isCounting : MethodName := ⟨RX4, "isCounting", "()Z"⟩
def RX5 : String := "RegressionCourt$Sample"
def TX5 : u_T := fun k => match k with
  | 0 => ("RegressionCourt$Sample", "worths", "[I", true)
  | _ => ("RegressionCourt$Sample", "size", "I", false)
def tyX5 : Nat → FieldType := fun k => match k with
  | 0 => .array .int
  | _ => .int
abbrev wsX50 : List Cond := u_ws RX5 TX5 2
theorem nmX5 : ∀ a, a < 2 → ∀ b, b < 2 → a ≠ b → (TX5 a).2.1 ≠ (TX5 b).2.1 := by decide +kernel
theorem tyX5_ok : ∀ k, k < 2 → parseFieldDescriptor (TX5 k).2.2.1 = some (tyX5 k) := by decide +kernel
abbrev cX5_init : ByteArray := prog_7_method_1_code
def yX5_init : MethodName := ⟨RX5, "<init>", "()V"⟩
abbrev cX5_clear : ByteArray := prog_7_method_2_code
def yX5_clear : MethodName := ⟨RX5, "clear", "()V"⟩
abbrev cX5_add : ByteArray := prog_7_method_3_code
def yX5_add : MethodName := ⟨RX5, "add", "(I)V"⟩
abbrev cX5_addLastOf : ByteArray := prog_7_method_4_code
def yX5_addLastOf : MethodName := ⟨RX5, "addLastOf", "(LRegressionCourt$Change;)V"⟩
abbrev cX5_worthAt : ByteArray := prog_7_method_5_code
def yX5_worthAt : MethodName := ⟨RX5, "worthAt", "(I)I"⟩
def RX6 : String := "RegressionCourt"
def TX6 : u_T := fun k => match k with
  | 0 => ("RegressionCourt", "machines", "Ljava/util/ArrayList;", true)
  | 1 => ("RegressionCourt", "changes", "Ljava/util/ArrayList;", true)
  | 2 => ("RegressionCourt", "runs", "Ljava/util/ArrayList;", true)
  | 3 => ("RegressionCourt", "origin", "LRegressionCourt$Change;", true)
  | 4 => ("RegressionCourt", "sample", "LRegressionCourt$Sample;", true)
  | 5 => ("RegressionCourt", "duel", "LRegressionCourt$Duel;", true)
  | 6 => ("RegressionCourt", "bisection", "LRegressionCourt$Bisection;", true)
  | 7 => ("RegressionCourt", "enough", "I", false)
  | 8 => ("RegressionCourt", "level", "I", false)
  | 9 => ("RegressionCourt", "minutesLeft", "I", false)
  | 10 => ("RegressionCourt", "credit", "I", false)
  | 11 => ("RegressionCourt", "baseline", "I", false)
  | _ => ("RegressionCourt", "lastNamed", "I", false)
def tyX6 : Nat → FieldType := fun k => match k with
  | 0 => .object "java/util/ArrayList"
  | 1 => .object "java/util/ArrayList"
  | 2 => .object "java/util/ArrayList"
  | 3 => .object "RegressionCourt$Change"
  | 4 => .object "RegressionCourt$Sample"
  | 5 => .object "RegressionCourt$Duel"
  | 6 => .object "RegressionCourt$Bisection"
  | 7 => .int
  | 8 => .int
  | 9 => .int
  | 10 => .int
  | 11 => .int
  | _ => .int
abbrev wsX60 : List Cond := u_ws RX6 TX6 13
theorem nmX6 : ∀ a, a < 13 → ∀ b, b < 13 → a ≠ b → (TX6 a).2.1 ≠ (TX6 b).2.1 := by decide +kernel
theorem tyX6_ok : ∀ k, k < 13 → parseFieldDescriptor (TX6 k).2.2.1 = some (tyX6 k) := by decide +kernel
abbrev cX6_init : ByteArray := prog_1_method_1_code
def yX6_init : MethodName := ⟨RX6, "<init>", "()V"⟩
abbrev cX6_machine : ByteArray := prog_1_method_2_code
def yX6_machine : MethodName := ⟨RX6, "machine", "(II)I"⟩
abbrev cX6_measure : ByteArray := prog_1_method_3_code
def yX6_measure : MethodName := ⟨RX6, "measure", "(II)Z"⟩
abbrev cX6_ofMachine : ByteArray := prog_1_method_4_code
def yX6_ofMachine : MethodName := ⟨RX6, "ofMachine", "(II)I"⟩
abbrev cX6_changes : ByteArray := prog_1_method_5_code
def yX6_changes : MethodName := ⟨RX6, "changes", "(I)I"⟩
abbrev cX6_run : ByteArray := prog_1_method_6_code
def yX6_run : MethodName := ⟨RX6, "run", "(III)I"⟩
abbrev cX6_strike : ByteArray := prog_1_method_7_code
def yX6_strike : MethodName := ⟨RX6, "strike", "(I)I"⟩
abbrev cX6_ofRun : ByteArray := prog_1_method_8_code
def yX6_ofRun : MethodName := ⟨RX6, "ofRun", "(II)I"⟩
abbrev cX6_ofChange : ByteArray := prog_1_method_9_code
def yX6_ofChange : MethodName := ⟨RX6, "ofChange", "(II)I"⟩
abbrev cX6_verdict : ByteArray := prog_1_method_10_code
def yX6_verdict : MethodName := ⟨RX6, "verdict", "(III)I"⟩
abbrev cX6_doubt : ByteArray := prog_1_method_11_code
def yX6_doubt : MethodName := ⟨RX6, "doubt", "(II)D"⟩
abbrev cX6_rule : ByteArray := prog_1_method_12_code
def yX6_rule : MethodName := ⟨RX6, "rule", "(II)I"⟩
abbrev cX6_begin : ByteArray := prog_1_method_13_code
def yX6_begin : MethodName := ⟨RX6, "begin", "(II)I"⟩
abbrev cX6_drop : ByteArray := prog_1_method_14_code
def yX6_drop : MethodName := ⟨RX6, "drop", "()I"⟩
abbrev cX6_ofCase : ByteArray := prog_1_method_15_code
def yX6_ofCase : MethodName := ⟨RX6, "ofCase", "(I)I"⟩
abbrev cX6_move : ByteArray := prog_1_method_16_code
def yX6_move : MethodName := ⟨RX6, "move", "()I"⟩
abbrev cX6_excuse : ByteArray := prog_1_method_17_code
def yX6_excuse : MethodName := ⟨RX6, "excuse", "(II)I"⟩
abbrev cX6_budget : ByteArray := prog_1_method_18_code
def yX6_budget : MethodName := ⟨RX6, "budget", "(I)I"⟩
abbrev cX6_many : ByteArray := prog_1_method_19_code
def yX6_many : MethodName := ⟨RX6, "many", "(I)I"⟩
abbrev cX6_minutesFor : ByteArray := prog_1_method_20_code
def yX6_minutesFor : MethodName := ⟨RX6, "minutesFor", "(I)I"⟩
abbrev cX6_verdictWith : ByteArray := prog_1_method_21_code
def yX6_verdictWith : MethodName := ⟨RX6, "verdictWith", "(III)I"⟩
abbrev cX6_without : ByteArray := prog_1_method_22_code
def yX6_without : MethodName := ⟨RX6, "without", "(I)I"⟩
abbrev cX6_wouldMove : ByteArray := prog_1_method_23_code
def yX6_wouldMove : MethodName := ⟨RX6, "wouldMove", "()I"⟩
abbrev cX6_digest : ByteArray := prog_1_method_24_code
def yX6_digest : MethodName := ⟨RX6, "digest", "()J"⟩
abbrev cX6_isOutside : ByteArray := prog_1_method_25_code
def yX6_isOutside : MethodName := ⟨RX6, "isOutside", "(III)Z"⟩
abbrev cX6_isNoMeasure : ByteArray := prog_1_method_26_code
def yX6_isNoMeasure : MethodName := ⟨RX6, "isNoMeasure", "(I)Z"⟩
abbrev cX6_isNoChange : ByteArray := prog_1_method_27_code
def yX6_isNoChange : MethodName := ⟨RX6, "isNoChange", "(I)Z"⟩
abbrev cX6_changeAt : ByteArray := prog_1_method_28_code
def yX6_changeAt : MethodName := ⟨RX6, "changeAt", "(I)LRegressionCourt$Change;"⟩
abbrev cX6_oneIf : ByteArray := prog_1_method_29_code
def yX6_oneIf : MethodName := ⟨RX6, "oneIf", "(Z)I"⟩
abbrev cX6_machineFact : ByteArray := prog_1_method_30_code
def yX6_machineFact : MethodName := ⟨RX6, "machineFact", "(LRegressionCourt$Machine;I)I"⟩
abbrev cX6_runFact : ByteArray := prog_1_method_31_code
def yX6_runFact : MethodName := ⟨RX6, "runFact", "(LRegressionCourt$Run;I)I"⟩
abbrev cX6_changeFact : ByteArray := prog_1_method_32_code
def yX6_changeFact : MethodName := ⟨RX6, "changeFact", "(LRegressionCourt$Change;I)I"⟩
abbrev cX6_duelFact : ByteArray := prog_1_method_33_code
def yX6_duelFact : MethodName := ⟨RX6, "duelFact", "(I)I"⟩
abbrev cX6_caseFact : ByteArray := prog_1_method_34_code
def yX6_caseFact : MethodName := ⟨RX6, "caseFact", "(I)I"⟩
abbrev cX6_courtFact : ByteArray := prog_1_method_35_code
def yX6_courtFact : MethodName := ⟨RX6, "courtFact", "(I)I"⟩
abbrev cX6_runsThatCount : ByteArray := prog_1_method_36_code
def yX6_runsThatCount : MethodName := ⟨RX6, "runsThatCount", "()I"⟩
abbrev cX6_changesNamed : ByteArray := prog_1_method_37_code
def yX6_changesNamed : MethodName := ⟨RX6, "changesNamed", "()I"⟩
abbrev cX6_machinesAside : ByteArray := prog_1_method_38_code
def yX6_machinesAside : MethodName := ⟨RX6, "machinesAside", "()I"⟩
abbrev cX6_meet : ByteArray := prog_1_method_39_code
def yX6_meet : MethodName := ⟨RX6, "meet", "(II)V"⟩
abbrev cX6_goOn : ByteArray := prog_1_method_40_code
def yX6_goOn : MethodName := ⟨RX6, "goOn", "()V"⟩
abbrev cX6_bisectOnce : ByteArray := prog_1_method_41_code
def yX6_bisectOnce : MethodName := ⟨RX6, "bisectOnce", "()Z"⟩
abbrev cX6_creditOfStepTo : ByteArray := prog_1_method_42_code
def yX6_creditOfStepTo : MethodName := ⟨RX6, "creditOfStepTo", "(I)I"⟩
abbrev cX6_minutesToFill : ByteArray := prog_1_method_43_code
def yX6_minutesToFill : MethodName := ⟨RX6, "minutesToFill", "(LRegressionCourt$Change;)I"⟩
abbrev cX6_leastPrice : ByteArray := prog_1_method_44_code
def yX6_leastPrice : MethodName := ⟨RX6, "leastPrice", "()I"⟩
abbrev cX6_changesHurtWithout : ByteArray := prog_1_method_45_code
def yX6_changesHurtWithout : MethodName := ⟨RX6, "changesHurtWithout", "(LRegressionCourt$Machine;)I"⟩
abbrev cX6_digestOfMachines : ByteArray := prog_1_method_46_code
def yX6_digestOfMachines : MethodName := ⟨RX6, "digestOfMachines", "(J)J"⟩
abbrev cX6_digestOfChanges : ByteArray := prog_1_method_47_code
def yX6_digestOfChanges : MethodName := ⟨RX6, "digestOfChanges", "(J)J"⟩
abbrev cX6_digestOfRuns : ByteArray := prog_1_method_48_code
def yX6_digestOfRuns : MethodName := ⟨RX6, "digestOfRuns", "(J)J"⟩
abbrev cX6_digestOfVerdicts : ByteArray := prog_1_method_49_code
def yX6_digestOfVerdicts : MethodName := ⟨RX6, "digestOfVerdicts", "(J)J"⟩
def RX7 : String := "RegressionCourtModel"
def TX7 : u_T := fun k => match k with
  | 0 => ("RegressionCourtModel", "thrown", "I", false)
  | 1 => ("RegressionCourtModel", "measures", "Ljava/util/ArrayList;", true)
  | 2 => ("RegressionCourtModel", "prices", "Ljava/util/ArrayList;", true)
  | 3 => ("RegressionCourtModel", "runs", "Ljava/util/ArrayList;", true)
  | 4 => ("RegressionCourtModel", "isNamed", "[Z", true)
  | 5 => ("RegressionCourtModel", "isExcused", "[Z", true)
  | 6 => ("RegressionCourtModel", "changes", "I", false)
  | 7 => ("RegressionCourtModel", "enough", "I", false)
  | 8 => ("RegressionCourtModel", "level", "I", false)
  | 9 => ("RegressionCourtModel", "good", "I", false)
  | 10 => ("RegressionCourtModel", "bad", "I", false)
  | 11 => ("RegressionCourtModel", "waits", "I", false)
  | 12 => ("RegressionCourtModel", "named", "I", false)
  | 13 => ("RegressionCourtModel", "baseline", "I", false)
  | 14 => ("RegressionCourtModel", "credit", "I", false)
  | 15 => ("RegressionCourtModel", "minutes", "I", false)
  | _ => ("RegressionCourtModel", "sum", "J", false)
def tyX7 : Nat → FieldType := fun k => match k with
  | 0 => .int
  | 1 => .object "java/util/ArrayList"
  | 2 => .object "java/util/ArrayList"
  | 3 => .object "java/util/ArrayList"
  | 4 => .array .boolean
  | 5 => .array .boolean
  | 6 => .int
  | 7 => .int
  | 8 => .int
  | 9 => .int
  | 10 => .int
  | 11 => .int
  | 12 => .int
  | 13 => .int
  | 14 => .int
  | 15 => .int
  | _ => .long
abbrev wsX70 : List Cond := u_ws RX7 TX7 17
theorem nmX7 : ∀ a, a < 17 → ∀ b, b < 17 → a ≠ b → (TX7 a).2.1 ≠ (TX7 b).2.1 := by decide +kernel
theorem tyX7_ok : ∀ k, k < 17 → parseFieldDescriptor (TX7 k).2.2.1 = some (tyX7 k) := by decide +kernel
abbrev cX7_init : ByteArray := prog_9_method_1_code
def yX7_init : MethodName := ⟨RX7, "<init>", "()V"⟩
abbrev cX7_thrown : ByteArray := prog_9_method_2_code
def yX7_thrown : MethodName := ⟨RX7, "thrown", "()I"⟩
abbrev cX7_refuse : ByteArray := prog_9_method_3_code
def yX7_refuse : MethodName := ⟨RX7, "refuse", "(I)I"⟩
abbrev cX7_is : ByteArray := prog_9_method_4_code
def yX7_is : MethodName := ⟨RX7, "is", "(III)Z"⟩
abbrev cX7_isMachine : ByteArray := prog_9_method_5_code
def yX7_isMachine : MethodName := ⟨RX7, "isMachine", "(I)Z"⟩
abbrev cX7_isChange : ByteArray := prog_9_method_6_code
def yX7_isChange : MethodName := ⟨RX7, "isChange", "(I)Z"⟩
abbrev cX7_isAside : ByteArray := prog_9_method_7_code
def yX7_isAside : MethodName := ⟨RX7, "isAside", "(I)Z"⟩
abbrev cX7_scale : ByteArray := prog_9_method_8_code
def yX7_scale : MethodName := ⟨RX7, "scale", "(I)I"⟩
abbrev cX7_machine : ByteArray := prog_9_method_9_code
def yX7_machine : MethodName := ⟨RX7, "machine", "(II)I"⟩
abbrev cX7_measure : ByteArray := prog_9_method_10_code
def yX7_measure : MethodName := ⟨RX7, "measure", "(II)Z"⟩
abbrev cX7_ofMachineNow : ByteArray := prog_9_method_11_code
def yX7_ofMachineNow : MethodName := ⟨RX7, "ofMachineNow", "(II)I"⟩
abbrev cX7_ofMachine : ByteArray := prog_9_method_12_code
def yX7_ofMachine : MethodName := ⟨RX7, "ofMachine", "(II)I"⟩
abbrev cX7_counts : ByteArray := prog_9_method_13_code
def yX7_counts : MethodName := ⟨RX7, "counts", "([II)Z"⟩
abbrev cX7_sample : ByteArray := prog_9_method_14_code
def yX7_sample : MethodName := ⟨RX7, "sample", "(II)[I"⟩
abbrev cX7_sample_ : ByteArray := prog_9_method_15_code
def yX7_sample_ : MethodName := ⟨RX7, "sample", "(I)[I"⟩
abbrev cX7_changes : ByteArray := prog_9_method_16_code
def yX7_changes : MethodName := ⟨RX7, "changes", "(I)I"⟩
abbrev cX7_run : ByteArray := prog_9_method_17_code
def yX7_run : MethodName := ⟨RX7, "run", "(III)I"⟩
abbrev cX7_isRun : ByteArray := prog_9_method_18_code
def yX7_isRun : MethodName := ⟨RX7, "isRun", "(I)Z"⟩
abbrev cX7_strike : ByteArray := prog_9_method_19_code
def yX7_strike : MethodName := ⟨RX7, "strike", "(I)I"⟩
abbrev cX7_ofRunNow : ByteArray := prog_9_method_20_code
def yX7_ofRunNow : MethodName := ⟨RX7, "ofRunNow", "(II)I"⟩
abbrev cX7_ofRun : ByteArray := prog_9_method_21_code
def yX7_ofRun : MethodName := ⟨RX7, "ofRun", "(II)I"⟩
abbrev cX7_ofChangeNow : ByteArray := prog_9_method_22_code
def yX7_ofChangeNow : MethodName := ⟨RX7, "ofChangeNow", "(II)I"⟩
abbrev cX7_ofChange : ByteArray := prog_9_method_23_code
def yX7_ofChange : MethodName := ⟨RX7, "ofChange", "(II)I"⟩
abbrev cX7_score : ByteArray := prog_9_method_24_code
def yX7_score : MethodName := ⟨RX7, "score", "([I[I)I"⟩
abbrev cX7_ways : ByteArray := prog_9_method_25_code
def yX7_ways : MethodName := ⟨RX7, "ways", "([I[I)[I"⟩
abbrev cX7_passed : ByteArray := prog_9_method_26_code
def yX7_passed : MethodName := ⟨RX7, "passed", "([[IIIII)[[I"⟩
abbrev cX7_choose : ByteArray := prog_9_method_27_code
def yX7_choose : MethodName := ⟨RX7, "choose", "(II)I"⟩
abbrev cX7_reckoned : ByteArray := prog_9_method_28_code
def yX7_reckoned : MethodName := ⟨RX7, "reckoned", "([I[I)[I"⟩
abbrev cX7_verdictOf : ByteArray := prog_9_method_29_code
def yX7_verdictOf : MethodName := ⟨RX7, "verdictOf", "([I[I)I"⟩
abbrev cX7_verdictNow : ByteArray := prog_9_method_30_code
def yX7_verdictNow : MethodName := ⟨RX7, "verdictNow", "(III)I"⟩
abbrev cX7_verdict : ByteArray := prog_9_method_31_code
def yX7_verdict : MethodName := ⟨RX7, "verdict", "(III)I"⟩
abbrev cX7_doubt : ByteArray := prog_9_method_32_code
def yX7_doubt : MethodName := ⟨RX7, "doubt", "(II)D"⟩
abbrev cX7_rule : ByteArray := prog_9_method_33_code
def yX7_rule : MethodName := ⟨RX7, "rule", "(II)I"⟩
abbrev cX7_end : ByteArray := prog_9_method_34_code
def yX7_end : MethodName := ⟨RX7, "end", "()V"⟩
abbrev cX7_goOn : ByteArray := prog_9_method_35_code
def yX7_goOn : MethodName := ⟨RX7, "goOn", "()V"⟩
abbrev cX7_begin : ByteArray := prog_9_method_36_code
def yX7_begin : MethodName := ⟨RX7, "begin", "(II)I"⟩
abbrev cX7_drop : ByteArray := prog_9_method_37_code
def yX7_drop : MethodName := ⟨RX7, "drop", "()I"⟩
abbrev cX7_ofCaseNow : ByteArray := prog_9_method_38_code
def yX7_ofCaseNow : MethodName := ⟨RX7, "ofCaseNow", "(I)I"⟩
abbrev cX7_ofCase : ByteArray := prog_9_method_39_code
def yX7_ofCase : MethodName := ⟨RX7, "ofCase", "(I)I"⟩
abbrev cX7_isNext : ByteArray := prog_9_method_40_code
def yX7_isNext : MethodName := ⟨RX7, "isNext", "(I)Z"⟩
abbrev cX7_moved : ByteArray := prog_9_method_41_code
def yX7_moved : MethodName := ⟨RX7, "moved", "(I)I"⟩
abbrev cX7_move : ByteArray := prog_9_method_42_code
def yX7_move : MethodName := ⟨RX7, "move", "()I"⟩
abbrev cX7_excuse : ByteArray := prog_9_method_43_code
def yX7_excuse : MethodName := ⟨RX7, "excuse", "(II)I"⟩
abbrev cX7_budget : ByteArray := prog_9_method_44_code
def yX7_budget : MethodName := ⟨RX7, "budget", "(I)I"⟩
abbrev cX7_manyNow : ByteArray := prog_9_method_45_code
def yX7_manyNow : MethodName := ⟨RX7, "manyNow", "(I)I"⟩
abbrev cX7_many : ByteArray := prog_9_method_46_code
def yX7_many : MethodName := ⟨RX7, "many", "(I)I"⟩
abbrev cX7_minutesForNow : ByteArray := prog_9_method_47_code
def yX7_minutesForNow : MethodName := ⟨RX7, "minutesForNow", "(I)I"⟩
abbrev cX7_minutesFor : ByteArray := prog_9_method_48_code
def yX7_minutesFor : MethodName := ⟨RX7, "minutesFor", "(I)I"⟩
abbrev cX7_verdictWith : ByteArray := prog_9_method_49_code
def yX7_verdictWith : MethodName := ⟨RX7, "verdictWith", "(III)I"⟩
abbrev cX7_withoutNow : ByteArray := prog_9_method_50_code
def yX7_withoutNow : MethodName := ⟨RX7, "withoutNow", "(I)I"⟩
abbrev cX7_without : ByteArray := prog_9_method_51_code
def yX7_without : MethodName := ⟨RX7, "without", "(I)I"⟩
abbrev cX7_wouldMove : ByteArray := prog_9_method_52_code
def yX7_wouldMove : MethodName := ⟨RX7, "wouldMove", "()I"⟩
abbrev cX7_add : ByteArray := prog_9_method_53_code
def yX7_add : MethodName := ⟨RX7, "add", "(I)V"⟩
abbrev cX7_digest : ByteArray := prog_9_method_54_code
def yX7_digest : MethodName := ⟨RX7, "digest", "()J"⟩
def RJx145de : String := "java/io/Serializable"
def TJx145de : u_T := fun k => match k with
  | _ => ("", "", "", false)
def tyJx145de : Nat → FieldType := fun k => match k with
  | _ => .int
abbrev wsJx145de0 : List Cond := u_ws RJx145de TJx145de 0
theorem nmJx145de : ∀ a, a < 0 → ∀ b, b < 0 → a ≠ b → (TJx145de a).2.1 ≠ (TJx145de b).2.1 := by decide +kernel
theorem tyJx145de_ok : ∀ k, k < 0 → parseFieldDescriptor (TJx145de k).2.2.1 = some (tyJx145de k) := by decide +kernel
def RJ5 : String := "java/lang/AbstractStringBuilder"
def TJ5 : u_T := fun k => match k with
  | _ => ("", "", "", false)
def tyJ5 : Nat → FieldType := fun k => match k with
  | _ => .int
abbrev wsJ50 : List Cond := u_ws RJ5 TJ5 0
theorem nmJ5 : ∀ a, a < 0 → ∀ b, b < 0 → a ≠ b → (TJ5 a).2.1 ≠ (TJ5 b).2.1 := by decide +kernel
theorem tyJ5_ok : ∀ k, k < 0 → parseFieldDescriptor (TJ5 k).2.2.1 = some (tyJ5 k) := by decide +kernel
abbrev cJ5_init_d00df : ByteArray := prog_11_method_2_code
def yJ5_init_d00df : MethodName := ⟨RJ5, "<init>", "(I)V"⟩
abbrev cJ5_length_8abf5 : ByteArray := prog_11_method_6_code
def yJ5_length_8abf5 : MethodName := ⟨RJ5, "length", "()I"⟩
abbrev cJ5_ensureCapacityInternal_d00df : ByteArray := prog_11_method_9_code
def yJ5_ensureCapacityInternal_d00df : MethodName := ⟨RJ5, "ensureCapacityInternal", "(I)V"⟩
abbrev cJ5_newCapacity_0f7a4 : ByteArray := prog_11_method_10_code
def yJ5_newCapacity_0f7a4 : MethodName := ⟨RJ5, "newCapacity", "(I)I"⟩
abbrev cJ5_inflate_da8c8 : ByteArray := prog_11_method_11_code
def yJ5_inflate_da8c8 : MethodName := ⟨RJ5, "inflate", "()V"⟩
abbrev cJ5_append_cf1ce : ByteArray := prog_11_method_22_code
def yJ5_append_cf1ce : MethodName := ⟨RJ5, "append", "(Ljava/lang/String;)Ljava/lang/AbstractStringBuilder;"⟩
abbrev cJ5_appendNull_278bc : ByteArray := prog_11_method_26_code
def yJ5_appendNull_278bc : MethodName := ⟨RJ5, "appendNull", "()Ljava/lang/AbstractStringBuilder;"⟩
abbrev cJ5_append_c97b9 : ByteArray := prog_11_method_32_code
def yJ5_append_c97b9 : MethodName := ⟨RJ5, "append", "(I)Ljava/lang/AbstractStringBuilder;"⟩
abbrev cJ5_getValue_6d5f1 : ByteArray := prog_11_method_64_code
def yJ5_getValue_6d5f1 : MethodName := ⟨RJ5, "getValue", "()[B"⟩
abbrev cJ5_isLatin1_aae02 : ByteArray := prog_11_method_68_code
def yJ5_isLatin1_aae02 : MethodName := ⟨RJ5, "isLatin1", "()Z"⟩
abbrev cJ5_inflateIfNeededFor_a7421 : ByteArray := prog_11_method_71_code
def yJ5_inflateIfNeededFor_a7421 : MethodName := ⟨RJ5, "inflateIfNeededFor", "(Ljava/lang/String;)V"⟩
abbrev cJ5_putStringAt_47b60 : ByteArray := prog_11_method_73_code
def yJ5_putStringAt_47b60 : MethodName := ⟨RJ5, "putStringAt", "(ILjava/lang/String;)V"⟩
def RJx2cfe8 : String := "java/lang/Appendable"
def TJx2cfe8 : u_T := fun k => match k with
  | _ => ("", "", "", false)
def tyJx2cfe8 : Nat → FieldType := fun k => match k with
  | _ => .int
abbrev wsJx2cfe80 : List Cond := u_ws RJx2cfe8 TJx2cfe8 0
theorem nmJx2cfe8 : ∀ a, a < 0 → ∀ b, b < 0 → a ≠ b → (TJx2cfe8 a).2.1 ≠ (TJx2cfe8 b).2.1 := by decide +kernel
theorem tyJx2cfe8_ok : ∀ k, k < 0 → parseFieldDescriptor (TJx2cfe8 k).2.2.1 = some (tyJx2cfe8 k) := by decide +kernel
def RJx9f9b0 : String := "java/lang/CharSequence"
def TJx9f9b0 : u_T := fun k => match k with
  | _ => ("", "", "", false)
def tyJx9f9b0 : Nat → FieldType := fun k => match k with
  | _ => .int
abbrev wsJx9f9b00 : List Cond := u_ws RJx9f9b0 TJx9f9b0 0
theorem nmJx9f9b0 : ∀ a, a < 0 → ∀ b, b < 0 → a ≠ b → (TJx9f9b0 a).2.1 ≠ (TJx9f9b0 b).2.1 := by decide +kernel
theorem tyJx9f9b0_ok : ∀ k, k < 0 → parseFieldDescriptor (TJx9f9b0 k).2.2.1 = some (tyJx9f9b0 k) := by decide +kernel
def RJx8e188 : String := "java/lang/Cloneable"
def TJx8e188 : u_T := fun k => match k with
  | _ => ("", "", "", false)
def tyJx8e188 : Nat → FieldType := fun k => match k with
  | _ => .int
abbrev wsJx8e1880 : List Cond := u_ws RJx8e188 TJx8e188 0
theorem nmJx8e188 : ∀ a, a < 0 → ∀ b, b < 0 → a ≠ b → (TJx8e188 a).2.1 ≠ (TJx8e188 b).2.1 := by decide +kernel
theorem tyJx8e188_ok : ∀ k, k < 0 → parseFieldDescriptor (TJx8e188 k).2.2.1 = some (tyJx8e188 k) := by decide +kernel
def RJxb160c : String := "java/lang/Comparable"
def TJxb160c : u_T := fun k => match k with
  | _ => ("", "", "", false)
def tyJxb160c : Nat → FieldType := fun k => match k with
  | _ => .int
abbrev wsJxb160c0 : List Cond := u_ws RJxb160c TJxb160c 0
theorem nmJxb160c : ∀ a, a < 0 → ∀ b, b < 0 → a ≠ b → (TJxb160c a).2.1 ≠ (TJxb160c b).2.1 := by decide +kernel
theorem tyJxb160c_ok : ∀ k, k < 0 → parseFieldDescriptor (TJxb160c k).2.2.1 = some (tyJxb160c k) := by decide +kernel
def RJxabbfe : String := "java/lang/Integer$IntegerCache"
def TJxabbfe : u_T := fun k => match k with
  | _ => ("", "", "", false)
def tyJxabbfe : Nat → FieldType := fun k => match k with
  | _ => .int
abbrev wsJxabbfe0 : List Cond := u_ws RJxabbfe TJxabbfe 0
theorem nmJxabbfe : ∀ a, a < 0 → ∀ b, b < 0 → a ≠ b → (TJxabbfe a).2.1 ≠ (TJxabbfe b).2.1 := by decide +kernel
theorem tyJxabbfe_ok : ∀ k, k < 0 → parseFieldDescriptor (TJxabbfe k).2.2.1 = some (tyJxabbfe k) := by decide +kernel
def RJ6 : String := "java/lang/Integer"
def TJ6 : u_T := fun k => match k with
  | _ => ("java/lang/Integer", "value", "I", true)
def tyJ6 : Nat → FieldType := fun k => match k with
  | _ => .int
abbrev wsJ60 : List Cond := u_ws RJ6 TJ6 1
theorem nmJ6 : ∀ a, a < 1 → ∀ b, b < 1 → a ≠ b → (TJ6 a).2.1 ≠ (TJ6 b).2.1 := by decide +kernel
theorem tyJ6_ok : ∀ k, k < 1 → parseFieldDescriptor (TJ6 k).2.2.1 = some (tyJ6 k) := by decide +kernel
abbrev cJ6_getChars_ba4f3 : ByteArray := prog_20_method_12_code
def yJ6_getChars_ba4f3 : MethodName := ⟨RJ6, "getChars", "(II[B)I"⟩
abbrev cJ6_stringSize_0f7a4 : ByteArray := prog_20_method_13_code
def yJ6_stringSize_0f7a4 : MethodName := ⟨RJ6, "stringSize", "(I)I"⟩
abbrev cJ6_valueOf_2dffe : ByteArray := prog_20_method_22_code
def yJ6_valueOf_2dffe : MethodName := ⟨RJ6, "valueOf", "(I)Ljava/lang/Integer;"⟩
abbrev cJ6_init_d00df : ByteArray := prog_20_method_23_code
def yJ6_init_d00df : MethodName := ⟨RJ6, "<init>", "(I)V"⟩
abbrev cJ6_intValue_8abf5 : ByteArray := prog_20_method_27_code
def yJ6_intValue_8abf5 : MethodName := ⟨RJ6, "intValue", "()I"⟩
def RJxab1ab : String := "java/lang/Iterable"
def TJxab1ab : u_T := fun k => match k with
  | _ => ("", "", "", false)
def tyJxab1ab : Nat → FieldType := fun k => match k with
  | _ => .int
abbrev wsJxab1ab0 : List Cond := u_ws RJxab1ab TJxab1ab 0
theorem nmJxab1ab : ∀ a, a < 0 → ∀ b, b < 0 → a ≠ b → (TJxab1ab a).2.1 ≠ (TJxab1ab b).2.1 := by decide +kernel
theorem tyJxab1ab_ok : ∀ k, k < 0 → parseFieldDescriptor (TJxab1ab k).2.2.1 = some (tyJxab1ab k) := by decide +kernel
def RJ9 : String := "java/lang/Math"
def TJ9 : u_T := fun k => match k with
  | _ => ("", "", "", false)
def tyJ9 : Nat → FieldType := fun k => match k with
  | _ => .int
abbrev wsJ90 : List Cond := u_ws RJ9 TJ9 0
theorem nmJ9 : ∀ a, a < 0 → ∀ b, b < 0 → a ≠ b → (TJ9 a).2.1 ≠ (TJ9 b).2.1 := by decide +kernel
theorem tyJ9_ok : ∀ k, k < 0 → parseFieldDescriptor (TJ9 k).2.2.1 = some (tyJ9 k) := by decide +kernel
abbrev cJ9_max_7cf53 : ByteArray := prog_23_method_65_code
def yJ9_max_7cf53 : MethodName := ⟨RJ9, "max", "(II)I"⟩
abbrev cJ9_min_7cf53 : ByteArray := prog_23_method_69_code
def yJ9_min_7cf53 : MethodName := ⟨RJ9, "min", "(II)I"⟩
def RJxd2413 : String := "java/lang/Number"
def TJxd2413 : u_T := fun k => match k with
  | _ => ("", "", "", false)
def tyJxd2413 : Nat → FieldType := fun k => match k with
  | _ => .int
abbrev wsJxd24130 : List Cond := u_ws RJxd2413 TJxd2413 0
theorem nmJxd2413 : ∀ a, a < 0 → ∀ b, b < 0 → a ≠ b → (TJxd2413 a).2.1 ≠ (TJxd2413 b).2.1 := by decide +kernel
theorem tyJxd2413_ok : ∀ k, k < 0 → parseFieldDescriptor (TJxd2413 k).2.2.1 = some (tyJxd2413 k) := by decide +kernel
abbrev cJxd2413_init_da8c8 : ByteArray := prog_24_method_1_code
def yJxd2413_init_da8c8 : MethodName := ⟨RJxd2413, "<init>", "()V"⟩
def RJ0 : String := "java/lang/String"
def TJ0 : u_T := fun k => match k with
  | 0 => ("java/lang/String", "value", "[B", true)
  | 1 => ("java/lang/String", "coder", "B", true)
  | 2 => ("java/lang/String", "hash", "I", false)
  | _ => ("java/lang/String", "hashIsZero", "Z", false)
def tyJ0 : Nat → FieldType := fun k => match k with
  | 0 => .array .byte
  | 1 => .byte
  | 2 => .int
  | _ => .boolean
abbrev wsJ00 : List Cond := u_ws RJ0 TJ0 4
theorem nmJ0 : ∀ a, a < 4 → ∀ b, b < 4 → a ≠ b → (TJ0 a).2.1 ≠ (TJ0 b).2.1 := by decide +kernel
theorem tyJ0_ok : ∀ k, k < 4 → parseFieldDescriptor (TJ0 k).2.2.1 = some (tyJ0 k) := by decide +kernel
abbrev cJ0_init_81219 : ByteArray := prog_26_method_53_code
def yJ0_init_81219 : MethodName := ⟨RJ0, "<init>", "(Ljava/lang/StringBuilder;)V"⟩
abbrev cJ0_length_8abf5 : ByteArray := prog_26_method_54_code
def yJ0_length_8abf5 : MethodName := ⟨RJ0, "length", "()I"⟩
abbrev cJ0_getBytes_840e7 : ByteArray := prog_26_method_147_code
def yJ0_getBytes_840e7 : MethodName := ⟨RJ0, "getBytes", "([BIB)V"⟩
abbrev cJ0_init_db425 : ByteArray := prog_26_method_150_code
def yJ0_init_db425 : MethodName := ⟨RJ0, "<init>", "(Ljava/lang/AbstractStringBuilder;Ljava/lang/Void;)V"⟩
abbrev cJ0_coder_7d493 : ByteArray := prog_26_method_152_code
def yJ0_coder_7d493 : MethodName := ⟨RJ0, "coder", "()B"⟩
abbrev cJ0_checkBoundsOffCount_cabcc : ByteArray := prog_26_method_157_code
def yJ0_checkBoundsOffCount_cabcc : MethodName := ⟨RJ0, "checkBoundsOffCount", "(III)I"⟩
abbrev cJ0_checkBoundsBeginEnd_23922 : ByteArray := prog_26_method_158_code
def yJ0_checkBoundsBeginEnd_23922 : MethodName := ⟨RJ0, "checkBoundsBeginEnd", "(III)V"⟩
def RJ4 : String := "java/lang/StringBuilder"
def TJ4 : u_T := fun k => match k with
  | 0 => ("java/lang/AbstractStringBuilder", "value", "[B", false)
  | 1 => ("java/lang/AbstractStringBuilder", "coder", "B", false)
  | 2 => ("java/lang/AbstractStringBuilder", "maybeLatin1", "Z", false)
  | _ => ("java/lang/AbstractStringBuilder", "count", "I", false)
def tyJ4 : Nat → FieldType := fun k => match k with
  | 0 => .array .byte
  | 1 => .byte
  | 2 => .boolean
  | _ => .int
abbrev wsJ40 : List Cond := u_ws RJ4 TJ4 4
theorem nmJ4 : ∀ a, a < 4 → ∀ b, b < 4 → a ≠ b → (TJ4 a).2.1 ≠ (TJ4 b).2.1 := by decide +kernel
theorem tyJ4_ok : ∀ k, k < 4 → parseFieldDescriptor (TJ4 k).2.2.1 = some (tyJ4 k) := by decide +kernel
abbrev cJ4_init_da8c8 : ByteArray := prog_27_method_1_code
def yJ4_init_da8c8 : MethodName := ⟨RJ4, "<init>", "()V"⟩
abbrev cJ4_append_15ec4 : ByteArray := prog_27_method_7_code
def yJ4_append_15ec4 : MethodName := ⟨RJ4, "append", "(Ljava/lang/String;)Ljava/lang/StringBuilder;"⟩
abbrev cJ4_append_bf812 : ByteArray := prog_27_method_15_code
def yJ4_append_bf812 : MethodName := ⟨RJ4, "append", "(I)Ljava/lang/StringBuilder;"⟩
abbrev cJ4_toString_0e30d : ByteArray := prog_27_method_42_code
def yJ4_toString_0e30d : MethodName := ⟨RJ4, "toString", "()Ljava/lang/String;"⟩
abbrev cJ4_length_8abf5 : ByteArray := prog_27_method_93_code
def yJ4_length_8abf5 : MethodName := ⟨RJ4, "length", "()I"⟩
def RJ1 : String := "java/lang/StringLatin1"
def TJ1 : u_T := fun k => match k with
  | _ => ("", "", "", false)
def tyJ1 : Nat → FieldType := fun k => match k with
  | _ => .int
abbrev wsJ10 : List Cond := u_ws RJ1 TJ1 0
theorem nmJ1 : ∀ a, a < 0 → ∀ b, b < 0 → a ≠ b → (TJ1 a).2.1 ≠ (TJ1 b).2.1 := by decide +kernel
theorem tyJ1_ok : ∀ k, k < 0 → parseFieldDescriptor (TJ1 k).2.2.1 = some (tyJ1 k) := by decide +kernel
abbrev cJ1_inflate_0e8fd : ByteArray := prog_28_method_50_code
def yJ1_inflate_0e8fd : MethodName := ⟨RJ1, "inflate", "([BI[BII)V"⟩
def RJ2 : String := "java/lang/StringUTF16"
def TJ2 : u_T := fun k => match k with
  | _ => ("", "", "", false)
def tyJ2 : Nat → FieldType := fun k => match k with
  | _ => .int
abbrev wsJ20 : List Cond := u_ws RJ2 TJ2 0
theorem nmJ2 : ∀ a, a < 0 → ∀ b, b < 0 → a ≠ b → (TJ2 a).2.1 ≠ (TJ2 b).2.1 := by decide +kernel
theorem tyJ2_ok : ∀ k, k < 0 → parseFieldDescriptor (TJ2 k).2.2.1 = some (tyJ2 k) := by decide +kernel
abbrev cJ2_newBytesFor_77867 : ByteArray := prog_29_method_2_code
def yJ2_newBytesFor_77867 : MethodName := ⟨RJ2, "newBytesFor", "(I)[B"⟩
abbrev cJ2_newBytesLength_0f7a4 : ByteArray := prog_29_method_3_code
def yJ2_newBytesLength_0f7a4 : MethodName := ⟨RJ2, "newBytesLength", "(I)I"⟩
abbrev cJ2_putChar_b72d1 : ByteArray := prog_29_method_4_code
def yJ2_putChar_b72d1 : MethodName := ⟨RJ2, "putChar", "([BII)V"⟩
abbrev cJ2_getChar_3b067 : ByteArray := prog_29_method_5_code
def yJ2_getChar_3b067 : MethodName := ⟨RJ2, "getChar", "([BI)C"⟩
abbrev cJ2_length_9d52b : ByteArray := prog_29_method_6_code
def yJ2_length_9d52b : MethodName := ⟨RJ2, "length", "([B)I"⟩
abbrev cJ2_coderFromArrayLen_85cad : ByteArray := prog_29_method_15_code
def yJ2_coderFromArrayLen_85cad : MethodName := ⟨RJ2, "coderFromArrayLen", "([BI)B"⟩
abbrev cJ2_compress_39247 : ByteArray := prog_29_method_17_code
def yJ2_compress_39247 : MethodName := ⟨RJ2, "compress", "([BII)[B"⟩
abbrev cJ2_compress_5af95 : ByteArray := prog_29_method_22_code
def yJ2_compress_5af95 : MethodName := ⟨RJ2, "compress", "([BI[BII)I"⟩
abbrev cJ2_getChars_46870 : ByteArray := prog_29_method_77_code
def yJ2_getChars_46870 : MethodName := ⟨RJ2, "getChars", "(III[B)I"⟩
abbrev cJ2_putCharsAt_cd4e5 : ByteArray := prog_29_method_81_code
def yJ2_putCharsAt_cd4e5 : MethodName := ⟨RJ2, "putCharsAt", "([BICCCC)I"⟩
abbrev cJ2_inflate_0e8fd : ByteArray := prog_29_method_86_code
def yJ2_inflate_0e8fd : MethodName := ⟨RJ2, "inflate", "([BI[BII)V"⟩
abbrev cJ2_getChars_ba4f3 : ByteArray := prog_29_method_89_code
def yJ2_getChars_ba4f3 : MethodName := ⟨RJ2, "getChars", "(II[B)I"⟩
abbrev cJ2_checkBoundsBeginEnd_d044e : ByteArray := prog_29_method_93_code
def yJ2_checkBoundsBeginEnd_d044e : MethodName := ⟨RJ2, "checkBoundsBeginEnd", "(II[B)V"⟩
abbrev cJ2_checkBoundsOffCount_d044e : ByteArray := prog_29_method_94_code
def yJ2_checkBoundsOffCount_d044e : MethodName := ⟨RJ2, "checkBoundsOffCount", "(II[B)V"⟩
def RJ10 : String := "java/lang/System"
def TJ10 : u_T := fun k => match k with
  | _ => ("", "", "", false)
def tyJ10 : Nat → FieldType := fun k => match k with
  | _ => .int
abbrev wsJ100 : List Cond := u_ws RJ10 TJ10 0
theorem nmJ10 : ∀ a, a < 0 → ∀ b, b < 0 → a ≠ b → (TJ10 a).2.1 ≠ (TJ10 b).2.1 := by decide +kernel
theorem tyJ10_ok : ∀ k, k < 0 → parseFieldDescriptor (TJ10 k).2.2.1 = some (tyJ10 k) := by decide +kernel
def RJxfd54e : String := "java/lang/constant/Constable"
def TJxfd54e : u_T := fun k => match k with
  | _ => ("", "", "", false)
def tyJxfd54e : Nat → FieldType := fun k => match k with
  | _ => .int
abbrev wsJxfd54e0 : List Cond := u_ws RJxfd54e TJxfd54e 0
theorem nmJxfd54e : ∀ a, a < 0 → ∀ b, b < 0 → a ≠ b → (TJxfd54e a).2.1 ≠ (TJxfd54e b).2.1 := by decide +kernel
theorem tyJxfd54e_ok : ∀ k, k < 0 → parseFieldDescriptor (TJxfd54e k).2.2.1 = some (tyJxfd54e k) := by decide +kernel
def RJx3cf43 : String := "java/lang/constant/ConstantDesc"
def TJx3cf43 : u_T := fun k => match k with
  | _ => ("", "", "", false)
def tyJx3cf43 : Nat → FieldType := fun k => match k with
  | _ => .int
abbrev wsJx3cf430 : List Cond := u_ws RJx3cf43 TJx3cf43 0
theorem nmJx3cf43 : ∀ a, a < 0 → ∀ b, b < 0 → a ≠ b → (TJx3cf43 a).2.1 ≠ (TJx3cf43 b).2.1 := by decide +kernel
theorem tyJx3cf43_ok : ∀ k, k < 0 → parseFieldDescriptor (TJx3cf43 k).2.2.1 = some (tyJx3cf43 k) := by decide +kernel
def RJxa1e45 : String := "java/util/AbstractCollection"
def TJxa1e45 : u_T := fun k => match k with
  | _ => ("", "", "", false)
def tyJxa1e45 : Nat → FieldType := fun k => match k with
  | _ => .int
abbrev wsJxa1e450 : List Cond := u_ws RJxa1e45 TJxa1e45 0
theorem nmJxa1e45 : ∀ a, a < 0 → ∀ b, b < 0 → a ≠ b → (TJxa1e45 a).2.1 ≠ (TJxa1e45 b).2.1 := by decide +kernel
theorem tyJxa1e45_ok : ∀ k, k < 0 → parseFieldDescriptor (TJxa1e45 k).2.2.1 = some (tyJxa1e45 k) := by decide +kernel
abbrev cJxa1e45_init_da8c8 : ByteArray := prog_34_method_1_code
def yJxa1e45_init_da8c8 : MethodName := ⟨RJxa1e45, "<init>", "()V"⟩
def RJxc12de : String := "java/util/AbstractList"
def TJxc12de : u_T := fun k => match k with
  | _ => ("", "", "", false)
def tyJxc12de : Nat → FieldType := fun k => match k with
  | _ => .int
abbrev wsJxc12de0 : List Cond := u_ws RJxc12de TJxc12de 0
theorem nmJxc12de : ∀ a, a < 0 → ∀ b, b < 0 → a ≠ b → (TJxc12de a).2.1 ≠ (TJxc12de b).2.1 := by decide +kernel
theorem tyJxc12de_ok : ∀ k, k < 0 → parseFieldDescriptor (TJxc12de k).2.2.1 = some (tyJxc12de k) := by decide +kernel
abbrev cJxc12de_init_da8c8 : ByteArray := prog_35_method_1_code
def yJxc12de_init_da8c8 : MethodName := ⟨RJxc12de, "<init>", "()V"⟩
def RJx35411 : String := "java/util/ArrayList$Itr"
def TJx35411 : u_T := fun k => match k with
  | 0 => ("java/util/ArrayList$Itr", "cursor", "I", false)
  | 1 => ("java/util/ArrayList$Itr", "lastRet", "I", false)
  | 2 => ("java/util/ArrayList$Itr", "expectedModCount", "I", false)
  | _ => ("java/util/ArrayList$Itr", "this$0", "Ljava/util/ArrayList;", true)
def tyJx35411 : Nat → FieldType := fun k => match k with
  | 0 => .int
  | 1 => .int
  | 2 => .int
  | _ => .object "java/util/ArrayList"
abbrev wsJx354110 : List Cond := u_ws RJx35411 TJx35411 4
theorem nmJx35411 : ∀ a, a < 4 → ∀ b, b < 4 → a ≠ b → (TJx35411 a).2.1 ≠ (TJx35411 b).2.1 := by decide +kernel
theorem tyJx35411_ok : ∀ k, k < 4 → parseFieldDescriptor (TJx35411 k).2.2.1 = some (tyJx35411 k) := by decide +kernel
abbrev cJx35411_init_45d68 : ByteArray := prog_37_method_1_code
def yJx35411_init_45d68 : MethodName := ⟨RJx35411, "<init>", "(Ljava/util/ArrayList;)V"⟩
abbrev cJx35411_hasNext_aae02 : ByteArray := prog_37_method_2_code
def yJx35411_hasNext_aae02 : MethodName := ⟨RJx35411, "hasNext", "()Z"⟩
abbrev cJx35411_next_0502b : ByteArray := prog_37_method_3_code
def yJx35411_next_0502b : MethodName := ⟨RJx35411, "next", "()Ljava/lang/Object;"⟩
abbrev cJx35411_checkForComodification_da8c8 : ByteArray := prog_37_method_6_code
def yJx35411_checkForComodification_da8c8 : MethodName := ⟨RJx35411, "checkForComodification", "()V"⟩
def RJx4a65c : String := "java/util/ArrayList"
def TJx4a65c : u_T := fun k => match k with
  | 0 => ("java/util/AbstractList", "modCount", "I", false)
  | 1 => ("java/util/ArrayList", "elementData", "[Ljava/lang/Object;", false)
  | _ => ("java/util/ArrayList", "size", "I", false)
def tyJx4a65c : Nat → FieldType := fun k => match k with
  | 0 => .int
  | 1 => .array (.object "java/lang/Object")
  | _ => .int
abbrev wsJx4a65c0 : List Cond := u_ws RJx4a65c TJx4a65c 3
theorem nmJx4a65c : ∀ a, a < 3 → ∀ b, b < 3 → a ≠ b → (TJx4a65c a).2.1 ≠ (TJx4a65c b).2.1 := by decide +kernel
theorem tyJx4a65c_ok : ∀ k, k < 3 → parseFieldDescriptor (TJx4a65c k).2.2.1 = some (tyJx4a65c k) := by decide +kernel
abbrev cJx4a65c_init_da8c8 : ByteArray := prog_36_method_2_code
def yJx4a65c_init_da8c8 : MethodName := ⟨RJx4a65c, "<init>", "()V"⟩
abbrev cJx4a65c_grow_92f84 : ByteArray := prog_36_method_6_code
def yJx4a65c_grow_92f84 : MethodName := ⟨RJx4a65c, "grow", "(I)[Ljava/lang/Object;"⟩
abbrev cJx4a65c_grow_d5877 : ByteArray := prog_36_method_7_code
def yJx4a65c_grow_d5877 : MethodName := ⟨RJx4a65c, "grow", "()[Ljava/lang/Object;"⟩
abbrev cJx4a65c_size_8abf5 : ByteArray := prog_36_method_8_code
def yJx4a65c_size_8abf5 : MethodName := ⟨RJx4a65c, "size", "()I"⟩
abbrev cJx4a65c_elementData_915e3 : ByteArray := prog_36_method_18_code
def yJx4a65c_elementData_915e3 : MethodName := ⟨RJx4a65c, "elementData", "(I)Ljava/lang/Object;"⟩
abbrev cJx4a65c_get_915e3 : ByteArray := prog_36_method_20_code
def yJx4a65c_get_915e3 : MethodName := ⟨RJx4a65c, "get", "(I)Ljava/lang/Object;"⟩
abbrev cJx4a65c_add_72be8 : ByteArray := prog_36_method_24_code
def yJx4a65c_add_72be8 : MethodName := ⟨RJx4a65c, "add", "(Ljava/lang/Object;[Ljava/lang/Object;I)V"⟩
abbrev cJx4a65c_add_9ea2d : ByteArray := prog_36_method_25_code
def yJx4a65c_add_9ea2d : MethodName := ⟨RJx4a65c, "add", "(Ljava/lang/Object;)Z"⟩
abbrev cJx4a65c_iterator_32c93 : ByteArray := prog_36_method_55_code
def yJx4a65c_iterator_32c93 : MethodName := ⟨RJx4a65c, "iterator", "()Ljava/util/Iterator;"⟩
def RJ7 : String := "java/util/Arrays"
def TJ7 : u_T := fun k => match k with
  | _ => ("", "", "", false)
def tyJ7 : Nat → FieldType := fun k => match k with
  | _ => .int
abbrev wsJ70 : List Cond := u_ws RJ7 TJ7 0
theorem nmJ7 : ∀ a, a < 0 → ∀ b, b < 0 → a ≠ b → (TJ7 a).2.1 ≠ (TJ7 b).2.1 := by decide +kernel
theorem tyJ7_ok : ∀ k, k < 0 → parseFieldDescriptor (TJ7 k).2.2.1 = some (tyJ7 k) := by decide +kernel
abbrev cJ7_sort_2022b : ByteArray := prog_38_method_2_code
def yJ7_sort_2022b : MethodName := ⟨RJ7, "sort", "([I)V"⟩
abbrev cJ7_copyOf_1904c : ByteArray := prog_38_method_119_code
def yJ7_copyOf_1904c : MethodName := ⟨RJ7, "copyOf", "([Ljava/lang/Object;I)[Ljava/lang/Object;"⟩
abbrev cJ7_copyOf_6403c : ByteArray := prog_38_method_120_code
def yJ7_copyOf_6403c : MethodName := ⟨RJ7, "copyOf", "([Ljava/lang/Object;ILjava/lang/Class;)[Ljava/lang/Object;"⟩
abbrev cJ7_copyOf_9075b : ByteArray := prog_38_method_121_code
def yJ7_copyOf_9075b : MethodName := ⟨RJ7, "copyOf", "([BI)[B"⟩
abbrev cJ7_copyOf_59c91 : ByteArray := prog_38_method_123_code
def yJ7_copyOf_59c91 : MethodName := ⟨RJ7, "copyOf", "([II)[I"⟩
abbrev cJ7_checkLength_df160 : ByteArray := prog_38_method_131_code
def yJ7_checkLength_df160 : MethodName := ⟨RJ7, "checkLength", "(II)V"⟩
abbrev cJ7_copyOfRange_39247 : ByteArray := prog_38_method_132_code
def yJ7_copyOfRange_39247 : MethodName := ⟨RJ7, "copyOfRange", "([BII)[B"⟩
abbrev cJ7_copyOfRangeByte_39247 : ByteArray := prog_38_method_133_code
def yJ7_copyOfRangeByte_39247 : MethodName := ⟨RJ7, "copyOfRangeByte", "([BII)[B"⟩
abbrev cJ7_copyOfRange_feecc : ByteArray := prog_38_method_136_code
def yJ7_copyOfRange_feecc : MethodName := ⟨RJ7, "copyOfRange", "([III)[I"⟩
abbrev cJ7_copyOfRangeInt_feecc : ByteArray := prog_38_method_137_code
def yJ7_copyOfRangeInt_feecc : MethodName := ⟨RJ7, "copyOfRangeInt", "([III)[I"⟩
def RJx5ef63 : String := "java/util/Collection"
def TJx5ef63 : u_T := fun k => match k with
  | _ => ("", "", "", false)
def tyJx5ef63 : Nat → FieldType := fun k => match k with
  | _ => .int
abbrev wsJx5ef630 : List Cond := u_ws RJx5ef63 TJx5ef63 0
theorem nmJx5ef63 : ∀ a, a < 0 → ∀ b, b < 0 → a ≠ b → (TJx5ef63 a).2.1 ≠ (TJx5ef63 b).2.1 := by decide +kernel
theorem tyJx5ef63_ok : ∀ k, k < 0 → parseFieldDescriptor (TJx5ef63 k).2.2.1 = some (tyJx5ef63 k) := by decide +kernel
def RX8 : String := "java/util/DualPivotQuicksort"
def TX8 : u_T := fun k => match k with
  | _ => ("", "", "", false)
def tyX8 : Nat → FieldType := fun k => match k with
  | _ => .int
abbrev wsX80 : List Cond := u_ws RX8 TX8 0
theorem nmX8 : ∀ a, a < 0 → ∀ b, b < 0 → a ≠ b → (TX8 a).2.1 ≠ (TX8 b).2.1 := by decide +kernel
theorem tyX8_ok : ∀ k, k < 0 → parseFieldDescriptor (TX8 k).2.2.1 = some (tyX8 k) := by decide +kernel
abbrev cX8_sort : ByteArray := prog_40_method_3_code
def yX8_sort : MethodName := ⟨RX8, "sort", "([IIII)V"⟩
abbrev cX8_sort_ : ByteArray := prog_40_method_4_code
def yX8_sort_ : MethodName := ⟨RX8, "sort", "(Ljava/util/DualPivotQuicksort$Sorter;[IIII)V"⟩
abbrev cX8_mixedInsertionSort : ByteArray := prog_40_method_5_code
def yX8_mixedInsertionSort : MethodName := ⟨RX8, "mixedInsertionSort", "([IIII)V"⟩
abbrev cX8_insertionSort : ByteArray := prog_40_method_6_code
def yX8_insertionSort : MethodName := ⟨RX8, "insertionSort", "([III)V"⟩
abbrev cX8_heapSort : ByteArray := prog_40_method_7_code
def yX8_heapSort : MethodName := ⟨RX8, "heapSort", "([III)V"⟩
abbrev cX8_pushDown : ByteArray := prog_40_method_8_code
def yX8_pushDown : MethodName := ⟨RX8, "pushDown", "([IIIII)V"⟩
abbrev cX8_tryMergeRuns : ByteArray := prog_40_method_9_code
def yX8_tryMergeRuns : MethodName := ⟨RX8, "tryMergeRuns", "(Ljava/util/DualPivotQuicksort$Sorter;[III)Z"⟩
abbrev cX8_mergeRuns : ByteArray := prog_40_method_10_code
def yX8_mergeRuns : MethodName := ⟨RX8, "mergeRuns", "([I[IIIZ[III)[I"⟩
abbrev cX8_mergeParts : ByteArray := prog_40_method_11_code
def yX8_mergeParts : MethodName := ⟨RX8, "mergeParts", "(Ljava/util/DualPivotQuicksort$Merger;[II[III[III)V"⟩
def RJx4d0d8 : String := "java/util/Iterator"
def TJx4d0d8 : u_T := fun k => match k with
  | _ => ("", "", "", false)
def tyJx4d0d8 : Nat → FieldType := fun k => match k with
  | _ => .int
abbrev wsJx4d0d80 : List Cond := u_ws RJx4d0d8 TJx4d0d8 0
theorem nmJx4d0d8 : ∀ a, a < 0 → ∀ b, b < 0 → a ≠ b → (TJx4d0d8 a).2.1 ≠ (TJx4d0d8 b).2.1 := by decide +kernel
theorem tyJx4d0d8_ok : ∀ k, k < 0 → parseFieldDescriptor (TJx4d0d8 k).2.2.1 = some (tyJx4d0d8 k) := by decide +kernel
def RJxbd725 : String := "java/util/List"
def TJxbd725 : u_T := fun k => match k with
  | _ => ("", "", "", false)
def tyJxbd725 : Nat → FieldType := fun k => match k with
  | _ => .int
abbrev wsJxbd7250 : List Cond := u_ws RJxbd725 TJxbd725 0
theorem nmJxbd725 : ∀ a, a < 0 → ∀ b, b < 0 → a ≠ b → (TJxbd725 a).2.1 ≠ (TJxbd725 b).2.1 := by decide +kernel
theorem tyJxbd725_ok : ∀ k, k < 0 → parseFieldDescriptor (TJxbd725 k).2.2.1 = some (tyJxbd725 k) := by decide +kernel
def RJ15 : String := "java/util/Objects"
def TJ15 : u_T := fun k => match k with
  | _ => ("", "", "", false)
def tyJ15 : Nat → FieldType := fun k => match k with
  | _ => .int
abbrev wsJ150 : List Cond := u_ws RJ15 TJ15 0
theorem nmJ15 : ∀ a, a < 0 → ∀ b, b < 0 → a ≠ b → (TJ15 a).2.1 ≠ (TJ15 b).2.1 := by decide +kernel
theorem tyJ15_ok : ∀ k, k < 0 → parseFieldDescriptor (TJ15 k).2.2.1 = some (tyJ15 k) := by decide +kernel
abbrev cJ15_checkIndex_7cf53 : ByteArray := prog_43_method_17_code
def yJ15_checkIndex_7cf53 : MethodName := ⟨RJ15, "checkIndex", "(II)I"⟩
def RJxf0a74 : String := "java/util/RandomAccess"
def TJxf0a74 : u_T := fun k => match k with
  | _ => ("", "", "", false)
def tyJxf0a74 : Nat → FieldType := fun k => match k with
  | _ => .int
abbrev wsJxf0a740 : List Cond := u_ws RJxf0a74 TJxf0a74 0
theorem nmJxf0a74 : ∀ a, a < 0 → ∀ b, b < 0 → a ≠ b → (TJxf0a74 a).2.1 ≠ (TJxf0a74 b).2.1 := by decide +kernel
theorem tyJxf0a74_ok : ∀ k, k < 0 → parseFieldDescriptor (TJxf0a74 k).2.2.1 = some (tyJxf0a74 k) := by decide +kernel
def RJxa66e6 : String := "java/util/SequencedCollection"
def TJxa66e6 : u_T := fun k => match k with
  | _ => ("", "", "", false)
def tyJxa66e6 : Nat → FieldType := fun k => match k with
  | _ => .int
abbrev wsJxa66e60 : List Cond := u_ws RJxa66e6 TJxa66e6 0
theorem nmJxa66e6 : ∀ a, a < 0 → ∀ b, b < 0 → a ≠ b → (TJxa66e6 a).2.1 ≠ (TJxa66e6 b).2.1 := by decide +kernel
theorem tyJxa66e6_ok : ∀ k, k < 0 → parseFieldDescriptor (TJxa66e6 k).2.2.1 = some (tyJxa66e6 k) := by decide +kernel
def RJ8 : String := "jdk/internal/util/ArraysSupport"
def TJ8 : u_T := fun k => match k with
  | _ => ("", "", "", false)
def tyJ8 : Nat → FieldType := fun k => match k with
  | _ => .int
abbrev wsJ80 : List Cond := u_ws RJ8 TJ8 0
theorem nmJ8 : ∀ a, a < 0 → ∀ b, b < 0 → a ≠ b → (TJ8 a).2.1 ≠ (TJ8 b).2.1 := by decide +kernel
theorem tyJ8_ok : ∀ k, k < 0 → parseFieldDescriptor (TJ8 k).2.2.1 = some (tyJ8 k) := by decide +kernel
abbrev cJ8_newLength_cabcc : ByteArray := prog_46_method_27_code
def yJ8_newLength_cabcc : MethodName := ⟨RJ8, "newLength", "(III)I"⟩
abbrev cJ8_hugeLength_7cf53 : ByteArray := prog_46_method_28_code
def yJ8_hugeLength_7cf53 : MethodName := ⟨RJ8, "hugeLength", "(II)I"⟩
def RJ3 : String := "jdk/internal/util/Preconditions"
def TJ3 : u_T := fun k => match k with
  | _ => ("", "", "", false)
def tyJ3 : Nat → FieldType := fun k => match k with
  | _ => .int
abbrev wsJ30 : List Cond := u_ws RJ3 TJ3 0
theorem nmJ3 : ∀ a, a < 0 → ∀ b, b < 0 → a ≠ b → (TJ3 a).2.1 ≠ (TJ3 b).2.1 := by decide +kernel
theorem tyJ3_ok : ∀ k, k < 0 → parseFieldDescriptor (TJ3 k).2.2.1 = some (tyJ3 k) := by decide +kernel
abbrev cJ3_checkIndex_8e157 : ByteArray := prog_47_method_11_code
def yJ3_checkIndex_8e157 : MethodName := ⟨RJ3, "checkIndex", "(IILjava/util/function/BiFunction;)I"⟩
abbrev cJ3_checkFromToIndex_8c36e : ByteArray := prog_47_method_12_code
def yJ3_checkFromToIndex_8c36e : MethodName := ⟨RJ3, "checkFromToIndex", "(IIILjava/util/function/BiFunction;)I"⟩
abbrev cJ3_checkFromIndexSize_8c36e : ByteArray := prog_47_method_13_code
def yJ3_checkFromIndexSize_8c36e : MethodName := ⟨RJ3, "checkFromIndexSize", "(IIILjava/util/function/BiFunction;)I"⟩
def RL : String := "RegressionCourtLaw"
abbrev cL_machine : ByteArray := method_3_code
def yL_machine : MethodName := ⟨RL, "machine", "(LRegressionCourt;II[J)I"⟩
abbrev cL_measure : ByteArray := method_4_code
def yL_measure : MethodName := ⟨RL, "measure", "(LRegressionCourt;II[J)I"⟩
abbrev cL_ofMachine : ByteArray := method_5_code
def yL_ofMachine : MethodName := ⟨RL, "ofMachine", "(LRegressionCourt;II[J)I"⟩
abbrev cL_changes : ByteArray := method_6_code
def yL_changes : MethodName := ⟨RL, "changes", "(LRegressionCourt;I[J)I"⟩
abbrev cL_run : ByteArray := method_7_code
def yL_run : MethodName := ⟨RL, "run", "(LRegressionCourt;III[J)I"⟩
abbrev cL_strike : ByteArray := method_8_code
def yL_strike : MethodName := ⟨RL, "strike", "(LRegressionCourt;I[J)I"⟩
abbrev cL_ofRun : ByteArray := method_9_code
def yL_ofRun : MethodName := ⟨RL, "ofRun", "(LRegressionCourt;II[J)I"⟩
abbrev cL_ofChange : ByteArray := method_10_code
def yL_ofChange : MethodName := ⟨RL, "ofChange", "(LRegressionCourt;II[J)I"⟩
abbrev cL_verdict : ByteArray := method_11_code
def yL_verdict : MethodName := ⟨RL, "verdict", "(LRegressionCourt;III[J)I"⟩
abbrev cL_doubt : ByteArray := method_12_code
def yL_doubt : MethodName := ⟨RL, "doubt", "(LRegressionCourt;II[D)I"⟩
abbrev cL_rule : ByteArray := method_13_code
def yL_rule : MethodName := ⟨RL, "rule", "(LRegressionCourt;II[J)I"⟩
abbrev cL_begin : ByteArray := method_14_code
def yL_begin : MethodName := ⟨RL, "begin", "(LRegressionCourt;II[J)I"⟩
abbrev cL_drop : ByteArray := method_15_code
def yL_drop : MethodName := ⟨RL, "drop", "(LRegressionCourt;[J)I"⟩
abbrev cL_ofCase : ByteArray := method_16_code
def yL_ofCase : MethodName := ⟨RL, "ofCase", "(LRegressionCourt;I[J)I"⟩
abbrev cL_excuse : ByteArray := method_17_code
def yL_excuse : MethodName := ⟨RL, "excuse", "(LRegressionCourt;II[J)I"⟩
abbrev cL_budget : ByteArray := method_18_code
def yL_budget : MethodName := ⟨RL, "budget", "(LRegressionCourt;I[J)I"⟩
abbrev cL_many : ByteArray := method_19_code
def yL_many : MethodName := ⟨RL, "many", "(LRegressionCourt;I[J)I"⟩
abbrev cL_minutesFor : ByteArray := method_20_code
def yL_minutesFor : MethodName := ⟨RL, "minutesFor", "(LRegressionCourt;I[J)I"⟩
abbrev cL_verdictWith : ByteArray := method_21_code
def yL_verdictWith : MethodName := ⟨RL, "verdictWith", "(LRegressionCourt;III[J)I"⟩
abbrev cL_without : ByteArray := method_22_code
def yL_without : MethodName := ⟨RL, "without", "(LRegressionCourt;I[J)I"⟩
abbrev cL_law : ByteArray := code
def yL_law : MethodName := ⟨RL, "law", "([I)Z"⟩
abbrev vwCl : List vw_C := [(RJ0, TJ0, 4), (RJ4, TJ4, 4), (RJ6, TJ6, 1), (RJx35411, TJx35411, 4), (RJx4a65c, TJx4a65c, 3), (RX0, TX0, 4), (RX1, TX1, 3), (RX2, TX2, 10), (RX3, TX3, 8), (RX4, TX4, 5), (RX5, TX5, 2), (RX6, TX6, 13), (RX7, TX7, 17)]
