def RX0 : String := "HeatBranches$Boilers"
def TX0 : u_T := fun k => match k with
  | 0 => ("HeatBranches$Boilers", "capacity", "[I", true)
  | 1 => ("HeatBranches$Boilers", "least", "[I", true)
  | 2 => ("HeatBranches$Boilers", "cost", "[I", true)
  | _ => ("HeatBranches$Boilers", "count", "I", false)
def tyX0 : Nat → FieldType := fun k => match k with
  | 0 => .array .int
  | 1 => .array .int
  | 2 => .array .int
  | _ => .int
theorem nmX0 : ∀ a, a < 4 → ∀ b, b < 4 → a ≠ b → (TX0 a).2.1 ≠ (TX0 b).2.1 := by decide +kernel
theorem tyX0_ok : ∀ k, k < 4 → parseFieldDescriptor (TX0 k).2.2.1 = some (tyX0 k) := by decide +kernel
abbrev cX0_init : ByteArray := prog_2_method_1_code
def yX0_init : MethodName := ⟨RX0, "<init>", "()V"⟩
abbrev cX0_install : ByteArray := prog_2_method_2_code
def yX0_install : MethodName := ⟨RX0, "install", "(III)I"⟩
abbrev cX0_copyFrom : ByteArray := prog_2_method_3_code
def yX0_copyFrom : MethodName := ⟨RX0, "copyFrom", "(LHeatBranches$Boilers;)V"⟩
abbrev cX0_placeOf : ByteArray := prog_2_method_4_code
def yX0_placeOf : MethodName := ⟨RX0, "placeOf", "(I)I"⟩
abbrev cX0_atPlace : ByteArray := prog_2_method_5_code
def yX0_atPlace : MethodName := ⟨RX0, "atPlace", "(I)I"⟩
def RX1 : String := "HeatBranches$History"
def TX1 : u_T := fun k => match k with
  | 0 => ("HeatBranches$History", "saved", "[LHeatBranches$State;", true)
  | 1 => ("HeatBranches$History", "oldest", "I", false)
  | _ => ("HeatBranches$History", "count", "I", false)
def tyX1 : Nat → FieldType := fun k => match k with
  | 0 => .array (.object "HeatBranches$State")
  | 1 => .int
  | _ => .int
theorem nmX1 : ∀ a, a < 3 → ∀ b, b < 3 → a ≠ b → (TX1 a).2.1 ≠ (TX1 b).2.1 := by decide +kernel
theorem tyX1_ok : ∀ k, k < 3 → parseFieldDescriptor (TX1 k).2.2.1 = some (tyX1 k) := by decide +kernel
abbrev cX1_init : ByteArray := prog_3_method_1_code
def yX1_init : MethodName := ⟨RX1, "<init>", "()V"⟩
abbrev cX1_slot : ByteArray := prog_3_method_2_code
def yX1_slot : MethodName := ⟨RX1, "slot", "(I)LHeatBranches$State;"⟩
abbrev cX1_keep : ByteArray := prog_3_method_3_code
def yX1_keep : MethodName := ⟨RX1, "keep", "(LHeatBranches$State;)V"⟩
def RX2 : String := "HeatBranches$Hour"
def TX2 : u_T := fun k => match k with
  | 0 => ("HeatBranches$Hour", "flow", "[I", true)
  | 1 => ("HeatBranches$Hour", "warmth", "[I", true)
  | 2 => ("HeatBranches$Hour", "back", "[I", true)
  | 3 => ("HeatBranches$Hour", "load", "[I", true)
  | 4 => ("HeatBranches$Hour", "need", "I", false)
  | 5 => ("HeatBranches$Hour", "unmet", "I", false)
  | _ => ("HeatBranches$Hour", "costs", "I", false)
def tyX2 : Nat → FieldType := fun k => match k with
  | 0 => .array .int
  | 1 => .array .int
  | 2 => .array .int
  | 3 => .array .int
  | 4 => .int
  | 5 => .int
  | _ => .int
theorem nmX2 : ∀ a, a < 7 → ∀ b, b < 7 → a ≠ b → (TX2 a).2.1 ≠ (TX2 b).2.1 := by decide +kernel
theorem tyX2_ok : ∀ k, k < 7 → parseFieldDescriptor (TX2 k).2.2.1 = some (tyX2 k) := by decide +kernel
abbrev cX2_init : ByteArray := prog_4_method_1_code
def yX2_init : MethodName := ⟨RX2, "<init>", "()V"⟩
abbrev cX2_settle : ByteArray := prog_4_method_2_code
def yX2_settle : MethodName := ⟨RX2, "settle", "(LHeatBranches$State;I)V"⟩
abbrev cX2_settleFlows : ByteArray := prog_4_method_3_code
def yX2_settleFlows : MethodName := ⟨RX2, "settleFlows", "(LHeatBranches$Network;)V"⟩
abbrev cX2_settleWarmth : ByteArray := prog_4_method_4_code
def yX2_settleWarmth : MethodName := ⟨RX2, "settleWarmth", "(LHeatBranches$State;I)V"⟩
abbrev cX2_settleReturns : ByteArray := prog_4_method_5_code
def yX2_settleReturns : MethodName := ⟨RX2, "settleReturns", "(LHeatBranches$Network;)V"⟩
abbrev cX2_settleLoads : ByteArray := prog_4_method_6_code
def yX2_settleLoads : MethodName := ⟨RX2, "settleLoads", "(LHeatBranches$Boilers;)V"⟩
abbrev cX2_returnOf : ByteArray := prog_4_method_7_code
def yX2_returnOf : MethodName := ⟨RX2, "returnOf", "(LHeatBranches$Network;I)I"⟩
abbrev cX2_warmthAbove : ByteArray := prog_4_method_8_code
def yX2_warmthAbove : MethodName := ⟨RX2, "warmthAbove", "(LHeatBranches$Network;I)I"⟩
abbrev cX2_warmthBehind : ByteArray := prog_4_method_9_code
def yX2_warmthBehind : MethodName := ⟨RX2, "warmthBehind", "(IIII)I"⟩
abbrev cX2_addUpTheTree : ByteArray := prog_4_method_10_code
def yX2_addUpTheTree : MethodName := ⟨RX2, "addUpTheTree", "(LHeatBranches$Network;[I)V"⟩
def RX3 : String := "HeatBranches$Network"
def TX3 : u_T := fun k => match k with
  | 0 => ("HeatBranches$Network", "parent", "[I", true)
  | 1 => ("HeatBranches$Network", "length", "[I", true)
  | 2 => ("HeatBranches$Network", "looseness", "[I", true)
  | 3 => ("HeatBranches$Network", "draw", "[I", true)
  | 4 => ("HeatBranches$Network", "setting", "[I", true)
  | 5 => ("HeatBranches$Network", "leak", "[I", true)
  | 6 => ("HeatBranches$Network", "meter", "[I", true)
  | 7 => ("HeatBranches$Network", "account", "[I", true)
  | _ => ("HeatBranches$Network", "count", "I", false)
def tyX3 : Nat → FieldType := fun k => match k with
  | 0 => .array .int
  | 1 => .array .int
  | 2 => .array .int
  | 3 => .array .int
  | 4 => .array .int
  | 5 => .array .int
  | 6 => .array .int
  | 7 => .array .int
  | _ => .int
theorem nmX3 : ∀ a, a < 9 → ∀ b, b < 9 → a ≠ b → (TX3 a).2.1 ≠ (TX3 b).2.1 := by decide +kernel
theorem tyX3_ok : ∀ k, k < 9 → parseFieldDescriptor (TX3 k).2.2.1 = some (tyX3 k) := by decide +kernel
abbrev cX3_init : ByteArray := prog_5_method_1_code
def yX3_init : MethodName := ⟨RX3, "<init>", "()V"⟩
abbrev cX3_attach : ByteArray := prog_5_method_2_code
def yX3_attach : MethodName := ⟨RX3, "attach", "(IIIII)I"⟩
abbrev cX3_copyFrom : ByteArray := prog_5_method_3_code
def yX3_copyFrom : MethodName := ⟨RX3, "copyFrom", "(LHeatBranches$Network;)V"⟩
abbrev cX3_hasParent : ByteArray := prog_5_method_4_code
def yX3_hasParent : MethodName := ⟨RX3, "hasParent", "(I)Z"⟩
abbrev cX3_childrenOf : ByteArray := prog_5_method_5_code
def yX3_childrenOf : MethodName := ⟨RX3, "childrenOf", "(I)I"⟩
abbrev cX3_branchOf : ByteArray := prog_5_method_6_code
def yX3_branchOf : MethodName := ⟨RX3, "branchOf", "(I)I"⟩
abbrev cX3_meters : ByteArray := prog_5_method_7_code
def yX3_meters : MethodName := ⟨RX3, "meters", "()I"⟩
abbrev cX3_accounts : ByteArray := prog_5_method_8_code
def yX3_accounts : MethodName := ⟨RX3, "accounts", "()I"⟩
def RX4 : String := "HeatBranches$NetworkText"
def TX4 : u_T := fun k => match k with
  | 0 => ("HeatBranches$NetworkText", "bytes", "[I", true)
  | 1 => ("HeatBranches$NetworkText", "length", "I", false)
  | 2 => ("HeatBranches$NetworkText", "at", "I", false)
  | _ => ("HeatBranches$NetworkText", "fault", "I", false)
def tyX4 : Nat → FieldType := fun k => match k with
  | 0 => .array .int
  | 1 => .int
  | 2 => .int
  | _ => .int
theorem nmX4 : ∀ a, a < 4 → ∀ b, b < 4 → a ≠ b → (TX4 a).2.1 ≠ (TX4 b).2.1 := by decide +kernel
theorem tyX4_ok : ∀ k, k < 4 → parseFieldDescriptor (TX4 k).2.2.1 = some (tyX4 k) := by decide +kernel
abbrev cX4_init : ByteArray := prog_6_method_1_code
def yX4_init : MethodName := ⟨RX4, "<init>", "()V"⟩
def RX5 : String := "HeatBranches$Regions"
def TX5 : u_T := fun k => match k with
  | 0 => ("HeatBranches$Regions", "meter", "[I", true)
  | 1 => ("HeatBranches$Regions", "head", "[I", true)
  | 2 => ("HeatBranches$Regions", "inBranch", "[I", true)
  | 3 => ("HeatBranches$Regions", "size", "[I", true)
  | 4 => ("HeatBranches$Regions", "leaks", "[I", true)
  | _ => ("HeatBranches$Regions", "count", "I", false)
def tyX5 : Nat → FieldType := fun k => match k with
  | 0 => .array .int
  | 1 => .array .int
  | 2 => .array .int
  | 3 => .array .int
  | 4 => .array .int
  | _ => .int
theorem nmX5 : ∀ a, a < 6 → ∀ b, b < 6 → a ≠ b → (TX5 a).2.1 ≠ (TX5 b).2.1 := by decide +kernel
theorem tyX5_ok : ∀ k, k < 6 → parseFieldDescriptor (TX5 k).2.2.1 = some (tyX5 k) := by decide +kernel
abbrev cX5_init : ByteArray := prog_7_method_1_code
def yX5_init : MethodName := ⟨RX5, "<init>", "()V"⟩
abbrev cX5_takeMeters : ByteArray := prog_7_method_2_code
def yX5_takeMeters : MethodName := ⟨RX5, "takeMeters", "(LHeatBranches$Network;)V"⟩
abbrev cX5_settle : ByteArray := prog_7_method_4_code
def yX5_settle : MethodName := ⟨RX5, "settle", "(LHeatBranches$Network;)V"⟩
abbrev cX5_clearCounts : ByteArray := prog_7_method_5_code
def yX5_clearCounts : MethodName := ⟨RX5, "clearCounts", "()V"⟩
abbrev cX5_headAbove : ByteArray := prog_7_method_6_code
def yX5_headAbove : MethodName := ⟨RX5, "headAbove", "(LHeatBranches$Network;I)I"⟩
abbrev cX5_countBranches : ByteArray := prog_7_method_7_code
def yX5_countBranches : MethodName := ⟨RX5, "countBranches", "(LHeatBranches$Network;)V"⟩
abbrev cX5_hasMeter : ByteArray := prog_7_method_8_code
def yX5_hasMeter : MethodName := ⟨RX5, "hasMeter", "(I)Z"⟩
def RX6 : String := "HeatBranches$State"
def TX6 : u_T := fun k => match k with
  | 0 => ("HeatBranches$State", "network", "LHeatBranches$Network;", true)
  | 1 => ("HeatBranches$State", "boilers", "LHeatBranches$Boilers;", true)
  | 2 => ("HeatBranches$State", "supply", "I", false)
  | 3 => ("HeatBranches$State", "ground", "I", false)
  | 4 => ("HeatBranches$State", "price", "I", false)
  | 5 => ("HeatBranches$State", "mark", "I", false)
  | 6 => ("HeatBranches$State", "bonus", "I", false)
  | 7 => ("HeatBranches$State", "hours", "I", false)
  | _ => ("HeatBranches$State", "costs", "I", false)
def tyX6 : Nat → FieldType := fun k => match k with
  | 0 => .object "HeatBranches$Network"
  | 1 => .object "HeatBranches$Boilers"
  | 2 => .int
  | 3 => .int
  | 4 => .int
  | 5 => .int
  | 6 => .int
  | 7 => .int
  | _ => .int
theorem nmX6 : ∀ a, a < 9 → ∀ b, b < 9 → a ≠ b → (TX6 a).2.1 ≠ (TX6 b).2.1 := by decide +kernel
theorem tyX6_ok : ∀ k, k < 9 → parseFieldDescriptor (TX6 k).2.2.1 = some (tyX6 k) := by decide +kernel
abbrev cX6_init : ByteArray := prog_8_method_1_code
def yX6_init : MethodName := ⟨RX6, "<init>", "()V"⟩
abbrev cX6_copyFrom : ByteArray := prog_8_method_2_code
def yX6_copyFrom : MethodName := ⟨RX6, "copyFrom", "(LHeatBranches$State;)V"⟩
def RX7 : String := "HeatBranches"
def TX7 : u_T := fun k => match k with
  | 0 => ("HeatBranches", "now", "LHeatBranches$State;", true)
  | 1 => ("HeatBranches", "history", "LHeatBranches$History;", true)
  | 2 => ("HeatBranches", "text", "LHeatBranches$NetworkText;", true)
  | 3 => ("HeatBranches", "actual", "LHeatBranches$Hour;", true)
  | 4 => ("HeatBranches", "regions", "LHeatBranches$Regions;", true)
  | 5 => ("HeatBranches", "trial", "LHeatBranches$Hour;", true)
  | 6 => ("HeatBranches", "trialRegions", "LHeatBranches$Regions;", true)
  | 7 => ("HeatBranches", "parsed", "LHeatBranches$Network;", true)
  | _ => ("HeatBranches", "wishes", "[I", true)
def tyX7 : Nat → FieldType := fun k => match k with
  | 0 => .object "HeatBranches$State"
  | 1 => .object "HeatBranches$History"
  | 2 => .object "HeatBranches$NetworkText"
  | 3 => .object "HeatBranches$Hour"
  | 4 => .object "HeatBranches$Regions"
  | 5 => .object "HeatBranches$Hour"
  | 6 => .object "HeatBranches$Regions"
  | 7 => .object "HeatBranches$Network"
  | _ => .array .int
theorem nmX7 : ∀ a, a < 9 → ∀ b, b < 9 → a ≠ b → (TX7 a).2.1 ≠ (TX7 b).2.1 := by decide +kernel
theorem tyX7_ok : ∀ k, k < 9 → parseFieldDescriptor (TX7 k).2.2.1 = some (tyX7 k) := by decide +kernel
abbrev cX7_init : ByteArray := prog_1_method_1_code
def yX7_init : MethodName := ⟨RX7, "<init>", "()V"⟩
abbrev cX7_addNode : ByteArray := prog_1_method_2_code
def yX7_addNode : MethodName := ⟨RX7, "addNode", "(IIIII)I"⟩
abbrev cX7_setDraw : ByteArray := prog_1_method_3_code
def yX7_setDraw : MethodName := ⟨RX7, "setDraw", "(III)I"⟩
abbrev cX7_setLeak : ByteArray := prog_1_method_4_code
def yX7_setLeak : MethodName := ⟨RX7, "setLeak", "(II)I"⟩
abbrev cX7_setTemperatures : ByteArray := prog_1_method_5_code
def yX7_setTemperatures : MethodName := ⟨RX7, "setTemperatures", "(II)I"⟩
abbrev cX7_node : ByteArray := prog_1_method_6_code
def yX7_node : MethodName := ⟨RX7, "node", "(II)I"⟩
abbrev cX7_heat : ByteArray := prog_1_method_7_code
def yX7_heat : MethodName := ⟨RX7, "heat", "(II)I"⟩
abbrev cX7_value : ByteArray := prog_1_method_8_code
def yX7_value : MethodName := ⟨RX7, "value", "(I)I"⟩
abbrev cX7_sum : ByteArray := prog_1_method_9_code
def yX7_sum : MethodName := ⟨RX7, "sum", "(I)I"⟩
abbrev cX7_addBoiler : ByteArray := prog_1_method_10_code
def yX7_addBoiler : MethodName := ⟨RX7, "addBoiler", "(III)I"⟩
abbrev cX7_setCost : ByteArray := prog_1_method_11_code
def yX7_setCost : MethodName := ⟨RX7, "setCost", "(II)I"⟩
abbrev cX7_boiler : ByteArray := prog_1_method_12_code
def yX7_boiler : MethodName := ⟨RX7, "boiler", "(II)I"⟩
abbrev cX7_setTariff : ByteArray := prog_1_method_13_code
def yX7_setTariff : MethodName := ⟨RX7, "setTariff", "(III)I"⟩
abbrev cX7_pass : ByteArray := prog_1_method_14_code
def yX7_pass : MethodName := ⟨RX7, "pass", "(I)I"⟩
abbrev cX7_setMeter : ByteArray := prog_1_method_15_code
def yX7_setMeter : MethodName := ⟨RX7, "setMeter", "(IZ)I"⟩
abbrev cX7_efficiency : ByteArray := prog_1_method_25_code
def yX7_efficiency : MethodName := ⟨RX7, "efficiency", "()D"⟩
abbrev cX7_settle : ByteArray := prog_1_method_31_code
def yX7_settle : MethodName := ⟨RX7, "settle", "()V"⟩
abbrev cX7_requireNode : ByteArray := prog_1_method_32_code
def yX7_requireNode : MethodName := ⟨RX7, "requireNode", "(I)V"⟩
abbrev cX7_requirePipe : ByteArray := prog_1_method_33_code
def yX7_requirePipe : MethodName := ⟨RX7, "requirePipe", "(I)V"⟩
abbrev cX7_requireBoiler : ByteArray := prog_1_method_34_code
def yX7_requireBoiler : MethodName := ⟨RX7, "requireBoiler", "(I)V"⟩
abbrev cX7_requireWithin : ByteArray := prog_1_method_35_code
def yX7_requireWithin : MethodName := ⟨RX7, "requireWithin", "(III)V"⟩
abbrev cX7_nodeFact : ByteArray := prog_1_method_36_code
def yX7_nodeFact : MethodName := ⟨RX7, "nodeFact", "(II)I"⟩
abbrev cX7_heatOf : ByteArray := prog_1_method_37_code
def yX7_heatOf : MethodName := ⟨RX7, "heatOf", "(II)I"⟩
abbrev cX7_deliveredBy : ByteArray := prog_1_method_38_code
def yX7_deliveredBy : MethodName := ⟨RX7, "deliveredBy", "(I)I"⟩
abbrev cX7_billOf : ByteArray := prog_1_method_39_code
def yX7_billOf : MethodName := ⟨RX7, "billOf", "(I)I"⟩
abbrev cX7_number : ByteArray := prog_1_method_40_code
def yX7_number : MethodName := ⟨RX7, "number", "(I)I"⟩
abbrev cX7_sumOfHeats : ByteArray := prog_1_method_41_code
def yX7_sumOfHeats : MethodName := ⟨RX7, "sumOfHeats", "(I)I"⟩
abbrev cX7_boilerFact : ByteArray := prog_1_method_42_code
def yX7_boilerFact : MethodName := ⟨RX7, "boilerFact", "(II)I"⟩
abbrev cX7_copyRow : ByteArray := prog_1_method_49_code
def yX7_copyRow : MethodName := ⟨RX7, "copyRow", "([I[I)V"⟩
def RX8 : String := "HeatBranchesModel"
def TX8 : u_T := fun k => match k with
  | _ => ("", "", "", false)
def tyX8 : Nat → FieldType := fun k => match k with
  | _ => .int
theorem nmX8 : ∀ a, a < 0 → ∀ b, b < 0 → a ≠ b → (TX8 a).2.1 ≠ (TX8 b).2.1 := by decide +kernel
theorem tyX8_ok : ∀ k, k < 0 → parseFieldDescriptor (TX8 k).2.2.1 = some (tyX8 k) := by decide +kernel
def RJ6 : String := "java/lang/Integer"
def TJ6 : u_T := fun k => match k with
  | _ => ("", "", "", false)
def tyJ6 : Nat → FieldType := fun k => match k with
  | _ => .int
theorem nmJ6 : ∀ a, a < 0 → ∀ b, b < 0 → a ≠ b → (TJ6 a).2.1 ≠ (TJ6 b).2.1 := by decide +kernel
theorem tyJ6_ok : ∀ k, k < 0 → parseFieldDescriptor (TJ6 k).2.2.1 = some (tyJ6 k) := by decide +kernel
abbrev cJ6_bitCount_0f7a4 : ByteArray := prog_15_method_49_code
def yJ6_bitCount_0f7a4 : MethodName := ⟨RJ6, "bitCount", "(I)I"⟩
def RJ9 : String := "java/lang/Math"
def TJ9 : u_T := fun k => match k with
  | _ => ("", "", "", false)
def tyJ9 : Nat → FieldType := fun k => match k with
  | _ => .int
theorem nmJ9 : ∀ a, a < 0 → ∀ b, b < 0 → a ≠ b → (TJ9 a).2.1 ≠ (TJ9 b).2.1 := by decide +kernel
theorem tyJ9_ok : ∀ k, k < 0 → parseFieldDescriptor (TJ9 k).2.2.1 = some (tyJ9 k) := by decide +kernel
abbrev cJ9_max_7cf53 : ByteArray := prog_16_method_65_code
def yJ9_max_7cf53 : MethodName := ⟨RJ9, "max", "(II)I"⟩
abbrev cJ9_min_7cf53 : ByteArray := prog_16_method_69_code
def yJ9_min_7cf53 : MethodName := ⟨RJ9, "min", "(II)I"⟩
def RJ0 : String := "java/lang/String"
def TJ0 : u_T := fun k => match k with
  | _ => ("", "", "", false)
def tyJ0 : Nat → FieldType := fun k => match k with
  | _ => .int
theorem nmJ0 : ∀ a, a < 0 → ∀ b, b < 0 → a ≠ b → (TJ0 a).2.1 ≠ (TJ0 b).2.1 := by decide +kernel
theorem tyJ0_ok : ∀ k, k < 0 → parseFieldDescriptor (TJ0 k).2.2.1 = some (tyJ0 k) := by decide +kernel
def RJ10 : String := "java/lang/System"
def TJ10 : u_T := fun k => match k with
  | _ => ("", "", "", false)
def tyJ10 : Nat → FieldType := fun k => match k with
  | _ => .int
theorem nmJ10 : ∀ a, a < 0 → ∀ b, b < 0 → a ≠ b → (TJ10 a).2.1 ≠ (TJ10 b).2.1 := by decide +kernel
theorem tyJ10_ok : ∀ k, k < 0 → parseFieldDescriptor (TJ10 k).2.2.1 = some (tyJ10 k) := by decide +kernel
def RL : String := "HeatBranchesLaw"
abbrev cL_cell : ByteArray := method_2_code
def yL_cell : MethodName := ⟨RL, "cell", "([II)I"⟩
abbrev cL_low : ByteArray := method_3_code
def yL_low : MethodName := ⟨RL, "low", "(II)I"⟩
abbrev cL_below : ByteArray := method_4_code
def yL_below : MethodName := ⟨RL, "below", "([III)Z"⟩
abbrev cL_works : ByteArray := method_5_code
def yL_works : MethodName := ⟨RL, "works", "([I[I[I[I)V"⟩
abbrev cL_bill : ByteArray := method_6_code
def yL_bill : MethodName := ⟨RL, "bill", "([I[I[II)I"⟩
abbrev cL_begins : ByteArray := method_7_code
def yL_begins : MethodName := ⟨RL, "begins", "([I)V"⟩
abbrev cL_acts : ByteArray := method_8_code
def yL_acts : MethodName := ⟨RL, "acts", "(LHeatBranches;[I[I[I[II)Z"⟩
abbrev cL_adds : ByteArray := method_9_code
def yL_adds : MethodName := ⟨RL, "adds", "(LHeatBranches;IIIII)I"⟩
abbrev cL_draws : ByteArray := method_10_code
def yL_draws : MethodName := ⟨RL, "draws", "(LHeatBranches;III)I"⟩
abbrev cL_leaks : ByteArray := method_11_code
def yL_leaks : MethodName := ⟨RL, "leaks", "(LHeatBranches;II)I"⟩
abbrev cL_warms : ByteArray := method_12_code
def yL_warms : MethodName := ⟨RL, "warms", "(LHeatBranches;II)I"⟩
abbrev cL_boilers : ByteArray := method_13_code
def yL_boilers : MethodName := ⟨RL, "boilers", "(LHeatBranches;III)I"⟩
abbrev cL_costsOf : ByteArray := method_14_code
def yL_costsOf : MethodName := ⟨RL, "costsOf", "(LHeatBranches;II)I"⟩
abbrev cL_tariffs : ByteArray := method_15_code
def yL_tariffs : MethodName := ⟨RL, "tariffs", "(LHeatBranches;III)I"⟩
abbrev cL_passes : ByteArray := method_16_code
def yL_passes : MethodName := ⟨RL, "passes", "(LHeatBranches;I)I"⟩
abbrev cL_meters : ByteArray := method_17_code
def yL_meters : MethodName := ⟨RL, "meters", "(LHeatBranches;IZ)I"⟩
abbrev cL_nodeOf : ByteArray := method_18_code
def yL_nodeOf : MethodName := ⟨RL, "nodeOf", "(LHeatBranches;II)I"⟩
abbrev cL_heatOf : ByteArray := method_19_code
def yL_heatOf : MethodName := ⟨RL, "heatOf", "(LHeatBranches;II)I"⟩
abbrev cL_valueOf : ByteArray := method_20_code
def yL_valueOf : MethodName := ⟨RL, "valueOf", "(LHeatBranches;I)I"⟩
abbrev cL_sumOf : ByteArray := method_21_code
def yL_sumOf : MethodName := ⟨RL, "sumOf", "(LHeatBranches;I)I"⟩
abbrev cL_boilerOf : ByteArray := method_22_code
def yL_boilerOf : MethodName := ⟨RL, "boilerOf", "(LHeatBranches;II)I"⟩
abbrev cL_isSo : ByteArray := method_23_code
def yL_isSo : MethodName := ⟨RL, "isSo", "(LHeatBranches;[I[I[I[I)Z"⟩
abbrev cL_law : ByteArray := code
def yL_law : MethodName := ⟨RL, "law", "([I)Z"⟩
