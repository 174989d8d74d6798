/-! NAMES of the classes, their fields and methods, out of what TURN printed of the program (claim/NAMES.whole.lean.txt), without its word lists. -/
def RX0 : String := "GrainElevator$Bin"
def TX0 : u_T := fun k => match k with
  | 0 => ("GrainElevator$Bin", "capacity", "I", true)
  | 1 => ("GrainElevator$Bin", "isMassFlow", "Z", true)
  | 2 => ("GrainElevator$Bin", "bushels", "[I", true)
  | 3 => ("GrainElevator$Bin", "moistures", "[I", true)
  | 4 => ("GrainElevator$Bin", "foreigns", "[I", true)
  | 5 => ("GrainElevator$Bin", "grades", "[I", true)
  | 6 => ("GrainElevator$Bin", "oldest", "I", false)
  | 7 => ("GrainElevator$Bin", "count", "I", false)
  | _ => ("GrainElevator$Bin", "total", "I", false)
def tyX0 : Nat → FieldType := fun k => match k with
  | 0 => .int
  | 1 => .boolean
  | 2 => .array .int
  | 3 => .array .int
  | 4 => .array .int
  | 5 => .array .int
  | 6 => .int
  | 7 => .int
  | _ => .int
abbrev wsX00 : List Cond := u_ws RX0 TX0 9
theorem nmX0 : ∀ a, a < 9 → ∀ b, b < 9 → a ≠ b → (TX0 a).2.1 ≠ (TX0 b).2.1 := by decide +kernel
theorem tyX0_ok : ∀ k, k < 9 → parseFieldDescriptor (TX0 k).2.2.1 = some (tyX0 k) := by decide +kernel
abbrev cX0_init : ByteArray := prog_2_method_1_code
def yX0_init : MethodName := ⟨RX0, "<init>", "(IZ)V"⟩
abbrev cX0_clear : ByteArray := prog_2_method_2_code
def yX0_clear : MethodName := ⟨RX0, "clear", "()V"⟩
abbrev cX0_slotFromOldest : ByteArray := prog_2_method_3_code
def yX0_slotFromOldest : MethodName := ⟨RX0, "slotFromOldest", "(I)I"⟩
abbrev cX0_slotAt : ByteArray := prog_2_method_4_code
def yX0_slotAt : MethodName := ⟨RX0, "slotAt", "(I)I"⟩
abbrev cX0_bushelsAt : ByteArray := prog_2_method_5_code
def yX0_bushelsAt : MethodName := ⟨RX0, "bushelsAt", "(I)I"⟩
abbrev cX0_moistureAt : ByteArray := prog_2_method_6_code
def yX0_moistureAt : MethodName := ⟨RX0, "moistureAt", "(I)I"⟩
abbrev cX0_foreignAt : ByteArray := prog_2_method_7_code
def yX0_foreignAt : MethodName := ⟨RX0, "foreignAt", "(I)I"⟩
abbrev cX0_gradeAt : ByteArray := prog_2_method_8_code
def yX0_gradeAt : MethodName := ⟨RX0, "gradeAt", "(I)I"⟩
abbrev cX0_add : ByteArray := prog_2_method_9_code
def yX0_add : MethodName := ⟨RX0, "add", "(IIII)V"⟩
abbrev cX0_takeOfNext : ByteArray := prog_2_method_10_code
def yX0_takeOfNext : MethodName := ⟨RX0, "takeOfNext", "(I)I"⟩
abbrev cX0_letOut : ByteArray := prog_2_method_11_code
def yX0_letOut : MethodName := ⟨RX0, "letOut", "(I)V"⟩
abbrev cX0_letOutInto : ByteArray := prog_2_method_12_code
def yX0_letOutInto : MethodName := ⟨RX0, "letOutInto", "(LGrainElevator$Bin;I)V"⟩
abbrev cX0_wetterThan : ByteArray := prog_2_method_13_code
def yX0_wetterThan : MethodName := ⟨RX0, "wetterThan", "(I)I"⟩
abbrev cX0_costOfDrying : ByteArray := prog_2_method_14_code
def yX0_costOfDrying : MethodName := ⟨RX0, "costOfDrying", "(I)I"⟩
abbrev cX0_dryTo : ByteArray := prog_2_method_15_code
def yX0_dryTo : MethodName := ⟨RX0, "dryTo", "(ILGrainElevator$Rules;)V"⟩
abbrev cX0_shrunk : ByteArray := prog_2_method_16_code
def yX0_shrunk : MethodName := ⟨RX0, "shrunk", "(III)I"⟩
def RX1 : String := "GrainElevator$Blend"
def TX1 : u_T := fun k => match k with
  | 0 => ("GrainElevator$Blend", "isFound", "Z", false)
  | 1 => ("GrainElevator$Blend", "share", "I", false)
  | _ => ("GrainElevator$Blend", "cost", "I", false)
def tyX1 : Nat → FieldType := fun k => match k with
  | 0 => .boolean
  | 1 => .int
  | _ => .int
abbrev wsX10 : List Cond := u_ws RX1 TX1 3
theorem nmX1 : ∀ a, a < 3 → ∀ b, b < 3 → a ≠ b → (TX1 a).2.1 ≠ (TX1 b).2.1 := by decide +kernel
theorem tyX1_ok : ∀ k, k < 3 → parseFieldDescriptor (TX1 k).2.2.1 = some (tyX1 k) := by decide +kernel
abbrev cX1_init : ByteArray := prog_3_method_1_code
def yX1_init : MethodName := ⟨RX1, "<init>", "()V"⟩
abbrev cX1_offer : ByteArray := prog_3_method_2_code
def yX1_offer : MethodName := ⟨RX1, "offer", "(ILGrainElevator$Flow;LGrainElevator$Flow;I)V"⟩
def RX2 : String := "GrainElevator$Event"
def TX2 : u_T := fun k => match k with
  | 0 => ("GrainElevator$Event", "kind", "C", true)
  | 1 => ("GrainElevator$Event", "bin", "I", true)
  | 2 => ("GrainElevator$Event", "other", "I", true)
  | 3 => ("GrainElevator$Event", "bushels", "I", true)
  | 4 => ("GrainElevator$Event", "otherBushels", "I", true)
  | 5 => ("GrainElevator$Event", "moisture", "I", true)
  | _ => ("GrainElevator$Event", "foreign", "I", true)
def tyX2 : Nat → FieldType := fun k => match k with
  | 0 => .char
  | 1 => .int
  | 2 => .int
  | 3 => .int
  | 4 => .int
  | 5 => .int
  | _ => .int
abbrev wsX20 : List Cond := u_ws RX2 TX2 7
theorem nmX2 : ∀ a, a < 7 → ∀ b, b < 7 → a ≠ b → (TX2 a).2.1 ≠ (TX2 b).2.1 := by decide +kernel
theorem tyX2_ok : ∀ k, k < 7 → parseFieldDescriptor (TX2 k).2.2.1 = some (tyX2 k) := by decide +kernel
abbrev cX2_init : ByteArray := prog_4_method_1_code
def yX2_init : MethodName := ⟨RX2, "<init>", "(CIIIIII)V"⟩
abbrev cX2_ofLoad : ByteArray := prog_4_method_2_code
def yX2_ofLoad : MethodName := ⟨RX2, "ofLoad", "(IIII)LGrainElevator$Event;"⟩
abbrev cX2_ofSale : ByteArray := prog_4_method_3_code
def yX2_ofSale : MethodName := ⟨RX2, "ofSale", "(II)LGrainElevator$Event;"⟩
abbrev cX2_ofTransfer : ByteArray := prog_4_method_4_code
def yX2_ofTransfer : MethodName := ⟨RX2, "ofTransfer", "(III)LGrainElevator$Event;"⟩
abbrev cX2_ofDrying : ByteArray := prog_4_method_5_code
def yX2_ofDrying : MethodName := ⟨RX2, "ofDrying", "(II)LGrainElevator$Event;"⟩
abbrev cX2_ofBlend : ByteArray := prog_4_method_6_code
def yX2_ofBlend : MethodName := ⟨RX2, "ofBlend", "(IIII)LGrainElevator$Event;"⟩
def RX3 : String := "GrainElevator$Flow"
def TX3 : u_T := fun k => match k with
  | 0 => ("GrainElevator$Flow", "bin", "LGrainElevator$Bin;", true)
  | 1 => ("GrainElevator$Flow", "prices", "[I", true)
  | 2 => ("GrainElevator$Flow", "index", "I", false)
  | 3 => ("GrainElevator$Flow", "usedOfLayer", "I", false)
  | 4 => ("GrainElevator$Flow", "cost", "I", false)
  | 5 => ("GrainElevator$Flow", "wet", "I", false)
  | _ => ("GrainElevator$Flow", "dirt", "I", false)
def tyX3 : Nat → FieldType := fun k => match k with
  | 0 => .object "GrainElevator$Bin"
  | 1 => .array .int
  | 2 => .int
  | 3 => .int
  | 4 => .int
  | 5 => .int
  | _ => .int
abbrev wsX30 : List Cond := u_ws RX3 TX3 7
theorem nmX3 : ∀ a, a < 7 → ∀ b, b < 7 → a ≠ b → (TX3 a).2.1 ≠ (TX3 b).2.1 := by decide +kernel
theorem tyX3_ok : ∀ k, k < 7 → parseFieldDescriptor (TX3 k).2.2.1 = some (tyX3 k) := by decide +kernel
abbrev cX3_init : ByteArray := prog_5_method_1_code
def yX3_init : MethodName := ⟨RX3, "<init>", "(LGrainElevator$Bin;[I)V"⟩
abbrev cX3_goOn : ByteArray := prog_5_method_3_code
def yX3_goOn : MethodName := ⟨RX3, "goOn", "(I)V"⟩
abbrev cX3_goBack : ByteArray := prog_5_method_4_code
def yX3_goBack : MethodName := ⟨RX3, "goBack", "(I)V"⟩
abbrev cX3_reckon : ByteArray := prog_5_method_5_code
def yX3_reckon : MethodName := ⟨RX3, "reckon", "(I)V"⟩
def RX4 : String := "GrainElevator$Hedge"
def TX4 : u_T := fun k => match k with
  | 0 => ("GrainElevator$Hedge", "trades", "[I", true)
  | 1 => ("GrainElevator$Hedge", "count", "I", false)
  | 2 => ("GrainElevator$Hedge", "bushels", "I", false)
  | 3 => ("GrainElevator$Hedge", "futures", "I", false)
  | _ => ("GrainElevator$Hedge", "gainCents", "J", false)
def tyX4 : Nat → FieldType := fun k => match k with
  | 0 => .array .int
  | 1 => .int
  | 2 => .int
  | 3 => .int
  | _ => .long
abbrev wsX40 : List Cond := u_ws RX4 TX4 5
theorem nmX4 : ∀ a, a < 5 → ∀ b, b < 5 → a ≠ b → (TX4 a).2.1 ≠ (TX4 b).2.1 := by decide +kernel
theorem tyX4_ok : ∀ k, k < 5 → parseFieldDescriptor (TX4 k).2.2.1 = some (tyX4 k) := by decide +kernel
abbrev cX4_init : ByteArray := prog_6_method_1_code
def yX4_init : MethodName := ⟨RX4, "<init>", "()V"⟩
abbrev cX4_follow : ByteArray := prog_6_method_2_code
def yX4_follow : MethodName := ⟨RX4, "follow", "(I)V"⟩
abbrev cX4_reprice : ByteArray := prog_6_method_3_code
def yX4_reprice : MethodName := ⟨RX4, "reprice", "(I)I"⟩
def RX5 : String := "GrainElevator$Rules"
def TX5 : u_T := fun k => match k with
  | 0 => ("GrainElevator$Rules", "moistures", "[I", true)
  | 1 => ("GrainElevator$Rules", "foreigns", "[I", true)
  | _ => ("GrainElevator$Rules", "season", "I", false)
def tyX5 : Nat → FieldType := fun k => match k with
  | 0 => .array .int
  | 1 => .array .int
  | _ => .int
abbrev wsX50 : List Cond := u_ws RX5 TX5 3
theorem nmX5 : ∀ a, a < 3 → ∀ b, b < 3 → a ≠ b → (TX5 a).2.1 ≠ (TX5 b).2.1 := by decide +kernel
theorem tyX5_ok : ∀ k, k < 3 → parseFieldDescriptor (TX5 k).2.2.1 = some (tyX5 k) := by decide +kernel
abbrev cX5_init : ByteArray := prog_7_method_1_code
def yX5_init : MethodName := ⟨RX5, "<init>", "()V"⟩
abbrev cX5_change : ByteArray := prog_7_method_2_code
def yX5_change : MethodName := ⟨RX5, "change", "(IIII)I"⟩
abbrev cX5_gradeNow : ByteArray := prog_7_method_3_code
def yX5_gradeNow : MethodName := ⟨RX5, "gradeNow", "(II)I"⟩
def RX6 : String := "GrainElevator"
def TX6 : u_T := fun k => match k with
  | 0 => ("GrainElevator", "bins", "Ljava/util/ArrayList;", true)
  | 1 => ("GrainElevator", "binsAnew", "Ljava/util/ArrayList;", true)
  | 2 => ("GrainElevator", "events", "Ljava/util/ArrayList;", true)
  | 3 => ("GrainElevator", "rules", "LGrainElevator$Rules;", true)
  | 4 => ("GrainElevator", "prices", "[I", true)
  | 5 => ("GrainElevator", "hedge", "LGrainElevator$Hedge;", true)
  | 6 => ("GrainElevator", "line", "Ljava/lang/StringBuilder;", true)
  | _ => ("GrainElevator", "cashCents", "J", false)
def tyX6 : Nat → FieldType := fun k => match k with
  | 0 => .object "java/util/ArrayList"
  | 1 => .object "java/util/ArrayList"
  | 2 => .object "java/util/ArrayList"
  | 3 => .object "GrainElevator$Rules"
  | 4 => .array .int
  | 5 => .object "GrainElevator$Hedge"
  | 6 => .object "java/lang/StringBuilder"
  | _ => .long
abbrev wsX60 : List Cond := u_ws RX6 TX6 8
theorem nmX6 : ∀ a, a < 8 → ∀ b, b < 8 → a ≠ b → (TX6 a).2.1 ≠ (TX6 b).2.1 := by decide +kernel
theorem tyX6_ok : ∀ k, k < 8 → parseFieldDescriptor (TX6 k).2.2.1 = some (tyX6 k) := by decide +kernel
abbrev cX6_init : ByteArray := prog_1_method_1_code
def yX6_init : MethodName := ⟨RX6, "<init>", "()V"⟩
abbrev cX6_addBin : ByteArray := prog_1_method_2_code
def yX6_addBin : MethodName := ⟨RX6, "addBin", "(IZ)I"⟩
abbrev cX6_binCount : ByteArray := prog_1_method_3_code
def yX6_binCount : MethodName := ⟨RX6, "binCount", "()I"⟩
abbrev cX6_capacityOf : ByteArray := prog_1_method_4_code
def yX6_capacityOf : MethodName := ⟨RX6, "capacityOf", "(I)I"⟩
abbrev cX6_setRule : ByteArray := prog_1_method_5_code
def yX6_setRule : MethodName := ⟨RX6, "setRule", "(IIII)I"⟩
abbrev cX6_setSeason : ByteArray := prog_1_method_6_code
def yX6_setSeason : MethodName := ⟨RX6, "setSeason", "(I)I"⟩
abbrev cX6_gradeFor : ByteArray := prog_1_method_7_code
def yX6_gradeFor : MethodName := ⟨RX6, "gradeFor", "(II)I"⟩
abbrev cX6_setPrice : ByteArray := prog_1_method_8_code
def yX6_setPrice : MethodName := ⟨RX6, "setPrice", "(II)I"⟩
abbrev cX6_load : ByteArray := prog_1_method_10_code
def yX6_load : MethodName := ⟨RX6, "load", "(IIII)I"⟩
abbrev cX6_sell : ByteArray := prog_1_method_11_code
def yX6_sell : MethodName := ⟨RX6, "sell", "(II)I"⟩
abbrev cX6_transfer : ByteArray := prog_1_method_12_code
def yX6_transfer : MethodName := ⟨RX6, "transfer", "(III)I"⟩
abbrev cX6_dry : ByteArray := prog_1_method_13_code
def yX6_dry : MethodName := ⟨RX6, "dry", "(II)I"⟩
abbrev cX6_dryingCost : ByteArray := prog_1_method_14_code
def yX6_dryingCost : MethodName := ⟨RX6, "dryingCost", "(II)I"⟩
abbrev cX6_bushelsIn : ByteArray := prog_1_method_15_code
def yX6_bushelsIn : MethodName := ⟨RX6, "bushelsIn", "(I)I"⟩
abbrev cX6_layersIn : ByteArray := prog_1_method_16_code
def yX6_layersIn : MethodName := ⟨RX6, "layersIn", "(I)I"⟩
abbrev cX6_layerBushels : ByteArray := prog_1_method_17_code
def yX6_layerBushels : MethodName := ⟨RX6, "layerBushels", "(II)I"⟩
abbrev cX6_layerAnew : ByteArray := prog_1_method_18_code
def yX6_layerAnew : MethodName := ⟨RX6, "layerAnew", "(II)I"⟩
abbrev cX6_layerMoisture : ByteArray := prog_1_method_19_code
def yX6_layerMoisture : MethodName := ⟨RX6, "layerMoisture", "(II)I"⟩
abbrev cX6_layerForeign : ByteArray := prog_1_method_20_code
def yX6_layerForeign : MethodName := ⟨RX6, "layerForeign", "(II)I"⟩
abbrev cX6_layerGrade : ByteArray := prog_1_method_21_code
def yX6_layerGrade : MethodName := ⟨RX6, "layerGrade", "(II)I"⟩
abbrev cX6_sellBlend : ByteArray := prog_1_method_27_code
def yX6_sellBlend : MethodName := ⟨RX6, "sellBlend", "(IIII)I"⟩
abbrev cX6_setFutures : ByteArray := prog_1_method_28_code
def yX6_setFutures : MethodName := ⟨RX6, "setFutures", "(I)I"⟩
abbrev cX6_owned : ByteArray := prog_1_method_30_code
def yX6_owned : MethodName := ⟨RX6, "owned", "()I"⟩
abbrev cX6_writeBin : ByteArray := prog_1_method_39_code
def yX6_writeBin : MethodName := ⟨RX6, "writeBin", "(I)I"⟩
abbrev cX6_lineAt : ByteArray := prog_1_method_40_code
def yX6_lineAt : MethodName := ⟨RX6, "lineAt", "(I)C"⟩
abbrev cX6_checkRange : ByteArray := prog_1_method_41_code
def yX6_checkRange : MethodName := ⟨RX6, "checkRange", "(III)V"⟩
abbrev cX6_checkMoisture : ByteArray := prog_1_method_42_code
def yX6_checkMoisture : MethodName := ⟨RX6, "checkMoisture", "(I)V"⟩
abbrev cX6_checkGrain : ByteArray := prog_1_method_43_code
def yX6_checkGrain : MethodName := ⟨RX6, "checkGrain", "(II)V"⟩
abbrev cX6_checkDifferent : ByteArray := prog_1_method_44_code
def yX6_checkDifferent : MethodName := ⟨RX6, "checkDifferent", "(II)V"⟩
abbrev cX6_checkStock : ByteArray := prog_1_method_45_code
def yX6_checkStock : MethodName := ⟨RX6, "checkStock", "(LGrainElevator$Bin;I)V"⟩
abbrev cX6_checkRoom : ByteArray := prog_1_method_46_code
def yX6_checkRoom : MethodName := ⟨RX6, "checkRoom", "(LGrainElevator$Bin;I)V"⟩
abbrev cX6_checkEventLeft : ByteArray := prog_1_method_47_code
def yX6_checkEventLeft : MethodName := ⟨RX6, "checkEventLeft", "()V"⟩
abbrev cX6_checkBlend : ByteArray := prog_1_method_48_code
def yX6_checkBlend : MethodName := ⟨RX6, "checkBlend", "(IIII)V"⟩
abbrev cX6_checkFound : ByteArray := prog_1_method_49_code
def yX6_checkFound : MethodName := ⟨RX6, "checkFound", "(LGrainElevator$Blend;)V"⟩
abbrev cX6_binIn : ByteArray := prog_1_method_50_code
def yX6_binIn : MethodName := ⟨RX6, "binIn", "(Ljava/util/ArrayList;I)LGrainElevator$Bin;"⟩
abbrev cX6_binWithLayer : ByteArray := prog_1_method_51_code
def yX6_binWithLayer : MethodName := ⟨RX6, "binWithLayer", "(Ljava/util/ArrayList;II)LGrainElevator$Bin;"⟩
abbrev cX6_happen : ByteArray := prog_1_method_52_code
def yX6_happen : MethodName := ⟨RX6, "happen", "(LGrainElevator$Event;I)V"⟩
abbrev cX6_goThroughEvents : ByteArray := prog_1_method_53_code
def yX6_goThroughEvents : MethodName := ⟨RX6, "goThroughEvents", "()V"⟩
abbrev cX6_apply : ByteArray := prog_1_method_54_code
def yX6_apply : MethodName := ⟨RX6, "apply", "(LGrainElevator$Event;Ljava/util/ArrayList;)V"⟩
abbrev cX6_goodBlend : ByteArray := prog_1_method_55_code
def yX6_goodBlend : MethodName := ⟨RX6, "goodBlend", "(IIII)LGrainElevator$Blend;"⟩
abbrev cX6_bestByGoingOn : ByteArray := prog_1_method_56_code
def yX6_bestByGoingOn : MethodName := ⟨RX6, "bestByGoingOn", "(LGrainElevator$Bin;LGrainElevator$Bin;II)LGrainElevator$Blend;"⟩
abbrev cX6_leastShare : ByteArray := prog_1_method_58_code
def yX6_leastShare : MethodName := ⟨RX6, "leastShare", "(LGrainElevator$Bin;I)I"⟩
abbrev cX6_gradeOfBlend : ByteArray := prog_1_method_59_code
def yX6_gradeOfBlend : MethodName := ⟨RX6, "gradeOfBlend", "(LGrainElevator$Bin;LGrainElevator$Bin;II)I"⟩
abbrev cX6_dividedUp : ByteArray := prog_1_method_60_code
def yX6_dividedUp : MethodName := ⟨RX6, "dividedUp", "(II)I"⟩
def RX7 : String := "GrainElevatorModel"
def TX7 : u_T := fun k => match k with
  | _ => ("", "", "", false)
def tyX7 : Nat → FieldType := fun k => match k with
  | _ => .int
abbrev wsX70 : List Cond := u_ws RX7 TX7 0
theorem nmX7 : ∀ a, a < 0 → ∀ b, b < 0 → a ≠ b → (TX7 a).2.1 ≠ (TX7 b).2.1 := by decide +kernel
theorem tyX7_ok : ∀ k, k < 0 → parseFieldDescriptor (TX7 k).2.2.1 = some (tyX7 k) := by decide +kernel
def RJx145de : String := "java/io/Serializable"
def TJx145de : u_T := fun k => match k with
  | _ => ("", "", "", false)
def tyJx145de : Nat → FieldType := fun k => match k with
  | _ => .int
abbrev wsJx145de0 : List Cond := u_ws RJx145de TJx145de 0
theorem nmJx145de : ∀ a, a < 0 → ∀ b, b < 0 → a ≠ b → (TJx145de a).2.1 ≠ (TJx145de b).2.1 := by decide +kernel
theorem tyJx145de_ok : ∀ k, k < 0 → parseFieldDescriptor (TJx145de k).2.2.1 = some (tyJx145de k) := by decide +kernel
def RJ5 : String := "java/lang/AbstractStringBuilder"
def TJ5 : u_T := fun k => match k with
  | _ => ("", "", "", false)
def tyJ5 : Nat → FieldType := fun k => match k with
  | _ => .int
abbrev wsJ50 : List Cond := u_ws RJ5 TJ5 0
theorem nmJ5 : ∀ a, a < 0 → ∀ b, b < 0 → a ≠ b → (TJ5 a).2.1 ≠ (TJ5 b).2.1 := by decide +kernel
theorem tyJ5_ok : ∀ k, k < 0 → parseFieldDescriptor (TJ5 k).2.2.1 = some (tyJ5 k) := by decide +kernel
abbrev cJ5_init_d00df : ByteArray := prog_11_method_2_code
def yJ5_init_d00df : MethodName := ⟨RJ5, "<init>", "(I)V"⟩
abbrev cJ5_length_8abf5 : ByteArray := prog_11_method_6_code
def yJ5_length_8abf5 : MethodName := ⟨RJ5, "length", "()I"⟩
abbrev cJ5_ensureCapacityInternal_d00df : ByteArray := prog_11_method_9_code
def yJ5_ensureCapacityInternal_d00df : MethodName := ⟨RJ5, "ensureCapacityInternal", "(I)V"⟩
abbrev cJ5_newCapacity_0f7a4 : ByteArray := prog_11_method_10_code
def yJ5_newCapacity_0f7a4 : MethodName := ⟨RJ5, "newCapacity", "(I)I"⟩
abbrev cJ5_inflate_da8c8 : ByteArray := prog_11_method_11_code
def yJ5_inflate_da8c8 : MethodName := ⟨RJ5, "inflate", "()V"⟩
abbrev cJ5_setLength_d00df : ByteArray := prog_11_method_13_code
def yJ5_setLength_d00df : MethodName := ⟨RJ5, "setLength", "(I)V"⟩
abbrev cJ5_charAt_5068e : ByteArray := prog_11_method_14_code
def yJ5_charAt_5068e : MethodName := ⟨RJ5, "charAt", "(I)C"⟩
abbrev cJ5_append_cf1ce : ByteArray := prog_11_method_22_code
def yJ5_append_cf1ce : MethodName := ⟨RJ5, "append", "(Ljava/lang/String;)Ljava/lang/AbstractStringBuilder;"⟩
abbrev cJ5_appendNull_278bc : ByteArray := prog_11_method_26_code
def yJ5_appendNull_278bc : MethodName := ⟨RJ5, "appendNull", "()Ljava/lang/AbstractStringBuilder;"⟩
abbrev cJ5_append_3fe6f : ByteArray := prog_11_method_31_code
def yJ5_append_3fe6f : MethodName := ⟨RJ5, "append", "(C)Ljava/lang/AbstractStringBuilder;"⟩
abbrev cJ5_append_c97b9 : ByteArray := prog_11_method_32_code
def yJ5_append_c97b9 : MethodName := ⟨RJ5, "append", "(I)Ljava/lang/AbstractStringBuilder;"⟩
abbrev cJ5_getValue_6d5f1 : ByteArray := prog_11_method_64_code
def yJ5_getValue_6d5f1 : MethodName := ⟨RJ5, "getValue", "()[B"⟩
abbrev cJ5_isLatin1_aae02 : ByteArray := prog_11_method_68_code
def yJ5_isLatin1_aae02 : MethodName := ⟨RJ5, "isLatin1", "()Z"⟩
abbrev cJ5_inflateIfNeededFor_a7421 : ByteArray := prog_11_method_71_code
def yJ5_inflateIfNeededFor_a7421 : MethodName := ⟨RJ5, "inflateIfNeededFor", "(Ljava/lang/String;)V"⟩
abbrev cJ5_putStringAt_47b60 : ByteArray := prog_11_method_73_code
def yJ5_putStringAt_47b60 : MethodName := ⟨RJ5, "putStringAt", "(ILjava/lang/String;)V"⟩
def RJx2cfe8 : String := "java/lang/Appendable"
def TJx2cfe8 : u_T := fun k => match k with
  | _ => ("", "", "", false)
def tyJx2cfe8 : Nat → FieldType := fun k => match k with
  | _ => .int
abbrev wsJx2cfe80 : List Cond := u_ws RJx2cfe8 TJx2cfe8 0
theorem nmJx2cfe8 : ∀ a, a < 0 → ∀ b, b < 0 → a ≠ b → (TJx2cfe8 a).2.1 ≠ (TJx2cfe8 b).2.1 := by decide +kernel
theorem tyJx2cfe8_ok : ∀ k, k < 0 → parseFieldDescriptor (TJx2cfe8 k).2.2.1 = some (tyJx2cfe8 k) := by decide +kernel
def RJx00060 : String := "java/lang/ArrayIndexOutOfBoundsException"
def TJx00060 : u_T := fun k => match k with
  | 0 => ("java/lang/Throwable", "backtrace", "Ljava/lang/Object;", false)
  | 1 => ("java/lang/Throwable", "detailMessage", "Ljava/lang/String;", false)
  | 2 => ("java/lang/Throwable", "cause", "Ljava/lang/Throwable;", false)
  | 3 => ("java/lang/Throwable", "stackTrace", "[Ljava/lang/StackTraceElement;", false)
  | 4 => ("java/lang/Throwable", "depth", "I", false)
  | _ => ("java/lang/Throwable", "suppressedExceptions", "Ljava/util/List;", false)
def tyJx00060 : Nat → FieldType := fun k => match k with
  | 0 => .object "java/lang/Object"
  | 1 => .object "java/lang/String"
  | 2 => .object "java/lang/Throwable"
  | 3 => .array (.object "java/lang/StackTraceElement")
  | 4 => .int
  | _ => .object "java/util/List"
abbrev wsJx000600 : List Cond := u_ws RJx00060 TJx00060 6
theorem nmJx00060 : ∀ a, a < 6 → ∀ b, b < 6 → a ≠ b → (TJx00060 a).2.1 ≠ (TJx00060 b).2.1 := by decide +kernel
theorem tyJx00060_ok : ∀ k, k < 6 → parseFieldDescriptor (TJx00060 k).2.2.1 = some (tyJx00060 k) := by decide +kernel
abbrev cJx00060_init_a7421 : ByteArray := prog_13_method_2_code
def yJx00060_init_a7421 : MethodName := ⟨RJx00060, "<init>", "(Ljava/lang/String;)V"⟩
abbrev cJx00060_init_d00df : ByteArray := prog_13_method_3_code
def yJx00060_init_d00df : MethodName := ⟨RJx00060, "<init>", "(I)V"⟩
def RJx9f9b0 : String := "java/lang/CharSequence"
def TJx9f9b0 : u_T := fun k => match k with
  | _ => ("", "", "", false)
def tyJx9f9b0 : Nat → FieldType := fun k => match k with
  | _ => .int
abbrev wsJx9f9b00 : List Cond := u_ws RJx9f9b0 TJx9f9b0 0
theorem nmJx9f9b0 : ∀ a, a < 0 → ∀ b, b < 0 → a ≠ b → (TJx9f9b0 a).2.1 ≠ (TJx9f9b0 b).2.1 := by decide +kernel
theorem tyJx9f9b0_ok : ∀ k, k < 0 → parseFieldDescriptor (TJx9f9b0 k).2.2.1 = some (tyJx9f9b0 k) := by decide +kernel
def RJx8e188 : String := "java/lang/Cloneable"
def TJx8e188 : u_T := fun k => match k with
  | _ => ("", "", "", false)
def tyJx8e188 : Nat → FieldType := fun k => match k with
  | _ => .int
abbrev wsJx8e1880 : List Cond := u_ws RJx8e188 TJx8e188 0
theorem nmJx8e188 : ∀ a, a < 0 → ∀ b, b < 0 → a ≠ b → (TJx8e188 a).2.1 ≠ (TJx8e188 b).2.1 := by decide +kernel
theorem tyJx8e188_ok : ∀ k, k < 0 → parseFieldDescriptor (TJx8e188 k).2.2.1 = some (tyJx8e188 k) := by decide +kernel
def RJxb160c : String := "java/lang/Comparable"
def TJxb160c : u_T := fun k => match k with
  | _ => ("", "", "", false)
def tyJxb160c : Nat → FieldType := fun k => match k with
  | _ => .int
abbrev wsJxb160c0 : List Cond := u_ws RJxb160c TJxb160c 0
theorem nmJxb160c : ∀ a, a < 0 → ∀ b, b < 0 → a ≠ b → (TJxb160c a).2.1 ≠ (TJxb160c b).2.1 := by decide +kernel
theorem tyJxb160c_ok : ∀ k, k < 0 → parseFieldDescriptor (TJxb160c k).2.2.1 = some (tyJxb160c k) := by decide +kernel
def RJ6 : String := "java/lang/Integer"
def TJ6 : u_T := fun k => match k with
  | _ => ("", "", "", false)
def tyJ6 : Nat → FieldType := fun k => match k with
  | _ => .int
abbrev wsJ60 : List Cond := u_ws RJ6 TJ6 0
theorem nmJ6 : ∀ a, a < 0 → ∀ b, b < 0 → a ≠ b → (TJ6 a).2.1 ≠ (TJ6 b).2.1 := by decide +kernel
theorem tyJ6_ok : ∀ k, k < 0 → parseFieldDescriptor (TJ6 k).2.2.1 = some (tyJ6 k) := by decide +kernel
abbrev cJ6_getChars_ba4f3 : ByteArray := prog_21_method_12_code
def yJ6_getChars_ba4f3 : MethodName := ⟨RJ6, "getChars", "(II[B)I"⟩
abbrev cJ6_stringSize_0f7a4 : ByteArray := prog_21_method_13_code
def yJ6_stringSize_0f7a4 : MethodName := ⟨RJ6, "stringSize", "(I)I"⟩
def RJxab1ab : String := "java/lang/Iterable"
def TJxab1ab : u_T := fun k => match k with
  | _ => ("", "", "", false)
def tyJxab1ab : Nat → FieldType := fun k => match k with
  | _ => .int
abbrev wsJxab1ab0 : List Cond := u_ws RJxab1ab TJxab1ab 0
theorem nmJxab1ab : ∀ a, a < 0 → ∀ b, b < 0 → a ≠ b → (TJxab1ab a).2.1 ≠ (TJxab1ab b).2.1 := by decide +kernel
theorem tyJxab1ab_ok : ∀ k, k < 0 → parseFieldDescriptor (TJxab1ab k).2.2.1 = some (tyJxab1ab k) := by decide +kernel
def RJ9 : String := "java/lang/Math"
def TJ9 : u_T := fun k => match k with
  | _ => ("", "", "", false)
def tyJ9 : Nat → FieldType := fun k => match k with
  | _ => .int
abbrev wsJ90 : List Cond := u_ws RJ9 TJ9 0
theorem nmJ9 : ∀ a, a < 0 → ∀ b, b < 0 → a ≠ b → (TJ9 a).2.1 ≠ (TJ9 b).2.1 := by decide +kernel
theorem tyJ9_ok : ∀ k, k < 0 → parseFieldDescriptor (TJ9 k).2.2.1 = some (tyJ9 k) := by decide +kernel
abbrev cJ9_floorMod_7cf53 : ByteArray := prog_23_method_50_code
def yJ9_floorMod_7cf53 : MethodName := ⟨RJ9, "floorMod", "(II)I"⟩
abbrev cJ9_max_7cf53 : ByteArray := prog_23_method_65_code
def yJ9_max_7cf53 : MethodName := ⟨RJ9, "max", "(II)I"⟩
abbrev cJ9_min_7cf53 : ByteArray := prog_23_method_69_code
def yJ9_min_7cf53 : MethodName := ⟨RJ9, "min", "(II)I"⟩
def RJxd2413 : String := "java/lang/Number"
def TJxd2413 : u_T := fun k => match k with
  | _ => ("", "", "", false)
def tyJxd2413 : Nat → FieldType := fun k => match k with
  | _ => .int
abbrev wsJxd24130 : List Cond := u_ws RJxd2413 TJxd2413 0
theorem nmJxd2413 : ∀ a, a < 0 → ∀ b, b < 0 → a ≠ b → (TJxd2413 a).2.1 ≠ (TJxd2413 b).2.1 := by decide +kernel
theorem tyJxd2413_ok : ∀ k, k < 0 → parseFieldDescriptor (TJxd2413 k).2.2.1 = some (tyJxd2413 k) := by decide +kernel
def RJ0 : String := "java/lang/String"
def TJ0 : u_T := fun k => match k with
  | 0 => ("java/lang/String", "value", "[B", true)
  | 1 => ("java/lang/String", "coder", "B", true)
  | 2 => ("java/lang/String", "hash", "I", false)
  | _ => ("java/lang/String", "hashIsZero", "Z", false)
def tyJ0 : Nat → FieldType := fun k => match k with
  | 0 => .array .byte
  | 1 => .byte
  | 2 => .int
  | _ => .boolean
abbrev wsJ00 : List Cond := u_ws RJ0 TJ0 4
theorem nmJ0 : ∀ a, a < 4 → ∀ b, b < 4 → a ≠ b → (TJ0 a).2.1 ≠ (TJ0 b).2.1 := by decide +kernel
theorem tyJ0_ok : ∀ k, k < 4 → parseFieldDescriptor (TJ0 k).2.2.1 = some (tyJ0 k) := by decide +kernel
abbrev cJ0_init_81219 : ByteArray := prog_26_method_53_code
def yJ0_init_81219 : MethodName := ⟨RJ0, "<init>", "(Ljava/lang/StringBuilder;)V"⟩
abbrev cJ0_length_8abf5 : ByteArray := prog_26_method_54_code
def yJ0_length_8abf5 : MethodName := ⟨RJ0, "length", "()I"⟩
abbrev cJ0_getBytes_840e7 : ByteArray := prog_26_method_147_code
def yJ0_getBytes_840e7 : MethodName := ⟨RJ0, "getBytes", "([BIB)V"⟩
abbrev cJ0_init_db425 : ByteArray := prog_26_method_150_code
def yJ0_init_db425 : MethodName := ⟨RJ0, "<init>", "(Ljava/lang/AbstractStringBuilder;Ljava/lang/Void;)V"⟩
abbrev cJ0_coder_7d493 : ByteArray := prog_26_method_152_code
def yJ0_coder_7d493 : MethodName := ⟨RJ0, "coder", "()B"⟩
abbrev cJ0_checkIndex_df160 : ByteArray := prog_26_method_155_code
def yJ0_checkIndex_df160 : MethodName := ⟨RJ0, "checkIndex", "(II)V"⟩
abbrev cJ0_checkBoundsOffCount_cabcc : ByteArray := prog_26_method_157_code
def yJ0_checkBoundsOffCount_cabcc : MethodName := ⟨RJ0, "checkBoundsOffCount", "(III)I"⟩
abbrev cJ0_checkBoundsBeginEnd_23922 : ByteArray := prog_26_method_158_code
def yJ0_checkBoundsBeginEnd_23922 : MethodName := ⟨RJ0, "checkBoundsBeginEnd", "(III)V"⟩
def RJ4 : String := "java/lang/StringBuilder"
def TJ4 : u_T := fun k => match k with
  | 0 => ("java/lang/AbstractStringBuilder", "value", "[B", false)
  | 1 => ("java/lang/AbstractStringBuilder", "coder", "B", false)
  | 2 => ("java/lang/AbstractStringBuilder", "maybeLatin1", "Z", false)
  | _ => ("java/lang/AbstractStringBuilder", "count", "I", false)
def tyJ4 : Nat → FieldType := fun k => match k with
  | 0 => .array .byte
  | 1 => .byte
  | 2 => .boolean
  | _ => .int
abbrev wsJ40 : List Cond := u_ws RJ4 TJ4 4
theorem nmJ4 : ∀ a, a < 4 → ∀ b, b < 4 → a ≠ b → (TJ4 a).2.1 ≠ (TJ4 b).2.1 := by decide +kernel
theorem tyJ4_ok : ∀ k, k < 4 → parseFieldDescriptor (TJ4 k).2.2.1 = some (tyJ4 k) := by decide +kernel
abbrev cJ4_init_da8c8 : ByteArray := prog_27_method_1_code
def yJ4_init_da8c8 : MethodName := ⟨RJ4, "<init>", "()V"⟩
abbrev cJ4_append_15ec4 : ByteArray := prog_27_method_7_code
def yJ4_append_15ec4 : MethodName := ⟨RJ4, "append", "(Ljava/lang/String;)Ljava/lang/StringBuilder;"⟩
abbrev cJ4_append_cf468 : ByteArray := prog_27_method_14_code
def yJ4_append_cf468 : MethodName := ⟨RJ4, "append", "(C)Ljava/lang/StringBuilder;"⟩
abbrev cJ4_append_bf812 : ByteArray := prog_27_method_15_code
def yJ4_append_bf812 : MethodName := ⟨RJ4, "append", "(I)Ljava/lang/StringBuilder;"⟩
abbrev cJ4_toString_0e30d : ByteArray := prog_27_method_42_code
def yJ4_toString_0e30d : MethodName := ⟨RJ4, "toString", "()Ljava/lang/String;"⟩
abbrev cJ4_charAt_5068e : ByteArray := prog_27_method_88_code
def yJ4_charAt_5068e : MethodName := ⟨RJ4, "charAt", "(I)C"⟩
abbrev cJ4_setLength_d00df : ByteArray := prog_27_method_89_code
def yJ4_setLength_d00df : MethodName := ⟨RJ4, "setLength", "(I)V"⟩
abbrev cJ4_length_8abf5 : ByteArray := prog_27_method_93_code
def yJ4_length_8abf5 : MethodName := ⟨RJ4, "length", "()I"⟩
def RJx7c733 : String := "java/lang/StringIndexOutOfBoundsException"
def TJx7c733 : u_T := fun k => match k with
  | 0 => ("java/lang/Throwable", "backtrace", "Ljava/lang/Object;", false)
  | 1 => ("java/lang/Throwable", "detailMessage", "Ljava/lang/String;", false)
  | 2 => ("java/lang/Throwable", "cause", "Ljava/lang/Throwable;", false)
  | 3 => ("java/lang/Throwable", "stackTrace", "[Ljava/lang/StackTraceElement;", false)
  | 4 => ("java/lang/Throwable", "depth", "I", false)
  | _ => ("java/lang/Throwable", "suppressedExceptions", "Ljava/util/List;", false)
def tyJx7c733 : Nat → FieldType := fun k => match k with
  | 0 => .object "java/lang/Object"
  | 1 => .object "java/lang/String"
  | 2 => .object "java/lang/Throwable"
  | 3 => .array (.object "java/lang/StackTraceElement")
  | 4 => .int
  | _ => .object "java/util/List"
abbrev wsJx7c7330 : List Cond := u_ws RJx7c733 TJx7c733 6
theorem nmJx7c733 : ∀ a, a < 6 → ∀ b, b < 6 → a ≠ b → (TJx7c733 a).2.1 ≠ (TJx7c733 b).2.1 := by decide +kernel
theorem tyJx7c733_ok : ∀ k, k < 6 → parseFieldDescriptor (TJx7c733 k).2.2.1 = some (tyJx7c733 k) := by decide +kernel
abbrev cJx7c733_init_d00df : ByteArray := prog_28_method_3_code
def yJx7c733_init_d00df : MethodName := ⟨RJx7c733, "<init>", "(I)V"⟩
def RJ1 : String := "java/lang/StringLatin1"
def TJ1 : u_T := fun k => match k with
  | _ => ("", "", "", false)
def tyJ1 : Nat → FieldType := fun k => match k with
  | _ => .int
abbrev wsJ10 : List Cond := u_ws RJ1 TJ1 0
theorem nmJ1 : ∀ a, a < 0 → ∀ b, b < 0 → a ≠ b → (TJ1 a).2.1 ≠ (TJ1 b).2.1 := by decide +kernel
theorem tyJ1_ok : ∀ k, k < 0 → parseFieldDescriptor (TJ1 k).2.2.1 = some (tyJ1 k) := by decide +kernel
abbrev cJ1_canEncode_fc78d : ByteArray := prog_29_method_3_code
def yJ1_canEncode_fc78d : MethodName := ⟨RJ1, "canEncode", "(C)Z"⟩
abbrev cJ1_fillNull_b72d1 : ByteArray := prog_29_method_48_code
def yJ1_fillNull_b72d1 : MethodName := ⟨RJ1, "fillNull", "([BII)V"⟩
abbrev cJ1_inflate_0e8fd : ByteArray := prog_29_method_50_code
def yJ1_inflate_0e8fd : MethodName := ⟨RJ1, "inflate", "([BI[BII)V"⟩
def RJ2 : String := "java/lang/StringUTF16"
def TJ2 : u_T := fun k => match k with
  | _ => ("", "", "", false)
def tyJ2 : Nat → FieldType := fun k => match k with
  | _ => .int
abbrev wsJ20 : List Cond := u_ws RJ2 TJ2 0
theorem nmJ2 : ∀ a, a < 0 → ∀ b, b < 0 → a ≠ b → (TJ2 a).2.1 ≠ (TJ2 b).2.1 := by decide +kernel
theorem tyJ2_ok : ∀ k, k < 0 → parseFieldDescriptor (TJ2 k).2.2.1 = some (tyJ2 k) := by decide +kernel
abbrev cJ2_newBytesFor_77867 : ByteArray := prog_30_method_2_code
def yJ2_newBytesFor_77867 : MethodName := ⟨RJ2, "newBytesFor", "(I)[B"⟩
abbrev cJ2_newBytesLength_0f7a4 : ByteArray := prog_30_method_3_code
def yJ2_newBytesLength_0f7a4 : MethodName := ⟨RJ2, "newBytesLength", "(I)I"⟩
abbrev cJ2_putChar_b72d1 : ByteArray := prog_30_method_4_code
def yJ2_putChar_b72d1 : MethodName := ⟨RJ2, "putChar", "([BII)V"⟩
abbrev cJ2_getChar_3b067 : ByteArray := prog_30_method_5_code
def yJ2_getChar_3b067 : MethodName := ⟨RJ2, "getChar", "([BI)C"⟩
abbrev cJ2_length_9d52b : ByteArray := prog_30_method_6_code
def yJ2_length_9d52b : MethodName := ⟨RJ2, "length", "([B)I"⟩
abbrev cJ2_coderFromArrayLen_85cad : ByteArray := prog_30_method_15_code
def yJ2_coderFromArrayLen_85cad : MethodName := ⟨RJ2, "coderFromArrayLen", "([BI)B"⟩
abbrev cJ2_compress_39247 : ByteArray := prog_30_method_17_code
def yJ2_compress_39247 : MethodName := ⟨RJ2, "compress", "([BII)[B"⟩
abbrev cJ2_compress_5af95 : ByteArray := prog_30_method_22_code
def yJ2_compress_5af95 : MethodName := ⟨RJ2, "compress", "([BI[BII)I"⟩
abbrev cJ2_fillNull_b72d1 : ByteArray := prog_30_method_70_code
def yJ2_fillNull_b72d1 : MethodName := ⟨RJ2, "fillNull", "([BII)V"⟩
abbrev cJ2_putCharSB_b72d1 : ByteArray := prog_30_method_71_code
def yJ2_putCharSB_b72d1 : MethodName := ⟨RJ2, "putCharSB", "([BII)V"⟩
abbrev cJ2_getChars_46870 : ByteArray := prog_30_method_77_code
def yJ2_getChars_46870 : MethodName := ⟨RJ2, "getChars", "(III[B)I"⟩
abbrev cJ2_putCharsAt_cd4e5 : ByteArray := prog_30_method_81_code
def yJ2_putCharsAt_cd4e5 : MethodName := ⟨RJ2, "putCharsAt", "([BICCCC)I"⟩
abbrev cJ2_inflate_0e8fd : ByteArray := prog_30_method_86_code
def yJ2_inflate_0e8fd : MethodName := ⟨RJ2, "inflate", "([BI[BII)V"⟩
abbrev cJ2_getChars_ba4f3 : ByteArray := prog_30_method_89_code
def yJ2_getChars_ba4f3 : MethodName := ⟨RJ2, "getChars", "(II[B)I"⟩
abbrev cJ2_checkIndex_2214a : ByteArray := prog_30_method_91_code
def yJ2_checkIndex_2214a : MethodName := ⟨RJ2, "checkIndex", "(I[B)V"⟩
abbrev cJ2_checkBoundsBeginEnd_d044e : ByteArray := prog_30_method_93_code
def yJ2_checkBoundsBeginEnd_d044e : MethodName := ⟨RJ2, "checkBoundsBeginEnd", "(II[B)V"⟩
abbrev cJ2_checkBoundsOffCount_d044e : ByteArray := prog_30_method_94_code
def yJ2_checkBoundsOffCount_d044e : MethodName := ⟨RJ2, "checkBoundsOffCount", "(II[B)V"⟩
def RJ10 : String := "java/lang/System"
def TJ10 : u_T := fun k => match k with
  | _ => ("", "", "", false)
def tyJ10 : Nat → FieldType := fun k => match k with
  | _ => .int
abbrev wsJ100 : List Cond := u_ws RJ10 TJ10 0
theorem nmJ10 : ∀ a, a < 0 → ∀ b, b < 0 → a ≠ b → (TJ10 a).2.1 ≠ (TJ10 b).2.1 := by decide +kernel
theorem tyJ10_ok : ∀ k, k < 0 → parseFieldDescriptor (TJ10 k).2.2.1 = some (tyJ10 k) := by decide +kernel
def RJxfd54e : String := "java/lang/constant/Constable"
def TJxfd54e : u_T := fun k => match k with
  | _ => ("", "", "", false)
def tyJxfd54e : Nat → FieldType := fun k => match k with
  | _ => .int
abbrev wsJxfd54e0 : List Cond := u_ws RJxfd54e TJxfd54e 0
theorem nmJxfd54e : ∀ a, a < 0 → ∀ b, b < 0 → a ≠ b → (TJxfd54e a).2.1 ≠ (TJxfd54e b).2.1 := by decide +kernel
theorem tyJxfd54e_ok : ∀ k, k < 0 → parseFieldDescriptor (TJxfd54e k).2.2.1 = some (tyJxfd54e k) := by decide +kernel
def RJx3cf43 : String := "java/lang/constant/ConstantDesc"
def TJx3cf43 : u_T := fun k => match k with
  | _ => ("", "", "", false)
def tyJx3cf43 : Nat → FieldType := fun k => match k with
  | _ => .int
abbrev wsJx3cf430 : List Cond := u_ws RJx3cf43 TJx3cf43 0
theorem nmJx3cf43 : ∀ a, a < 0 → ∀ b, b < 0 → a ≠ b → (TJx3cf43 a).2.1 ≠ (TJx3cf43 b).2.1 := by decide +kernel
theorem tyJx3cf43_ok : ∀ k, k < 0 → parseFieldDescriptor (TJx3cf43 k).2.2.1 = some (tyJx3cf43 k) := by decide +kernel
def RJxa1e45 : String := "java/util/AbstractCollection"
def TJxa1e45 : u_T := fun k => match k with
  | _ => ("", "", "", false)
def tyJxa1e45 : Nat → FieldType := fun k => match k with
  | _ => .int
abbrev wsJxa1e450 : List Cond := u_ws RJxa1e45 TJxa1e45 0
theorem nmJxa1e45 : ∀ a, a < 0 → ∀ b, b < 0 → a ≠ b → (TJxa1e45 a).2.1 ≠ (TJxa1e45 b).2.1 := by decide +kernel
theorem tyJxa1e45_ok : ∀ k, k < 0 → parseFieldDescriptor (TJxa1e45 k).2.2.1 = some (tyJxa1e45 k) := by decide +kernel
abbrev cJxa1e45_init_da8c8 : ByteArray := prog_35_method_1_code
def yJxa1e45_init_da8c8 : MethodName := ⟨RJxa1e45, "<init>", "()V"⟩
def RJxc12de : String := "java/util/AbstractList"
def TJxc12de : u_T := fun k => match k with
  | _ => ("", "", "", false)
def tyJxc12de : Nat → FieldType := fun k => match k with
  | _ => .int
abbrev wsJxc12de0 : List Cond := u_ws RJxc12de TJxc12de 0
theorem nmJxc12de : ∀ a, a < 0 → ∀ b, b < 0 → a ≠ b → (TJxc12de a).2.1 ≠ (TJxc12de b).2.1 := by decide +kernel
theorem tyJxc12de_ok : ∀ k, k < 0 → parseFieldDescriptor (TJxc12de k).2.2.1 = some (tyJxc12de k) := by decide +kernel
abbrev cJxc12de_init_da8c8 : ByteArray := prog_36_method_1_code
def yJxc12de_init_da8c8 : MethodName := ⟨RJxc12de, "<init>", "()V"⟩
def RJx4a65c : String := "java/util/ArrayList"
def TJx4a65c : u_T := fun k => match k with
  | 0 => ("java/util/AbstractList", "modCount", "I", false)
  | 1 => ("java/util/ArrayList", "elementData", "[Ljava/lang/Object;", false)
  | _ => ("java/util/ArrayList", "size", "I", false)
def tyJx4a65c : Nat → FieldType := fun k => match k with
  | 0 => .int
  | 1 => .array (.object "java/lang/Object")
  | _ => .int
abbrev wsJx4a65c0 : List Cond := u_ws RJx4a65c TJx4a65c 3
theorem nmJx4a65c : ∀ a, a < 3 → ∀ b, b < 3 → a ≠ b → (TJx4a65c a).2.1 ≠ (TJx4a65c b).2.1 := by decide +kernel
theorem tyJx4a65c_ok : ∀ k, k < 3 → parseFieldDescriptor (TJx4a65c k).2.2.1 = some (tyJx4a65c k) := by decide +kernel
abbrev cJx4a65c_init_da8c8 : ByteArray := prog_37_method_2_code
def yJx4a65c_init_da8c8 : MethodName := ⟨RJx4a65c, "<init>", "()V"⟩
abbrev cJx4a65c_grow_92f84 : ByteArray := prog_37_method_6_code
def yJx4a65c_grow_92f84 : MethodName := ⟨RJx4a65c, "grow", "(I)[Ljava/lang/Object;"⟩
abbrev cJx4a65c_grow_d5877 : ByteArray := prog_37_method_7_code
def yJx4a65c_grow_d5877 : MethodName := ⟨RJx4a65c, "grow", "()[Ljava/lang/Object;"⟩
abbrev cJx4a65c_size_8abf5 : ByteArray := prog_37_method_8_code
def yJx4a65c_size_8abf5 : MethodName := ⟨RJx4a65c, "size", "()I"⟩
abbrev cJx4a65c_elementData_915e3 : ByteArray := prog_37_method_18_code
def yJx4a65c_elementData_915e3 : MethodName := ⟨RJx4a65c, "elementData", "(I)Ljava/lang/Object;"⟩
abbrev cJx4a65c_get_915e3 : ByteArray := prog_37_method_20_code
def yJx4a65c_get_915e3 : MethodName := ⟨RJx4a65c, "get", "(I)Ljava/lang/Object;"⟩
abbrev cJx4a65c_add_72be8 : ByteArray := prog_37_method_24_code
def yJx4a65c_add_72be8 : MethodName := ⟨RJx4a65c, "add", "(Ljava/lang/Object;[Ljava/lang/Object;I)V"⟩
abbrev cJx4a65c_add_9ea2d : ByteArray := prog_37_method_25_code
def yJx4a65c_add_9ea2d : MethodName := ⟨RJx4a65c, "add", "(Ljava/lang/Object;)Z"⟩
def RJ7 : String := "java/util/Arrays"
def TJ7 : u_T := fun k => match k with
  | _ => ("", "", "", false)
def tyJ7 : Nat → FieldType := fun k => match k with
  | _ => .int
abbrev wsJ70 : List Cond := u_ws RJ7 TJ7 0
theorem nmJ7 : ∀ a, a < 0 → ∀ b, b < 0 → a ≠ b → (TJ7 a).2.1 ≠ (TJ7 b).2.1 := by decide +kernel
theorem tyJ7_ok : ∀ k, k < 0 → parseFieldDescriptor (TJ7 k).2.2.1 = some (tyJ7 k) := by decide +kernel
abbrev cJ7_rangeCheck_23922 : ByteArray := prog_38_method_30_code
def yJ7_rangeCheck_23922 : MethodName := ⟨RJ7, "rangeCheck", "(III)V"⟩
abbrev cJ7_fill_eb02e : ByteArray := prog_38_method_110_code
def yJ7_fill_eb02e : MethodName := ⟨RJ7, "fill", "([BIIB)V"⟩
abbrev cJ7_copyOf_1904c : ByteArray := prog_38_method_119_code
def yJ7_copyOf_1904c : MethodName := ⟨RJ7, "copyOf", "([Ljava/lang/Object;I)[Ljava/lang/Object;"⟩
abbrev cJ7_copyOf_6403c : ByteArray := prog_38_method_120_code
def yJ7_copyOf_6403c : MethodName := ⟨RJ7, "copyOf", "([Ljava/lang/Object;ILjava/lang/Class;)[Ljava/lang/Object;"⟩
abbrev cJ7_copyOf_9075b : ByteArray := prog_38_method_121_code
def yJ7_copyOf_9075b : MethodName := ⟨RJ7, "copyOf", "([BI)[B"⟩
abbrev cJ7_checkLength_df160 : ByteArray := prog_38_method_131_code
def yJ7_checkLength_df160 : MethodName := ⟨RJ7, "checkLength", "(II)V"⟩
abbrev cJ7_copyOfRange_39247 : ByteArray := prog_38_method_132_code
def yJ7_copyOfRange_39247 : MethodName := ⟨RJ7, "copyOfRange", "([BII)[B"⟩
abbrev cJ7_copyOfRangeByte_39247 : ByteArray := prog_38_method_133_code
def yJ7_copyOfRangeByte_39247 : MethodName := ⟨RJ7, "copyOfRangeByte", "([BII)[B"⟩
def RJx5ef63 : String := "java/util/Collection"
def TJx5ef63 : u_T := fun k => match k with
  | _ => ("", "", "", false)
def tyJx5ef63 : Nat → FieldType := fun k => match k with
  | _ => .int
abbrev wsJx5ef630 : List Cond := u_ws RJx5ef63 TJx5ef63 0
theorem nmJx5ef63 : ∀ a, a < 0 → ∀ b, b < 0 → a ≠ b → (TJx5ef63 a).2.1 ≠ (TJx5ef63 b).2.1 := by decide +kernel
theorem tyJx5ef63_ok : ∀ k, k < 0 → parseFieldDescriptor (TJx5ef63 k).2.2.1 = some (tyJx5ef63 k) := by decide +kernel
def RJxbd725 : String := "java/util/List"
def TJxbd725 : u_T := fun k => match k with
  | _ => ("", "", "", false)
def tyJxbd725 : Nat → FieldType := fun k => match k with
  | _ => .int
abbrev wsJxbd7250 : List Cond := u_ws RJxbd725 TJxbd725 0
theorem nmJxbd725 : ∀ a, a < 0 → ∀ b, b < 0 → a ≠ b → (TJxbd725 a).2.1 ≠ (TJxbd725 b).2.1 := by decide +kernel
theorem tyJxbd725_ok : ∀ k, k < 0 → parseFieldDescriptor (TJxbd725 k).2.2.1 = some (tyJxbd725 k) := by decide +kernel
def RJ15 : String := "java/util/Objects"
def TJ15 : u_T := fun k => match k with
  | _ => ("", "", "", false)
def tyJ15 : Nat → FieldType := fun k => match k with
  | _ => .int
abbrev wsJ150 : List Cond := u_ws RJ15 TJ15 0
theorem nmJ15 : ∀ a, a < 0 → ∀ b, b < 0 → a ≠ b → (TJ15 a).2.1 ≠ (TJ15 b).2.1 := by decide +kernel
theorem tyJ15_ok : ∀ k, k < 0 → parseFieldDescriptor (TJ15 k).2.2.1 = some (tyJ15 k) := by decide +kernel
abbrev cJ15_checkIndex_7cf53 : ByteArray := prog_42_method_17_code
def yJ15_checkIndex_7cf53 : MethodName := ⟨RJ15, "checkIndex", "(II)I"⟩
def RJxf0a74 : String := "java/util/RandomAccess"
def TJxf0a74 : u_T := fun k => match k with
  | _ => ("", "", "", false)
def tyJxf0a74 : Nat → FieldType := fun k => match k with
  | _ => .int
abbrev wsJxf0a740 : List Cond := u_ws RJxf0a74 TJxf0a74 0
theorem nmJxf0a74 : ∀ a, a < 0 → ∀ b, b < 0 → a ≠ b → (TJxf0a74 a).2.1 ≠ (TJxf0a74 b).2.1 := by decide +kernel
theorem tyJxf0a74_ok : ∀ k, k < 0 → parseFieldDescriptor (TJxf0a74 k).2.2.1 = some (tyJxf0a74 k) := by decide +kernel
def RJxa66e6 : String := "java/util/SequencedCollection"
def TJxa66e6 : u_T := fun k => match k with
  | _ => ("", "", "", false)
def tyJxa66e6 : Nat → FieldType := fun k => match k with
  | _ => .int
abbrev wsJxa66e60 : List Cond := u_ws RJxa66e6 TJxa66e6 0
theorem nmJxa66e6 : ∀ a, a < 0 → ∀ b, b < 0 → a ≠ b → (TJxa66e6 a).2.1 ≠ (TJxa66e6 b).2.1 := by decide +kernel
theorem tyJxa66e6_ok : ∀ k, k < 0 → parseFieldDescriptor (TJxa66e6 k).2.2.1 = some (tyJxa66e6 k) := by decide +kernel
def RJ8 : String := "jdk/internal/util/ArraysSupport"
def TJ8 : u_T := fun k => match k with
  | _ => ("", "", "", false)
def tyJ8 : Nat → FieldType := fun k => match k with
  | _ => .int
abbrev wsJ80 : List Cond := u_ws RJ8 TJ8 0
theorem nmJ8 : ∀ a, a < 0 → ∀ b, b < 0 → a ≠ b → (TJ8 a).2.1 ≠ (TJ8 b).2.1 := by decide +kernel
theorem tyJ8_ok : ∀ k, k < 0 → parseFieldDescriptor (TJ8 k).2.2.1 = some (tyJ8 k) := by decide +kernel
abbrev cJ8_newLength_cabcc : ByteArray := prog_45_method_27_code
def yJ8_newLength_cabcc : MethodName := ⟨RJ8, "newLength", "(III)I"⟩
abbrev cJ8_hugeLength_7cf53 : ByteArray := prog_45_method_28_code
def yJ8_hugeLength_7cf53 : MethodName := ⟨RJ8, "hugeLength", "(II)I"⟩
def RJ3 : String := "jdk/internal/util/Preconditions"
def TJ3 : u_T := fun k => match k with
  | _ => ("", "", "", false)
def tyJ3 : Nat → FieldType := fun k => match k with
  | _ => .int
abbrev wsJ30 : List Cond := u_ws RJ3 TJ3 0
theorem nmJ3 : ∀ a, a < 0 → ∀ b, b < 0 → a ≠ b → (TJ3 a).2.1 ≠ (TJ3 b).2.1 := by decide +kernel
theorem tyJ3_ok : ∀ k, k < 0 → parseFieldDescriptor (TJ3 k).2.2.1 = some (tyJ3 k) := by decide +kernel
abbrev cJ3_checkIndex_8e157 : ByteArray := prog_46_method_11_code
def yJ3_checkIndex_8e157 : MethodName := ⟨RJ3, "checkIndex", "(IILjava/util/function/BiFunction;)I"⟩
abbrev cJ3_checkFromToIndex_8c36e : ByteArray := prog_46_method_12_code
def yJ3_checkFromToIndex_8c36e : MethodName := ⟨RJ3, "checkFromToIndex", "(IIILjava/util/function/BiFunction;)I"⟩
abbrev cJ3_checkFromIndexSize_8c36e : ByteArray := prog_46_method_13_code
def yJ3_checkFromIndexSize_8c36e : MethodName := ⟨RJ3, "checkFromIndexSize", "(IIILjava/util/function/BiFunction;)I"⟩
def RL : String := "GrainElevatorLaw"
abbrev cL_cell : ByteArray := method_2_code
def yL_cell : MethodName := ⟨RL, "cell", "([II)I"⟩
abbrev cL_addBin : ByteArray := method_3_code
def yL_addBin : MethodName := ⟨RL, "addBin", "(LGrainElevator;IZ)I"⟩
abbrev cL_capacityOf : ByteArray := method_4_code
def yL_capacityOf : MethodName := ⟨RL, "capacityOf", "(LGrainElevator;I)I"⟩
abbrev cL_setRule : ByteArray := method_5_code
def yL_setRule : MethodName := ⟨RL, "setRule", "(LGrainElevator;IIII)I"⟩
abbrev cL_setSeason : ByteArray := method_6_code
def yL_setSeason : MethodName := ⟨RL, "setSeason", "(LGrainElevator;I)I"⟩
abbrev cL_gradeFor : ByteArray := method_7_code
def yL_gradeFor : MethodName := ⟨RL, "gradeFor", "(LGrainElevator;II)I"⟩
abbrev cL_setPrice : ByteArray := method_8_code
def yL_setPrice : MethodName := ⟨RL, "setPrice", "(LGrainElevator;II)I"⟩
abbrev cL_load : ByteArray := method_9_code
def yL_load : MethodName := ⟨RL, "load", "(LGrainElevator;IIII)I"⟩
abbrev cL_sell : ByteArray := method_10_code
def yL_sell : MethodName := ⟨RL, "sell", "(LGrainElevator;II)I"⟩
abbrev cL_transfer : ByteArray := method_11_code
def yL_transfer : MethodName := ⟨RL, "transfer", "(LGrainElevator;III)I"⟩
abbrev cL_dry : ByteArray := method_12_code
def yL_dry : MethodName := ⟨RL, "dry", "(LGrainElevator;II)I"⟩
abbrev cL_dryingCost : ByteArray := method_13_code
def yL_dryingCost : MethodName := ⟨RL, "dryingCost", "(LGrainElevator;II)I"⟩
abbrev cL_bushelsIn : ByteArray := method_14_code
def yL_bushelsIn : MethodName := ⟨RL, "bushelsIn", "(LGrainElevator;I)I"⟩
abbrev cL_layersIn : ByteArray := method_15_code
def yL_layersIn : MethodName := ⟨RL, "layersIn", "(LGrainElevator;I)I"⟩
abbrev cL_layerBushels : ByteArray := method_16_code
def yL_layerBushels : MethodName := ⟨RL, "layerBushels", "(LGrainElevator;II)I"⟩
abbrev cL_layerAnew : ByteArray := method_17_code
def yL_layerAnew : MethodName := ⟨RL, "layerAnew", "(LGrainElevator;II)I"⟩
abbrev cL_layerMoisture : ByteArray := method_18_code
def yL_layerMoisture : MethodName := ⟨RL, "layerMoisture", "(LGrainElevator;II)I"⟩
abbrev cL_layerForeign : ByteArray := method_19_code
def yL_layerForeign : MethodName := ⟨RL, "layerForeign", "(LGrainElevator;II)I"⟩
abbrev cL_layerGrade : ByteArray := method_20_code
def yL_layerGrade : MethodName := ⟨RL, "layerGrade", "(LGrainElevator;II)I"⟩
abbrev cL_sellBlend : ByteArray := method_21_code
def yL_sellBlend : MethodName := ⟨RL, "sellBlend", "(LGrainElevator;IIII)I"⟩
abbrev cL_setFutures : ByteArray := method_22_code
def yL_setFutures : MethodName := ⟨RL, "setFutures", "(LGrainElevator;I)I"⟩
abbrev cL_writeBin : ByteArray := method_23_code
def yL_writeBin : MethodName := ⟨RL, "writeBin", "(LGrainElevator;I)I"⟩
abbrev cL_lineAt : ByteArray := method_24_code
def yL_lineAt : MethodName := ⟨RL, "lineAt", "(LGrainElevator;I)I"⟩
abbrev cL_in : ByteArray := method_25_code
def yL_in : MethodName := ⟨RL, "in", "([III)I"⟩
abbrev cL_begun : ByteArray := method_26_code
def yL_begun : MethodName := ⟨RL, "begun", "()[I"⟩
abbrev cL_at : ByteArray := method_27_code
def yL_at : MethodName := ⟨RL, "at", "(II)I"⟩
abbrev cL_within : ByteArray := method_28_code
def yL_within : MethodName := ⟨RL, "within", "([II)I"⟩
abbrev cL_graded : ByteArray := method_29_code
def yL_graded : MethodName := ⟨RL, "graded", "([III)I"⟩
abbrev cL_come : ByteArray := method_30_code
def yL_come : MethodName := ⟨RL, "come", "([IIIIII)V"⟩
abbrev cL_dropFirst : ByteArray := method_31_code
def yL_dropFirst : MethodName := ⟨RL, "dropFirst", "([III)V"⟩
abbrev cL_out : ByteArray := method_32_code
def yL_out : MethodName := ⟨RL, "out", "([IIII)[I"⟩
abbrev cL_all : ByteArray := method_33_code
def yL_all : MethodName := ⟨RL, "all", "([I)I"⟩
abbrev cL_note : ByteArray := method_34_code
def yL_note : MethodName := ⟨RL, "note", "([II)V"⟩
abbrev cL_copied : ByteArray := method_35_code
def yL_copied : MethodName := ⟨RL, "copied", "([I)[I"⟩
abbrev cL_cost : ByteArray := method_36_code
def yL_cost : MethodName := ⟨RL, "cost", "([IIIIII)I"⟩
abbrev cL_share : ByteArray := method_37_code
def yL_share : MethodName := ⟨RL, "share", "([IIIII)I"⟩
abbrev cL_isLoaded : ByteArray := method_38_code
def yL_isLoaded : MethodName := ⟨RL, "isLoaded", "(LGrainElevator;[I[J[II)Z"⟩
abbrev cL_isBin : ByteArray := method_39_code
def yL_isBin : MethodName := ⟨RL, "isBin", "(LGrainElevator;[IIZ)Z"⟩
abbrev cL_begun_ : ByteArray := method_40_code
def yL_begun_ : MethodName := ⟨RL, "begun", "([I[I[J)LGrainElevator;"⟩
abbrev cL_isDried : ByteArray := method_41_code
def yL_isDried : MethodName := ⟨RL, "isDried", "(LGrainElevator;[I[JII)Z"⟩
abbrev cL_isBlended : ByteArray := method_42_code
def yL_isBlended : MethodName := ⟨RL, "isBlended", "(LGrainElevator;[I[JIIII)Z"⟩
abbrev cL_isMoved : ByteArray := method_43_code
def yL_isMoved : MethodName := ⟨RL, "isMoved", "(LGrainElevator;[IIII)Z"⟩
abbrev cL_isDone : ByteArray := method_44_code
def yL_isDone : MethodName := ⟨RL, "isDone", "(LGrainElevator;[I[J[II)Z"⟩
abbrev cL_areLayers : ByteArray := method_45_code
def yL_areLayers : MethodName := ⟨RL, "areLayers", "(LGrainElevator;[I)Z"⟩
abbrev cL_isLine : ByteArray := method_46_code
def yL_isLine : MethodName := ⟨RL, "isLine", "(LGrainElevator;ILjava/lang/StringBuilder;)Z"⟩
abbrev cL_law : ByteArray := code
def yL_law : MethodName := ⟨RL, "law", "([I)Z"⟩
/-- the classes whose objects the worlds hold: 0 Bin, 1 Blend, 2 Event, 3 Flow, 4 Hedge, 5 Rules, 6 GrainElevator, 7 (Rules again: not used), 8 StringBuilder, 9 ArrayList -/
abbrev vwc : List vw_C := [(RX0, TX0, 9), (RX1, TX1, 3), (RX2, TX2, 7), (RX3, TX3, 7), (RX4, TX4, 5), (RX5, TX5, 3), (RX6, TX6, 8), (RX5, TX5, 3), (RJ4, TJ4, 4), (RJx4a65c, TJx4a65c, 3)]
