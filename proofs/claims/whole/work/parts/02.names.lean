def RX0 : String := "DustSheetMap$1"
def TX0 : u_T := fun k => match k with
  | _ => ("", "", "", false)
def tyX0 : Nat → FieldType := fun k => match k with
  | _ => .int
abbrev wsX00 : List Cond := u_ws RX0 TX0 0
theorem nmX0 : ∀ a, a < 0 → ∀ b, b < 0 → a ≠ b → (TX0 a).2.1 ≠ (TX0 b).2.1 := by decide +kernel
theorem tyX0_ok : ∀ k, k < 0 → parseFieldDescriptor (TX0 k).2.2.1 = some (tyX0 k) := by decide +kernel
def RX1 : String := "DustSheetMap$CellQueue"
def TX1 : u_T := fun k => match k with
  | 0 => ("DustSheetMap$CellQueue", "waiting", "[Z", true)
  | _ => ("DustSheetMap$CellQueue", "keys", "[I", true)
def tyX1 : Nat → FieldType := fun k => match k with
  | 0 => .array .boolean
  | _ => .array .int
abbrev wsX10 : List Cond := u_ws RX1 TX1 2
theorem nmX1 : ∀ a, a < 2 → ∀ b, b < 2 → a ≠ b → (TX1 a).2.1 ≠ (TX1 b).2.1 := by decide +kernel
theorem tyX1_ok : ∀ k, k < 2 → parseFieldDescriptor (TX1 k).2.2.1 = some (tyX1 k) := by decide +kernel
abbrev cX1_init : ByteArray := prog_3_method_1_code
def yX1_init : MethodName := ⟨RX1, "<init>", "()V"⟩
abbrev cX1_put : ByteArray := prog_3_method_2_code
def yX1_put : MethodName := ⟨RX1, "put", "(II)V"⟩
abbrev cX1_take : ByteArray := prog_3_method_3_code
def yX1_take : MethodName := ⟨RX1, "take", "()I"⟩
def RX2 : String := "DustSheetMap$Command"
def TX2 : u_T := fun k => match k with
  | 0 => ("DustSheetMap$Command", "verb", "LDustSheetMap$Verb;", true)
  | 1 => ("DustSheetMap$Command", "cell", "I", true)
  | _ => ("DustSheetMap$Command", "number", "I", true)
def tyX2 : Nat → FieldType := fun k => match k with
  | 0 => .object "DustSheetMap$Verb"
  | 1 => .int
  | _ => .int
abbrev wsX20 : List Cond := u_ws RX2 TX2 3
theorem nmX2 : ∀ a, a < 3 → ∀ b, b < 3 → a ≠ b → (TX2 a).2.1 ≠ (TX2 b).2.1 := by decide +kernel
theorem tyX2_ok : ∀ k, k < 3 → parseFieldDescriptor (TX2 k).2.2.1 = some (tyX2 k) := by decide +kernel
abbrev cX2_init : ByteArray := prog_4_method_1_code
def yX2_init : MethodName := ⟨RX2, "<init>", "(LDustSheetMap$Verb;II)V"⟩
def RX3 : String := "DustSheetMap$Flood"
def TX3 : u_T := fun k => match k with
  | 0 => ("DustSheetMap$Flood", "reached", "[Z", true)
  | 1 => ("DustSheetMap$Flood", "cells", "[I", true)
  | 2 => ("DustSheetMap$Flood", "reachedCount", "I", false)
  | _ => ("DustSheetMap$Flood", "takenCount", "I", false)
def tyX3 : Nat → FieldType := fun k => match k with
  | 0 => .array .boolean
  | 1 => .array .int
  | 2 => .int
  | _ => .int
abbrev wsX30 : List Cond := u_ws RX3 TX3 4
theorem nmX3 : ∀ a, a < 4 → ∀ b, b < 4 → a ≠ b → (TX3 a).2.1 ≠ (TX3 b).2.1 := by decide +kernel
theorem tyX3_ok : ∀ k, k < 4 → parseFieldDescriptor (TX3 k).2.2.1 = some (tyX3 k) := by decide +kernel
abbrev cX3_init : ByteArray := prog_5_method_1_code
def yX3_init : MethodName := ⟨RX3, "<init>", "()V"⟩
abbrev cX3_dry : ByteArray := prog_5_method_2_code
def yX3_dry : MethodName := ⟨RX3, "dry", "()V"⟩
abbrev cX3_reach : ByteArray := prog_5_method_3_code
def yX3_reach : MethodName := ⟨RX3, "reach", "(I)V"⟩
abbrev cX3_take : ByteArray := prog_5_method_4_code
def yX3_take : MethodName := ⟨RX3, "take", "()I"⟩
def RX4 : String := "DustSheetMap$History"
def TX4 : u_T := fun k => match k with
  | 0 => ("DustSheetMap$History", "sheets", "[LDustSheetMap$Sheet;", true)
  | 1 => ("DustSheetMap$History", "place", "I", false)
  | _ => ("DustSheetMap$History", "count", "I", false)
def tyX4 : Nat → FieldType := fun k => match k with
  | 0 => .array (.object "DustSheetMap$Sheet")
  | 1 => .int
  | _ => .int
abbrev wsX40 : List Cond := u_ws RX4 TX4 3
theorem nmX4 : ∀ a, a < 3 → ∀ b, b < 3 → a ≠ b → (TX4 a).2.1 ≠ (TX4 b).2.1 := by decide +kernel
theorem tyX4_ok : ∀ k, k < 3 → parseFieldDescriptor (TX4 k).2.2.1 = some (tyX4 k) := by decide +kernel
abbrev cX4_init : ByteArray := prog_6_method_1_code
def yX4_init : MethodName := ⟨RX4, "<init>", "()V"⟩
abbrev cX4_keep : ByteArray := prog_6_method_2_code
def yX4_keep : MethodName := ⟨RX4, "keep", "(LDustSheetMap$Sheet;)V"⟩
abbrev cX4_takeBack : ByteArray := prog_6_method_3_code
def yX4_takeBack : MethodName := ⟨RX4, "takeBack", "(LDustSheetMap$Sheet;)Z"⟩
abbrev cX4_forget : ByteArray := prog_6_method_4_code
def yX4_forget : MethodName := ⟨RX4, "forget", "()V"⟩
def RX5 : String := "DustSheetMap$Regions"
def TX5 : u_T := fun k => match k with
  | 0 => ("DustSheetMap$Regions", "flood", "LDustSheetMap$Flood;", true)
  | 1 => ("DustSheetMap$Regions", "unions", "LDustSheetMap$Unions;", true)
  | 2 => ("DustSheetMap$Regions", "raised", "[Z", true)
  | _ => ("DustSheetMap$Regions", "ranked", "[I", true)
def tyX5 : Nat → FieldType := fun k => match k with
  | 0 => .object "DustSheetMap$Flood"
  | 1 => .object "DustSheetMap$Unions"
  | 2 => .array .boolean
  | _ => .array .int
abbrev wsX50 : List Cond := u_ws RX5 TX5 4
theorem nmX5 : ∀ a, a < 4 → ∀ b, b < 4 → a ≠ b → (TX5 a).2.1 ≠ (TX5 b).2.1 := by decide +kernel
theorem tyX5_ok : ∀ k, k < 4 → parseFieldDescriptor (TX5 k).2.2.1 = some (tyX5 k) := by decide +kernel
abbrev cX5_init : ByteArray := prog_7_method_1_code
def yX5_init : MethodName := ⟨RX5, "<init>", "()V"⟩
abbrev cX5_cellAtRank : ByteArray := prog_7_method_2_code
def yX5_cellAtRank : MethodName := ⟨RX5, "cellAtRank", "(LDustSheetMap$Sheet;I)I"⟩
abbrev cX5_rankCells : ByteArray := prog_7_method_3_code
def yX5_rankCells : MethodName := ⟨RX5, "rankCells", "(LDustSheetMap$Sheet;)V"⟩
abbrev cX5_islandsFlooded : ByteArray := prog_7_method_4_code
def yX5_islandsFlooded : MethodName := ⟨RX5, "islandsFlooded", "(LDustSheetMap$Sheet;I)I"⟩
abbrev cX5_floodIsland : ByteArray := prog_7_method_5_code
def yX5_floodIsland : MethodName := ⟨RX5, "floodIsland", "(LDustSheetMap$Sheet;II)V"⟩
abbrev cX5_islandsUnited : ByteArray := prog_7_method_6_code
def yX5_islandsUnited : MethodName := ⟨RX5, "islandsUnited", "(LDustSheetMap$Sheet;I)I"⟩
abbrev cX5_raise : ByteArray := prog_7_method_7_code
def yX5_raise : MethodName := ⟨RX5, "raise", "(I)I"⟩
abbrev cX5_countBasins : ByteArray := prog_7_method_8_code
def yX5_countBasins : MethodName := ⟨RX5, "countBasins", "(LDustSheetMap$Sheet;)I"⟩
abbrev cX5_basinFollowed : ByteArray := prog_7_method_9_code
def yX5_basinFollowed : MethodName := ⟨RX5, "basinFollowed", "(LDustSheetMap$Sheet;I)I"⟩
abbrev cX5_basinClimbed : ByteArray := prog_7_method_10_code
def yX5_basinClimbed : MethodName := ⟨RX5, "basinClimbed", "(LDustSheetMap$Sheet;I)I"⟩
def RX6 : String := "DustSheetMap$Routes"
def TX6 : u_T := fun k => match k with
  | 0 => ("DustSheetMap$Routes", "queue", "LDustSheetMap$CellQueue;", true)
  | 1 => ("DustSheetMap$Routes", "flood", "LDustSheetMap$Flood;", true)
  | 2 => ("DustSheetMap$Routes", "unions", "LDustSheetMap$Unions;", true)
  | 3 => ("DustSheetMap$Routes", "costs", "[I", true)
  | 4 => ("DustSheetMap$Routes", "pairs", "[I", true)
  | _ => ("DustSheetMap$Routes", "pairCount", "I", false)
def tyX6 : Nat → FieldType := fun k => match k with
  | 0 => .object "DustSheetMap$CellQueue"
  | 1 => .object "DustSheetMap$Flood"
  | 2 => .object "DustSheetMap$Unions"
  | 3 => .array .int
  | 4 => .array .int
  | _ => .int
abbrev wsX60 : List Cond := u_ws RX6 TX6 6
theorem nmX6 : ∀ a, a < 6 → ∀ b, b < 6 → a ≠ b → (TX6 a).2.1 ≠ (TX6 b).2.1 := by decide +kernel
theorem tyX6_ok : ∀ k, k < 6 → parseFieldDescriptor (TX6 k).2.2.1 = some (tyX6 k) := by decide +kernel
abbrev cX6_init : ByteArray := prog_8_method_1_code
def yX6_init : MethodName := ⟨RX6, "<init>", "()V"⟩
abbrev cX6_costByQueue : ByteArray := prog_8_method_2_code
def yX6_costByQueue : MethodName := ⟨RX6, "costByQueue", "(LDustSheetMap$Sheet;II)I"⟩
abbrev cX6_costByRounds : ByteArray := prog_8_method_3_code
def yX6_costByRounds : MethodName := ⟨RX6, "costByRounds", "(LDustSheetMap$Sheet;II)I"⟩
abbrev cX6_knownCost : ByteArray := prog_8_method_4_code
def yX6_knownCost : MethodName := ⟨RX6, "knownCost", "(I)I"⟩
abbrev cX6_spread : ByteArray := prog_8_method_5_code
def yX6_spread : MethodName := ⟨RX6, "spread", "(LDustSheetMap$Sheet;I)V"⟩
abbrev cX6_improveAll : ByteArray := prog_8_method_6_code
def yX6_improveAll : MethodName := ⟨RX6, "improveAll", "(LDustSheetMap$Sheet;)Z"⟩
abbrev cX6_improve : ByteArray := prog_8_method_7_code
def yX6_improve : MethodName := ⟨RX6, "improve", "(LDustSheetMap$Sheet;II)Z"⟩
abbrev cX6_stepByUnions : ByteArray := prog_8_method_8_code
def yX6_stepByUnions : MethodName := ⟨RX6, "stepByUnions", "(LDustSheetMap$Sheet;II)I"⟩
abbrev cX6_rankPairs : ByteArray := prog_8_method_9_code
def yX6_rankPairs : MethodName := ⟨RX6, "rankPairs", "(LDustSheetMap$Sheet;)V"⟩
abbrev cX6_rankPair : ByteArray := prog_8_method_10_code
def yX6_rankPair : MethodName := ⟨RX6, "rankPair", "(LDustSheetMap$Sheet;II)V"⟩
abbrev cX6_stepByHalving : ByteArray := prog_8_method_11_code
def yX6_stepByHalving : MethodName := ⟨RX6, "stepByHalving", "(LDustSheetMap$Sheet;II)I"⟩
abbrev cX6_leads : ByteArray := prog_8_method_12_code
def yX6_leads : MethodName := ⟨RX6, "leads", "(LDustSheetMap$Sheet;III)Z"⟩
def RX7 : String := "DustSheetMap$Sheet"
def TX7 : u_T := fun k => match k with
  | 0 => ("DustSheetMap$Sheet", "heights", "[I", true)
  | 1 => ("DustSheetMap$Sheet", "drapedHeights", "[I", true)
  | 2 => ("DustSheetMap$Sheet", "pegs", "[Z", true)
  | 3 => ("DustSheetMap$Sheet", "water", "[I", true)
  | 4 => ("DustSheetMap$Sheet", "wear", "[I", true)
  | 5 => ("DustSheetMap$Sheet", "moths", "[I", true)
  | 6 => ("DustSheetMap$Sheet", "mothCount", "I", false)
  | 7 => ("DustSheetMap$Sheet", "nights", "I", false)
  | 8 => ("DustSheetMap$Sheet", "poured", "I", false)
  | _ => ("DustSheetMap$Sheet", "drained", "I", false)
def tyX7 : Nat → FieldType := fun k => match k with
  | 0 => .array .int
  | 1 => .array .int
  | 2 => .array .boolean
  | 3 => .array .int
  | 4 => .array .int
  | 5 => .array .int
  | 6 => .int
  | 7 => .int
  | 8 => .int
  | _ => .int
abbrev wsX70 : List Cond := u_ws RX7 TX7 10
theorem nmX7 : ∀ a, a < 10 → ∀ b, b < 10 → a ≠ b → (TX7 a).2.1 ≠ (TX7 b).2.1 := by decide +kernel
theorem tyX7_ok : ∀ k, k < 10 → parseFieldDescriptor (TX7 k).2.2.1 = some (tyX7 k) := by decide +kernel
abbrev cX7_init : ByteArray := prog_9_method_1_code
def yX7_init : MethodName := ⟨RX7, "<init>", "()V"⟩
abbrev cX7_copyFrom : ByteArray := prog_9_method_2_code
def yX7_copyFrom : MethodName := ⟨RX7, "copyFrom", "(LDustSheetMap$Sheet;)V"⟩
abbrev cX7_refusalOf : ByteArray := prog_9_method_3_code
def yX7_refusalOf : MethodName := ⟨RX7, "refusalOf", "(LDustSheetMap$Command;)I"⟩
abbrev cX7_refusalOfHeight : ByteArray := prog_9_method_4_code
def yX7_refusalOfHeight : MethodName := ⟨RX7, "refusalOfHeight", "(II)I"⟩
abbrev cX7_refusalOfPegging : ByteArray := prog_9_method_5_code
def yX7_refusalOfPegging : MethodName := ⟨RX7, "refusalOfPegging", "(IZ)I"⟩
abbrev cX7_refusalOfPouring : ByteArray := prog_9_method_6_code
def yX7_refusalOfPouring : MethodName := ⟨RX7, "refusalOfPouring", "(II)I"⟩
abbrev cX7_refusalOfMoth : ByteArray := prog_9_method_7_code
def yX7_refusalOfMoth : MethodName := ⟨RX7, "refusalOfMoth", "(I)I"⟩
abbrev cX7_refusalOfPatch : ByteArray := prog_9_method_8_code
def yX7_refusalOfPatch : MethodName := ⟨RX7, "refusalOfPatch", "(I)I"⟩
abbrev cX7_detailOf : ByteArray := prog_9_method_9_code
def yX7_detailOf : MethodName := ⟨RX7, "detailOf", "(ILDustSheetMap$Command;)I"⟩
abbrev cX7_carryOut : ByteArray := prog_9_method_10_code
def yX7_carryOut : MethodName := ⟨RX7, "carryOut", "(LDustSheetMap$Command;)I"⟩
abbrev cX7_replaceHeight : ByteArray := prog_9_method_11_code
def yX7_replaceHeight : MethodName := ⟨RX7, "replaceHeight", "(II)I"⟩
abbrev cX7_replacePeg : ByteArray := prog_9_method_12_code
def yX7_replacePeg : MethodName := ⟨RX7, "replacePeg", "(IZ)I"⟩
abbrev cX7_drapeAll : ByteArray := prog_9_method_13_code
def yX7_drapeAll : MethodName := ⟨RX7, "drapeAll", "()I"⟩
abbrev cX7_drapedHeight : ByteArray := prog_9_method_14_code
def yX7_drapedHeight : MethodName := ⟨RX7, "drapedHeight", "(I)I"⟩
abbrev cX7_pourOn : ByteArray := prog_9_method_15_code
def yX7_pourOn : MethodName := ⟨RX7, "pourOn", "(II)I"⟩
abbrev cX7_settleAll : ByteArray := prog_9_method_16_code
def yX7_settleAll : MethodName := ⟨RX7, "settleAll", "()I"⟩
abbrev cX7_letFlow : ByteArray := prog_9_method_17_code
def yX7_letFlow : MethodName := ⟨RX7, "letFlow", "(II)I"⟩
abbrev cX7_letMothCome : ByteArray := prog_9_method_18_code
def yX7_letMothCome : MethodName := ⟨RX7, "letMothCome", "(I)I"⟩
abbrev cX7_letMothGo : ByteArray := prog_9_method_19_code
def yX7_letMothGo : MethodName := ⟨RX7, "letMothGo", "(I)I"⟩
abbrev cX7_letNightPass : ByteArray := prog_9_method_20_code
def yX7_letNightPass : MethodName := ⟨RX7, "letNightPass", "()I"⟩
abbrev cX7_flightEnd : ByteArray := prog_9_method_21_code
def yX7_flightEnd : MethodName := ⟨RX7, "flightEnd", "(I)I"⟩
abbrev cX7_wearDown : ByteArray := prog_9_method_22_code
def yX7_wearDown : MethodName := ⟨RX7, "wearDown", "(I)I"⟩
abbrev cX7_patchUp : ByteArray := prog_9_method_23_code
def yX7_patchUp : MethodName := ⟨RX7, "patchUp", "(I)I"⟩
abbrev cX7_hasHole : ByteArray := prog_9_method_24_code
def yX7_hasHole : MethodName := ⟨RX7, "hasHole", "(I)Z"⟩
abbrev cX7_isMoth : ByteArray := prog_9_method_25_code
def yX7_isMoth : MethodName := ⟨RX7, "isMoth", "(I)Z"⟩
abbrev cX7_mothOn : ByteArray := prog_9_method_26_code
def yX7_mothOn : MethodName := ⟨RX7, "mothOn", "(I)I"⟩
abbrev cX7_flowOf : ByteArray := prog_9_method_27_code
def yX7_flowOf : MethodName := ⟨RX7, "flowOf", "(I)I"⟩
abbrev cX7_endOf : ByteArray := prog_9_method_28_code
def yX7_endOf : MethodName := ⟨RX7, "endOf", "(I)I"⟩
abbrev cX7_difference : ByteArray := prog_9_method_29_code
def yX7_difference : MethodName := ⟨RX7, "difference", "(II)I"⟩
abbrev cX7_meanDifference : ByteArray := prog_9_method_30_code
def yX7_meanDifference : MethodName := ⟨RX7, "meanDifference", "(I)F"⟩
abbrev cX7_countPegs : ByteArray := prog_9_method_31_code
def yX7_countPegs : MethodName := ⟨RX7, "countPegs", "()I"⟩
abbrev cX7_countHoles : ByteArray := prog_9_method_32_code
def yX7_countHoles : MethodName := ⟨RX7, "countHoles", "()I"⟩
abbrev cX7_sumOfWater : ByteArray := prog_9_method_33_code
def yX7_sumOfWater : MethodName := ⟨RX7, "sumOfWater", "()I"⟩
abbrev cX7_sumOfHeights : ByteArray := prog_9_method_34_code
def yX7_sumOfHeights : MethodName := ⟨RX7, "sumOfHeights", "()I"⟩
def RX8 : String := "DustSheetMap$SpillLevels"
def TX8 : u_T := fun k => match k with
  | 0 => ("DustSheetMap$SpillLevels", "queue", "LDustSheetMap$CellQueue;", true)
  | _ => ("DustSheetMap$SpillLevels", "levels", "[I", true)
def tyX8 : Nat → FieldType := fun k => match k with
  | 0 => .object "DustSheetMap$CellQueue"
  | _ => .array .int
abbrev wsX80 : List Cond := u_ws RX8 TX8 2
theorem nmX8 : ∀ a, a < 2 → ∀ b, b < 2 → a ≠ b → (TX8 a).2.1 ≠ (TX8 b).2.1 := by decide +kernel
theorem tyX8_ok : ∀ k, k < 2 → parseFieldDescriptor (TX8 k).2.2.1 = some (tyX8 k) := by decide +kernel
abbrev cX8_init : ByteArray := prog_10_method_1_code
def yX8_init : MethodName := ⟨RX8, "<init>", "()V"⟩
abbrev cX8_byQueue : ByteArray := prog_10_method_2_code
def yX8_byQueue : MethodName := ⟨RX8, "byQueue", "(LDustSheetMap$Sheet;I)I"⟩
abbrev cX8_byRounds : ByteArray := prog_10_method_3_code
def yX8_byRounds : MethodName := ⟨RX8, "byRounds", "(LDustSheetMap$Sheet;I)I"⟩
abbrev cX8_volume : ByteArray := prog_10_method_4_code
def yX8_volume : MethodName := ⟨RX8, "volume", "(LDustSheetMap$Sheet;)I"⟩
abbrev cX8_beginAtExits : ByteArray := prog_10_method_5_code
def yX8_beginAtExits : MethodName := ⟨RX8, "beginAtExits", "(LDustSheetMap$Sheet;)V"⟩
abbrev cX8_fillByQueue : ByteArray := prog_10_method_6_code
def yX8_fillByQueue : MethodName := ⟨RX8, "fillByQueue", "(LDustSheetMap$Sheet;)V"⟩
abbrev cX8_spread : ByteArray := prog_10_method_7_code
def yX8_spread : MethodName := ⟨RX8, "spread", "(LDustSheetMap$Sheet;I)V"⟩
abbrev cX8_improveAll : ByteArray := prog_10_method_8_code
def yX8_improveAll : MethodName := ⟨RX8, "improveAll", "(LDustSheetMap$Sheet;)Z"⟩
abbrev cX8_improve : ByteArray := prog_10_method_9_code
def yX8_improve : MethodName := ⟨RX8, "improve", "(LDustSheetMap$Sheet;II)Z"⟩
def RX9 : String := "DustSheetMap$TextParser"
def TX9 : u_T := fun k => match k with
  | 0 => ("DustSheetMap$TextParser", "buffer", "[C", true)
  | 1 => ("DustSheetMap$TextParser", "commands", "Ljava/util/ArrayList;", true)
  | 2 => ("DustSheetMap$TextParser", "length", "I", false)
  | 3 => ("DustSheetMap$TextParser", "fault", "I", false)
  | 4 => ("DustSheetMap$TextParser", "row", "I", false)
  | 5 => ("DustSheetMap$TextParser", "column", "I", false)
  | _ => ("DustSheetMap$TextParser", "number", "I", false)
def tyX9 : Nat → FieldType := fun k => match k with
  | 0 => .array .char
  | 1 => .object "java/util/ArrayList"
  | 2 => .int
  | 3 => .int
  | 4 => .int
  | 5 => .int
  | _ => .int
abbrev wsX90 : List Cond := u_ws RX9 TX9 7
theorem nmX9 : ∀ a, a < 7 → ∀ b, b < 7 → a ≠ b → (TX9 a).2.1 ≠ (TX9 b).2.1 := by decide +kernel
theorem tyX9_ok : ∀ k, k < 7 → parseFieldDescriptor (TX9 k).2.2.1 = some (tyX9 k) := by decide +kernel
abbrev cX9_init : ByteArray := prog_11_method_1_code
def yX9_init : MethodName := ⟨RX9, "<init>", "()V"⟩
abbrev cX9_append : ByteArray := prog_11_method_2_code
def yX9_append : MethodName := ⟨RX9, "append", "(C)Z"⟩
abbrev cX9_empty : ByteArray := prog_11_method_3_code
def yX9_empty : MethodName := ⟨RX9, "empty", "()V"⟩
abbrev cX9_parse : ByteArray := prog_11_method_4_code
def yX9_parse : MethodName := ⟨RX9, "parse", "()I"⟩
abbrev cX9_readCommand : ByteArray := prog_11_method_5_code
def yX9_readCommand : MethodName := ⟨RX9, "readCommand", "(I)I"⟩
abbrev cX9_readForm : ByteArray := prog_11_method_6_code
def yX9_readForm : MethodName := ⟨RX9, "readForm", "(LDustSheetMap$Verb;I)I"⟩
abbrev cX9_readSign : ByteArray := prog_11_method_7_code
def yX9_readSign : MethodName := ⟨RX9, "readSign", "(CI)I"⟩
abbrev cX9_readNumber : ByteArray := prog_11_method_8_code
def yX9_readNumber : MethodName := ⟨RX9, "readNumber", "(I)I"⟩
abbrev cX9_digitAt : ByteArray := prog_11_method_9_code
def yX9_digitAt : MethodName := ⟨RX9, "digitAt", "(I)I"⟩
def RX10 : String := "DustSheetMap$Unions"
def TX10 : u_T := fun k => match k with
  | _ => ("DustSheetMap$Unions", "parents", "[I", true)
def tyX10 : Nat → FieldType := fun k => match k with
  | _ => .array .int
abbrev wsX100 : List Cond := u_ws RX10 TX10 1
theorem nmX10 : ∀ a, a < 1 → ∀ b, b < 1 → a ≠ b → (TX10 a).2.1 ≠ (TX10 b).2.1 := by decide +kernel
theorem tyX10_ok : ∀ k, k < 1 → parseFieldDescriptor (TX10 k).2.2.1 = some (tyX10 k) := by decide +kernel
abbrev cX10_init : ByteArray := prog_12_method_1_code
def yX10_init : MethodName := ⟨RX10, "<init>", "()V"⟩
abbrev cX10_separate : ByteArray := prog_12_method_2_code
def yX10_separate : MethodName := ⟨RX10, "separate", "()V"⟩
abbrev cX10_rootOf : ByteArray := prog_12_method_3_code
def yX10_rootOf : MethodName := ⟨RX10, "rootOf", "(I)I"⟩
abbrev cX10_unite : ByteArray := prog_12_method_4_code
def yX10_unite : MethodName := ⟨RX10, "unite", "(II)Z"⟩
def RX11 : String := "DustSheetMap$Verb"
def TX11 : u_T := fun k => match k with
  | _ => ("", "", "", false)
def tyX11 : Nat → FieldType := fun k => match k with
  | _ => .int
abbrev wsX110 : List Cond := u_ws RX11 TX11 0
theorem nmX11 : ∀ a, a < 0 → ∀ b, b < 0 → a ≠ b → (TX11 a).2.1 ≠ (TX11 b).2.1 := by decide +kernel
theorem tyX11_ok : ∀ k, k < 0 → parseFieldDescriptor (TX11 k).2.2.1 = some (tyX11 k) := by decide +kernel
def RX12 : String := "DustSheetMap"
def TX12 : u_T := fun k => match k with
  | 0 => ("DustSheetMap", "sheet", "LDustSheetMap$Sheet;", true)
  | 1 => ("DustSheetMap", "snapshot", "LDustSheetMap$Sheet;", true)
  | 2 => ("DustSheetMap", "sheetAhead", "LDustSheetMap$Sheet;", true)
  | 3 => ("DustSheetMap", "trial", "LDustSheetMap$Sheet;", true)
  | 4 => ("DustSheetMap", "history", "LDustSheetMap$History;", true)
  | 5 => ("DustSheetMap", "regions", "LDustSheetMap$Regions;", true)
  | 6 => ("DustSheetMap", "spillLevels", "LDustSheetMap$SpillLevels;", true)
  | 7 => ("DustSheetMap", "routes", "LDustSheetMap$Routes;", true)
  | 8 => ("DustSheetMap", "parser", "LDustSheetMap$TextParser;", true)
  | 9 => ("DustSheetMap", "line", "Ljava/lang/StringBuilder;", true)
  | 10 => ("DustSheetMap", "snapshotSaved", "Z", false)
  | 11 => ("DustSheetMap", "faultPosition", "I", false)
  | 12 => ("DustSheetMap", "denialNumber", "I", false)
  | 13 => ("DustSheetMap", "denialDetail", "I", false)
  | _ => ("DustSheetMap", "denialCause", "I", false)
def tyX12 : Nat → FieldType := fun k => match k with
  | 0 => .object "DustSheetMap$Sheet"
  | 1 => .object "DustSheetMap$Sheet"
  | 2 => .object "DustSheetMap$Sheet"
  | 3 => .object "DustSheetMap$Sheet"
  | 4 => .object "DustSheetMap$History"
  | 5 => .object "DustSheetMap$Regions"
  | 6 => .object "DustSheetMap$SpillLevels"
  | 7 => .object "DustSheetMap$Routes"
  | 8 => .object "DustSheetMap$TextParser"
  | 9 => .object "java/lang/StringBuilder"
  | 10 => .boolean
  | 11 => .int
  | 12 => .int
  | 13 => .int
  | _ => .int
abbrev wsX120 : List Cond := u_ws RX12 TX12 15
theorem nmX12 : ∀ a, a < 15 → ∀ b, b < 15 → a ≠ b → (TX12 a).2.1 ≠ (TX12 b).2.1 := by decide +kernel
theorem tyX12_ok : ∀ k, k < 15 → parseFieldDescriptor (TX12 k).2.2.1 = some (tyX12 k) := by decide +kernel
abbrev cX12_init : ByteArray := prog_1_method_1_code
def yX12_init : MethodName := ⟨RX12, "<init>", "()V"⟩
abbrev cX12_setHeight : ByteArray := prog_1_method_2_code
def yX12_setHeight : MethodName := ⟨RX12, "setHeight", "(III)I"⟩
abbrev cX12_peg : ByteArray := prog_1_method_3_code
def yX12_peg : MethodName := ⟨RX12, "peg", "(II)I"⟩
abbrev cX12_unpeg : ByteArray := prog_1_method_4_code
def yX12_unpeg : MethodName := ⟨RX12, "unpeg", "(II)I"⟩
abbrev cX12_drape : ByteArray := prog_1_method_5_code
def yX12_drape : MethodName := ⟨RX12, "drape", "()I"⟩
abbrev cX12_height : ByteArray := prog_1_method_6_code
def yX12_height : MethodName := ⟨RX12, "height", "(II)I"⟩
abbrev cX12_isPegged : ByteArray := prog_1_method_7_code
def yX12_isPegged : MethodName := ⟨RX12, "isPegged", "(II)Z"⟩
abbrev cX12_rowByHeight : ByteArray := prog_1_method_8_code
def yX12_rowByHeight : MethodName := ⟨RX12, "rowByHeight", "(I)I"⟩
abbrev cX12_columnByHeight : ByteArray := prog_1_method_9_code
def yX12_columnByHeight : MethodName := ⟨RX12, "columnByHeight", "(I)I"⟩
abbrev cX12_islands : ByteArray := prog_1_method_10_code
def yX12_islands : MethodName := ⟨RX12, "islands", "(I)I"⟩
abbrev cX12_islandsByUnions : ByteArray := prog_1_method_11_code
def yX12_islandsByUnions : MethodName := ⟨RX12, "islandsByUnions", "(I)I"⟩
abbrev cX12_pour : ByteArray := prog_1_method_12_code
def yX12_pour : MethodName := ⟨RX12, "pour", "(III)I"⟩
abbrev cX12_settle : ByteArray := prog_1_method_13_code
def yX12_settle : MethodName := ⟨RX12, "settle", "()I"⟩
abbrev cX12_water : ByteArray := prog_1_method_14_code
def yX12_water : MethodName := ⟨RX12, "water", "(II)I"⟩
abbrev cX12_endRow : ByteArray := prog_1_method_15_code
def yX12_endRow : MethodName := ⟨RX12, "endRow", "(II)I"⟩
abbrev cX12_endColumn : ByteArray := prog_1_method_16_code
def yX12_endColumn : MethodName := ⟨RX12, "endColumn", "(II)I"⟩
abbrev cX12_basins : ByteArray := prog_1_method_17_code
def yX12_basins : MethodName := ⟨RX12, "basins", "()I"⟩
abbrev cX12_basinSize : ByteArray := prog_1_method_18_code
def yX12_basinSize : MethodName := ⟨RX12, "basinSize", "(II)I"⟩
abbrev cX12_basinSizeUpwards : ByteArray := prog_1_method_19_code
def yX12_basinSizeUpwards : MethodName := ⟨RX12, "basinSizeUpwards", "(II)I"⟩
abbrev cX12_spillLevel : ByteArray := prog_1_method_20_code
def yX12_spillLevel : MethodName := ⟨RX12, "spillLevel", "(II)I"⟩
abbrev cX12_spillLevelByRounds : ByteArray := prog_1_method_21_code
def yX12_spillLevelByRounds : MethodName := ⟨RX12, "spillLevelByRounds", "(II)I"⟩
abbrev cX12_pondVolume : ByteArray := prog_1_method_22_code
def yX12_pondVolume : MethodName := ⟨RX12, "pondVolume", "()I"⟩
abbrev cX12_routeCost : ByteArray := prog_1_method_23_code
def yX12_routeCost : MethodName := ⟨RX12, "routeCost", "(IIII)I"⟩
abbrev cX12_routeCostByRounds : ByteArray := prog_1_method_24_code
def yX12_routeCostByRounds : MethodName := ⟨RX12, "routeCostByRounds", "(IIII)I"⟩
abbrev cX12_steepestStep : ByteArray := prog_1_method_25_code
def yX12_steepestStep : MethodName := ⟨RX12, "steepestStep", "(IIII)I"⟩
abbrev cX12_steepestStepByHalving : ByteArray := prog_1_method_26_code
def yX12_steepestStepByHalving : MethodName := ⟨RX12, "steepestStepByHalving", "(IIII)I"⟩
abbrev cX12_addMoth : ByteArray := prog_1_method_27_code
def yX12_addMoth : MethodName := ⟨RX12, "addMoth", "(II)I"⟩
abbrev cX12_removeMoth : ByteArray := prog_1_method_28_code
def yX12_removeMoth : MethodName := ⟨RX12, "removeMoth", "(I)I"⟩
abbrev cX12_passNight : ByteArray := prog_1_method_29_code
def yX12_passNight : MethodName := ⟨RX12, "passNight", "()I"⟩
abbrev cX12_patch : ByteArray := prog_1_method_30_code
def yX12_patch : MethodName := ⟨RX12, "patch", "(II)I"⟩
abbrev cX12_mothCount : ByteArray := prog_1_method_31_code
def yX12_mothCount : MethodName := ⟨RX12, "mothCount", "()I"⟩
abbrev cX12_mothRow : ByteArray := prog_1_method_32_code
def yX12_mothRow : MethodName := ⟨RX12, "mothRow", "(I)I"⟩
abbrev cX12_mothColumn : ByteArray := prog_1_method_33_code
def yX12_mothColumn : MethodName := ⟨RX12, "mothColumn", "(I)I"⟩
abbrev cX12_wear : ByteArray := prog_1_method_34_code
def yX12_wear : MethodName := ⟨RX12, "wear", "(II)I"⟩
abbrev cX12_holes : ByteArray := prog_1_method_35_code
def yX12_holes : MethodName := ⟨RX12, "holes", "()I"⟩
abbrev cX12_nightsUntilHole : ByteArray := prog_1_method_36_code
def yX12_nightsUntilHole : MethodName := ⟨RX12, "nightsUntilHole", "(II)I"⟩
abbrev cX12_nights : ByteArray := prog_1_method_37_code
def yX12_nights : MethodName := ⟨RX12, "nights", "()I"⟩
abbrev cX12_poured : ByteArray := prog_1_method_38_code
def yX12_poured : MethodName := ⟨RX12, "poured", "()I"⟩
abbrev cX12_standing : ByteArray := prog_1_method_39_code
def yX12_standing : MethodName := ⟨RX12, "standing", "()I"⟩
abbrev cX12_drained : ByteArray := prog_1_method_40_code
def yX12_drained : MethodName := ⟨RX12, "drained", "()I"⟩
abbrev cX12_meanHeight : ByteArray := prog_1_method_41_code
def yX12_meanHeight : MethodName := ⟨RX12, "meanHeight", "()D"⟩
abbrev cX12_slope : ByteArray := prog_1_method_42_code
def yX12_slope : MethodName := ⟨RX12, "slope", "(II)F"⟩
abbrev cX12_feed : ByteArray := prog_1_method_43_code
def yX12_feed : MethodName := ⟨RX12, "feed", "(C)I"⟩
abbrev cX12_execute : ByteArray := prog_1_method_44_code
def yX12_execute : MethodName := ⟨RX12, "execute", "()I"⟩
abbrev cX12_faultPosition : ByteArray := prog_1_method_45_code
def yX12_faultPosition : MethodName := ⟨RX12, "faultPosition", "()I"⟩
abbrev cX12_writeRow : ByteArray := prog_1_method_46_code
def yX12_writeRow : MethodName := ⟨RX12, "writeRow", "(I)I"⟩
abbrev cX12_lineCharacter : ByteArray := prog_1_method_47_code
def yX12_lineCharacter : MethodName := ⟨RX12, "lineCharacter", "(I)C"⟩
abbrev cX12_denial : ByteArray := prog_1_method_48_code
def yX12_denial : MethodName := ⟨RX12, "denial", "()I"⟩
abbrev cX12_denialDetail : ByteArray := prog_1_method_49_code
def yX12_denialDetail : MethodName := ⟨RX12, "denialDetail", "()I"⟩
abbrev cX12_denialCause : ByteArray := prog_1_method_50_code
def yX12_denialCause : MethodName := ⟨RX12, "denialCause", "()I"⟩
abbrev cX12_undo : ByteArray := prog_1_method_51_code
def yX12_undo : MethodName := ⟨RX12, "undo", "()I"⟩
abbrev cX12_undoCount : ByteArray := prog_1_method_52_code
def yX12_undoCount : MethodName := ⟨RX12, "undoCount", "()I"⟩
abbrev cX12_saveSnapshot : ByteArray := prog_1_method_53_code
def yX12_saveSnapshot : MethodName := ⟨RX12, "saveSnapshot", "()I"⟩
abbrev cX12_restoreSnapshot : ByteArray := prog_1_method_54_code
def yX12_restoreSnapshot : MethodName := ⟨RX12, "restoreSnapshot", "()I"⟩
abbrev cX12_change : ByteArray := prog_1_method_55_code
def yX12_change : MethodName := ⟨RX12, "change", "(LDustSheetMap$Command;)I"⟩
abbrev cX12_runAllOrNone : ByteArray := prog_1_method_56_code
def yX12_runAllOrNone : MethodName := ⟨RX12, "runAllOrNone", "(Ljava/util/ArrayList;)V"⟩
abbrev cX12_keepDenial : ByteArray := prog_1_method_57_code
def yX12_keepDenial : MethodName := ⟨RX12, "keepDenial", "(III)V"⟩
abbrev cX12_requireDenial : ByteArray := prog_1_method_58_code
def yX12_requireDenial : MethodName := ⟨RX12, "requireDenial", "()V"⟩
abbrev cX12_writeCell : ByteArray := prog_1_method_59_code
def yX12_writeCell : MethodName := ⟨RX12, "writeCell", "(I)V"⟩
abbrev cX12_cellByHeight : ByteArray := prog_1_method_60_code
def yX12_cellByHeight : MethodName := ⟨RX12, "cellByHeight", "(I)I"⟩
abbrev cX12_cellOfMoth : ByteArray := prog_1_method_61_code
def yX12_cellOfMoth : MethodName := ⟨RX12, "cellOfMoth", "(I)I"⟩
abbrev cX12_requireLevel : ByteArray := prog_1_method_62_code
def yX12_requireLevel : MethodName := ⟨RX12, "requireLevel", "(I)V"⟩
abbrev cX12_requiredCell : ByteArray := prog_1_method_63_code
def yX12_requiredCell : MethodName := ⟨RX12, "requiredCell", "(II)I"⟩
abbrev cX12_requiredOfRoute : ByteArray := prog_1_method_64_code
def yX12_requiredOfRoute : MethodName := ⟨RX12, "requiredOfRoute", "(I)I"⟩
abbrev cX12_cellOf : ByteArray := prog_1_method_65_code
def yX12_cellOf : MethodName := ⟨RX12, "cellOf", "(II)I"⟩
abbrev cX12_neighbour : ByteArray := prog_1_method_66_code
def yX12_neighbour : MethodName := ⟨RX12, "neighbour", "(II)I"⟩
abbrev cX12_isOnBorder : ByteArray := prog_1_method_67_code
def yX12_isOnBorder : MethodName := ⟨RX12, "isOnBorder", "(I)Z"⟩
def RX13 : String := "DustSheetMapModel"
def TX13 : u_T := fun k => match k with
  | 0 => ("DustSheetMapModel", "g", "[I", true)
  | 1 => ("DustSheetMapModel", "kept", "[I", true)
  | 2 => ("DustSheetMapModel", "saved", "[I", true)
  | 3 => ("DustSheetMapModel", "before", "[I", true)
  | 4 => ("DustSheetMapModel", "aside", "[I", true)
  | 5 => ("DustSheetMapModel", "isSaved", "Z", false)
  | 6 => ("DustSheetMapModel", "changes", "I", false)
  | 7 => ("DustSheetMapModel", "isWithin", "Z", false)
  | 8 => ("DustSheetMapModel", "isDenied", "Z", false)
  | 9 => ("DustSheetMapModel", "code", "I", false)
  | 10 => ("DustSheetMapModel", "why", "I", false)
  | 11 => ("DustSheetMapModel", "detail", "I", false)
  | 12 => ("DustSheetMapModel", "cause", "I", false)
  | 13 => ("DustSheetMapModel", "input", "[I", true)
  | 14 => ("DustSheetMapModel", "length", "I", false)
  | 15 => ("DustSheetMapModel", "fault", "I", false)
  | 16 => ("DustSheetMapModel", "signs", "[C", true)
  | 17 => ("DustSheetMapModel", "signMany", "I", false)
  | 18 => ("DustSheetMapModel", "marks", "[I", true)
  | 19 => ("DustSheetMapModel", "todo", "[I", true)
  | 20 => ("DustSheetMapModel", "level", "[I", true)
  | 21 => ("DustSheetMapModel", "at", "I", false)
  | 22 => ("DustSheetMapModel", "told", "[I", true)
  | _ => ("DustSheetMapModel", "toldMany", "I", false)
def tyX13 : Nat → FieldType := fun k => match k with
  | 0 => .array .int
  | 1 => .array .int
  | 2 => .array .int
  | 3 => .array .int
  | 4 => .array .int
  | 5 => .boolean
  | 6 => .int
  | 7 => .boolean
  | 8 => .boolean
  | 9 => .int
  | 10 => .int
  | 11 => .int
  | 12 => .int
  | 13 => .array .int
  | 14 => .int
  | 15 => .int
  | 16 => .array .char
  | 17 => .int
  | 18 => .array .int
  | 19 => .array .int
  | 20 => .array .int
  | 21 => .int
  | 22 => .array .int
  | _ => .int
abbrev wsX130 : List Cond := u_ws RX13 TX13 24
theorem nmX13 : ∀ a, a < 24 → ∀ b, b < 24 → a ≠ b → (TX13 a).2.1 ≠ (TX13 b).2.1 := by decide +kernel
theorem tyX13_ok : ∀ k, k < 24 → parseFieldDescriptor (TX13 k).2.2.1 = some (tyX13 k) := by decide +kernel
abbrev cX13_init : ByteArray := prog_15_method_1_code
def yX13_init : MethodName := ⟨RX13, "<init>", "()V"⟩
abbrev cX13_thrown : ByteArray := prog_15_method_2_code
def yX13_thrown : MethodName := ⟨RX13, "thrown", "()I"⟩
abbrev cX13_fails : ByteArray := prog_15_method_3_code
def yX13_fails : MethodName := ⟨RX13, "fails", "(I)Z"⟩
abbrev cX13_denies : ByteArray := prog_15_method_4_code
def yX13_denies : MethodName := ⟨RX13, "denies", "(III)I"⟩
abbrev cX13_in : ByteArray := prog_15_method_5_code
def yX13_in : MethodName := ⟨RX13, "in", "(III)Z"⟩
abbrev cX13_size : ByteArray := prog_15_method_6_code
def yX13_size : MethodName := ⟨RX13, "size", "(I)I"⟩
abbrev cX13_greater : ByteArray := prog_15_method_7_code
def yX13_greater : MethodName := ⟨RX13, "greater", "(II)I"⟩
abbrev cX13_copies : ByteArray := prog_15_method_8_code
def yX13_copies : MethodName := ⟨RX13, "copies", "([II[II)V"⟩
abbrev cX13_keeps : ByteArray := prog_15_method_9_code
def yX13_keeps : MethodName := ⟨RX13, "keeps", "([I)V"⟩
abbrev cX13_isCell : ByteArray := prog_15_method_10_code
def yX13_isCell : MethodName := ⟨RX13, "isCell", "(II)Z"⟩
abbrev cX13_isNone : ByteArray := prog_15_method_11_code
def yX13_isNone : MethodName := ⟨RX13, "isNone", "(II)Z"⟩
abbrev cX13_beside : ByteArray := prog_15_method_12_code
def yX13_beside : MethodName := ⟨RX13, "beside", "(II)I"⟩
abbrev cX13_high : ByteArray := prog_15_method_13_code
def yX13_high : MethodName := ⟨RX13, "high", "(I)I"⟩
abbrev cX13_isHole : ByteArray := prog_15_method_14_code
def yX13_isHole : MethodName := ⟨RX13, "isHole", "(I)Z"⟩
abbrev cX13_pegs : ByteArray := prog_15_method_15_code
def yX13_pegs : MethodName := ⟨RX13, "pegs", "()I"⟩
abbrev cX13_holesNow : ByteArray := prog_15_method_16_code
def yX13_holesNow : MethodName := ⟨RX13, "holesNow", "()I"⟩
abbrev cX13_setHeight : ByteArray := prog_15_method_17_code
def yX13_setHeight : MethodName := ⟨RX13, "setHeight", "(III)I"⟩
abbrev cX13_pins : ByteArray := prog_15_method_18_code
def yX13_pins : MethodName := ⟨RX13, "pins", "(III)I"⟩
abbrev cX13_peg : ByteArray := prog_15_method_19_code
def yX13_peg : MethodName := ⟨RX13, "peg", "(II)I"⟩
abbrev cX13_unpeg : ByteArray := prog_15_method_20_code
def yX13_unpeg : MethodName := ⟨RX13, "unpeg", "(II)I"⟩
abbrev cX13_drape : ByteArray := prog_15_method_21_code
def yX13_drape : MethodName := ⟨RX13, "drape", "()I"⟩
abbrev cX13_height : ByteArray := prog_15_method_22_code
def yX13_height : MethodName := ⟨RX13, "height", "(II)I"⟩
abbrev cX13_isPegged : ByteArray := prog_15_method_23_code
def yX13_isPegged : MethodName := ⟨RX13, "isPegged", "(II)Z"⟩
abbrev cX13_ranked : ByteArray := prog_15_method_24_code
def yX13_ranked : MethodName := ⟨RX13, "ranked", "(I)I"⟩
abbrev cX13_rowByHeight : ByteArray := prog_15_method_25_code
def yX13_rowByHeight : MethodName := ⟨RX13, "rowByHeight", "(I)I"⟩
abbrev cX13_columnByHeight : ByteArray := prog_15_method_26_code
def yX13_columnByHeight : MethodName := ⟨RX13, "columnByHeight", "(I)I"⟩
abbrev cX13_lands : ByteArray := prog_15_method_27_code
def yX13_lands : MethodName := ⟨RX13, "lands", "(I)I"⟩
abbrev cX13_islands : ByteArray := prog_15_method_28_code
def yX13_islands : MethodName := ⟨RX13, "islands", "(I)I"⟩
abbrev cX13_islandsByUnions : ByteArray := prog_15_method_29_code
def yX13_islandsByUnions : MethodName := ⟨RX13, "islandsByUnions", "(I)I"⟩
abbrev cX13_next : ByteArray := prog_15_method_30_code
def yX13_next : MethodName := ⟨RX13, "next", "(I)I"⟩
abbrev cX13_end : ByteArray := prog_15_method_31_code
def yX13_end : MethodName := ⟨RX13, "end", "(I)I"⟩
abbrev cX13_flows : ByteArray := prog_15_method_32_code
def yX13_flows : MethodName := ⟨RX13, "flows", "(II)I"⟩
abbrev cX13_pour : ByteArray := prog_15_method_33_code
def yX13_pour : MethodName := ⟨RX13, "pour", "(III)I"⟩
abbrev cX13_settle : ByteArray := prog_15_method_34_code
def yX13_settle : MethodName := ⟨RX13, "settle", "()I"⟩
abbrev cX13_water : ByteArray := prog_15_method_35_code
def yX13_water : MethodName := ⟨RX13, "water", "(II)I"⟩
abbrev cX13_endRow : ByteArray := prog_15_method_36_code
def yX13_endRow : MethodName := ⟨RX13, "endRow", "(II)I"⟩
abbrev cX13_endColumn : ByteArray := prog_15_method_37_code
def yX13_endColumn : MethodName := ⟨RX13, "endColumn", "(II)I"⟩
abbrev cX13_basins : ByteArray := prog_15_method_38_code
def yX13_basins : MethodName := ⟨RX13, "basins", "()I"⟩
abbrev cX13_basin : ByteArray := prog_15_method_39_code
def yX13_basin : MethodName := ⟨RX13, "basin", "(II)I"⟩
abbrev cX13_basinSize : ByteArray := prog_15_method_40_code
def yX13_basinSize : MethodName := ⟨RX13, "basinSize", "(II)I"⟩
abbrev cX13_basinSizeUpwards : ByteArray := prog_15_method_41_code
def yX13_basinSizeUpwards : MethodName := ⟨RX13, "basinSizeUpwards", "(II)I"⟩
abbrev cX13_spills : ByteArray := prog_15_method_42_code
def yX13_spills : MethodName := ⟨RX13, "spills", "()V"⟩
abbrev cX13_spill : ByteArray := prog_15_method_43_code
def yX13_spill : MethodName := ⟨RX13, "spill", "(II)I"⟩
abbrev cX13_spillLevel : ByteArray := prog_15_method_44_code
def yX13_spillLevel : MethodName := ⟨RX13, "spillLevel", "(II)I"⟩
abbrev cX13_spillLevelByRounds : ByteArray := prog_15_method_45_code
def yX13_spillLevelByRounds : MethodName := ⟨RX13, "spillLevelByRounds", "(II)I"⟩
abbrev cX13_pondVolume : ByteArray := prog_15_method_46_code
def yX13_pondVolume : MethodName := ⟨RX13, "pondVolume", "()I"⟩
abbrev cX13_routes : ByteArray := prog_15_method_47_code
def yX13_routes : MethodName := ⟨RX13, "routes", "(IZ)V"⟩
abbrev cX13_route : ByteArray := prog_15_method_48_code
def yX13_route : MethodName := ⟨RX13, "route", "(IIZZ)I"⟩
abbrev cX13_routeCost : ByteArray := prog_15_method_49_code
def yX13_routeCost : MethodName := ⟨RX13, "routeCost", "(IIII)I"⟩
abbrev cX13_routeCostByRounds : ByteArray := prog_15_method_50_code
def yX13_routeCostByRounds : MethodName := ⟨RX13, "routeCostByRounds", "(IIII)I"⟩
abbrev cX13_steepestStep : ByteArray := prog_15_method_51_code
def yX13_steepestStep : MethodName := ⟨RX13, "steepestStep", "(IIII)I"⟩
abbrev cX13_steepestStepByHalving : ByteArray := prog_15_method_52_code
def yX13_steepestStepByHalving : MethodName := ⟨RX13, "steepestStepByHalving", "(IIII)I"⟩
abbrev cX13_mothOn : ByteArray := prog_15_method_53_code
def yX13_mothOn : MethodName := ⟨RX13, "mothOn", "(I)I"⟩
abbrev cX13_isMoth : ByteArray := prog_15_method_54_code
def yX13_isMoth : MethodName := ⟨RX13, "isMoth", "(I)Z"⟩
abbrev cX13_addMoth : ByteArray := prog_15_method_55_code
def yX13_addMoth : MethodName := ⟨RX13, "addMoth", "(II)I"⟩
abbrev cX13_removeMoth : ByteArray := prog_15_method_56_code
def yX13_removeMoth : MethodName := ⟨RX13, "removeMoth", "(I)I"⟩
abbrev cX13_darkens : ByteArray := prog_15_method_57_code
def yX13_darkens : MethodName := ⟨RX13, "darkens", "()I"⟩
abbrev cX13_passNight : ByteArray := prog_15_method_58_code
def yX13_passNight : MethodName := ⟨RX13, "passNight", "()I"⟩
abbrev cX13_patch : ByteArray := prog_15_method_59_code
def yX13_patch : MethodName := ⟨RX13, "patch", "(II)I"⟩
abbrev cX13_mothCount : ByteArray := prog_15_method_60_code
def yX13_mothCount : MethodName := ⟨RX13, "mothCount", "()I"⟩
abbrev cX13_mothRow : ByteArray := prog_15_method_61_code
def yX13_mothRow : MethodName := ⟨RX13, "mothRow", "(I)I"⟩
abbrev cX13_mothColumn : ByteArray := prog_15_method_62_code
def yX13_mothColumn : MethodName := ⟨RX13, "mothColumn", "(I)I"⟩
abbrev cX13_wear : ByteArray := prog_15_method_63_code
def yX13_wear : MethodName := ⟨RX13, "wear", "(II)I"⟩
abbrev cX13_holes : ByteArray := prog_15_method_64_code
def yX13_holes : MethodName := ⟨RX13, "holes", "()I"⟩
abbrev cX13_nightsUntilHole : ByteArray := prog_15_method_65_code
def yX13_nightsUntilHole : MethodName := ⟨RX13, "nightsUntilHole", "(II)I"⟩
abbrev cX13_nights : ByteArray := prog_15_method_66_code
def yX13_nights : MethodName := ⟨RX13, "nights", "()I"⟩
abbrev cX13_poured : ByteArray := prog_15_method_67_code
def yX13_poured : MethodName := ⟨RX13, "poured", "()I"⟩
abbrev cX13_standing : ByteArray := prog_15_method_68_code
def yX13_standing : MethodName := ⟨RX13, "standing", "()I"⟩
abbrev cX13_drained : ByteArray := prog_15_method_69_code
def yX13_drained : MethodName := ⟨RX13, "drained", "()I"⟩
abbrev cX13_meanHeight : ByteArray := prog_15_method_70_code
def yX13_meanHeight : MethodName := ⟨RX13, "meanHeight", "()D"⟩
abbrev cX13_slope : ByteArray := prog_15_method_71_code
def yX13_slope : MethodName := ⟨RX13, "slope", "(II)F"⟩
abbrev cX13_feed : ByteArray := prog_15_method_72_code
def yX13_feed : MethodName := ⟨RX13, "feed", "(C)I"⟩
abbrev cX13_here : ByteArray := prog_15_method_73_code
def yX13_here : MethodName := ⟨RX13, "here", "()I"⟩
abbrev cX13_skips : ByteArray := prog_15_method_74_code
def yX13_skips : MethodName := ⟨RX13, "skips", "(I)Z"⟩
abbrev cX13_isWord : ByteArray := prog_15_method_75_code
def yX13_isWord : MethodName := ⟨RX13, "isWord", "(ILjava/lang/String;)Z"⟩
abbrev cX13_digits : ByteArray := prog_15_method_76_code
def yX13_digits : MethodName := ⟨RX13, "digits", "(II)Z"⟩
abbrev cX13_cellHere : ByteArray := prog_15_method_77_code
def yX13_cellHere : MethodName := ⟨RX13, "cellHere", "(I)Z"⟩
abbrev cX13_commandHere : ByteArray := prog_15_method_78_code
def yX13_commandHere : MethodName := ⟨RX13, "commandHere", "()Z"⟩
abbrev cX13_isText : ByteArray := prog_15_method_79_code
def yX13_isText : MethodName := ⟨RX13, "isText", "()Z"⟩
abbrev cX13_carries : ByteArray := prog_15_method_80_code
def yX13_carries : MethodName := ⟨RX13, "carries", "(I)I"⟩
abbrev cX13_deniesText : ByteArray := prog_15_method_81_code
def yX13_deniesText : MethodName := ⟨RX13, "deniesText", "(I)I"⟩
abbrev cX13_execute : ByteArray := prog_15_method_82_code
def yX13_execute : MethodName := ⟨RX13, "execute", "()I"⟩
abbrev cX13_faultPosition : ByteArray := prog_15_method_83_code
def yX13_faultPosition : MethodName := ⟨RX13, "faultPosition", "()I"⟩
abbrev cX13_writes : ByteArray := prog_15_method_84_code
def yX13_writes : MethodName := ⟨RX13, "writes", "(I)V"⟩
abbrev cX13_writesNumber : ByteArray := prog_15_method_85_code
def yX13_writesNumber : MethodName := ⟨RX13, "writesNumber", "(I)V"⟩
abbrev cX13_writeRow : ByteArray := prog_15_method_86_code
def yX13_writeRow : MethodName := ⟨RX13, "writeRow", "(I)I"⟩
abbrev cX13_lineCharacter : ByteArray := prog_15_method_87_code
def yX13_lineCharacter : MethodName := ⟨RX13, "lineCharacter", "(I)C"⟩
abbrev cX13_denial : ByteArray := prog_15_method_88_code
def yX13_denial : MethodName := ⟨RX13, "denial", "()I"⟩
abbrev cX13_denialDetail : ByteArray := prog_15_method_89_code
def yX13_denialDetail : MethodName := ⟨RX13, "denialDetail", "()I"⟩
abbrev cX13_denialCause : ByteArray := prog_15_method_90_code
def yX13_denialCause : MethodName := ⟨RX13, "denialCause", "()I"⟩
abbrev cX13_undo : ByteArray := prog_15_method_91_code
def yX13_undo : MethodName := ⟨RX13, "undo", "()I"⟩
abbrev cX13_undoCount : ByteArray := prog_15_method_92_code
def yX13_undoCount : MethodName := ⟨RX13, "undoCount", "()I"⟩
abbrev cX13_saveSnapshot : ByteArray := prog_15_method_93_code
def yX13_saveSnapshot : MethodName := ⟨RX13, "saveSnapshot", "()I"⟩
abbrev cX13_restoreSnapshot : ByteArray := prog_15_method_94_code
def yX13_restoreSnapshot : MethodName := ⟨RX13, "restoreSnapshot", "()I"⟩
def RJx145de : String := "java/io/Serializable"
def TJx145de : u_T := fun k => match k with
  | _ => ("", "", "", false)
def tyJx145de : Nat → FieldType := fun k => match k with
  | _ => .int
abbrev wsJx145de0 : List Cond := u_ws RJx145de TJx145de 0
theorem nmJx145de : ∀ a, a < 0 → ∀ b, b < 0 → a ≠ b → (TJx145de a).2.1 ≠ (TJx145de b).2.1 := by decide +kernel
theorem tyJx145de_ok : ∀ k, k < 0 → parseFieldDescriptor (TJx145de k).2.2.1 = some (tyJx145de k) := by decide +kernel
def RJ5 : String := "java/lang/AbstractStringBuilder"
def TJ5 : u_T := fun k => match k with
  | _ => ("", "", "", false)
def tyJ5 : Nat → FieldType := fun k => match k with
  | _ => .int
abbrev wsJ50 : List Cond := u_ws RJ5 TJ5 0
theorem nmJ5 : ∀ a, a < 0 → ∀ b, b < 0 → a ≠ b → (TJ5 a).2.1 ≠ (TJ5 b).2.1 := by decide +kernel
theorem tyJ5_ok : ∀ k, k < 0 → parseFieldDescriptor (TJ5 k).2.2.1 = some (tyJ5 k) := by decide +kernel
abbrev cJ5_init_d00df : ByteArray := prog_17_method_2_code
def yJ5_init_d00df : MethodName := ⟨RJ5, "<init>", "(I)V"⟩
abbrev cJ5_length_8abf5 : ByteArray := prog_17_method_6_code
def yJ5_length_8abf5 : MethodName := ⟨RJ5, "length", "()I"⟩
abbrev cJ5_ensureCapacityInternal_d00df : ByteArray := prog_17_method_9_code
def yJ5_ensureCapacityInternal_d00df : MethodName := ⟨RJ5, "ensureCapacityInternal", "(I)V"⟩
abbrev cJ5_newCapacity_0f7a4 : ByteArray := prog_17_method_10_code
def yJ5_newCapacity_0f7a4 : MethodName := ⟨RJ5, "newCapacity", "(I)I"⟩
abbrev cJ5_inflate_da8c8 : ByteArray := prog_17_method_11_code
def yJ5_inflate_da8c8 : MethodName := ⟨RJ5, "inflate", "()V"⟩
abbrev cJ5_setLength_d00df : ByteArray := prog_17_method_13_code
def yJ5_setLength_d00df : MethodName := ⟨RJ5, "setLength", "(I)V"⟩
abbrev cJ5_charAt_5068e : ByteArray := prog_17_method_14_code
def yJ5_charAt_5068e : MethodName := ⟨RJ5, "charAt", "(I)C"⟩
abbrev cJ5_append_cf1ce : ByteArray := prog_17_method_22_code
def yJ5_append_cf1ce : MethodName := ⟨RJ5, "append", "(Ljava/lang/String;)Ljava/lang/AbstractStringBuilder;"⟩
abbrev cJ5_appendNull_278bc : ByteArray := prog_17_method_26_code
def yJ5_appendNull_278bc : MethodName := ⟨RJ5, "appendNull", "()Ljava/lang/AbstractStringBuilder;"⟩
abbrev cJ5_append_3fe6f : ByteArray := prog_17_method_31_code
def yJ5_append_3fe6f : MethodName := ⟨RJ5, "append", "(C)Ljava/lang/AbstractStringBuilder;"⟩
abbrev cJ5_append_c97b9 : ByteArray := prog_17_method_32_code
def yJ5_append_c97b9 : MethodName := ⟨RJ5, "append", "(I)Ljava/lang/AbstractStringBuilder;"⟩
abbrev cJ5_getValue_6d5f1 : ByteArray := prog_17_method_64_code
def yJ5_getValue_6d5f1 : MethodName := ⟨RJ5, "getValue", "()[B"⟩
abbrev cJ5_isLatin1_aae02 : ByteArray := prog_17_method_68_code
def yJ5_isLatin1_aae02 : MethodName := ⟨RJ5, "isLatin1", "()Z"⟩
abbrev cJ5_inflateIfNeededFor_a7421 : ByteArray := prog_17_method_71_code
def yJ5_inflateIfNeededFor_a7421 : MethodName := ⟨RJ5, "inflateIfNeededFor", "(Ljava/lang/String;)V"⟩
abbrev cJ5_putStringAt_47b60 : ByteArray := prog_17_method_73_code
def yJ5_putStringAt_47b60 : MethodName := ⟨RJ5, "putStringAt", "(ILjava/lang/String;)V"⟩
def RJx2cfe8 : String := "java/lang/Appendable"
def TJx2cfe8 : u_T := fun k => match k with
  | _ => ("", "", "", false)
def tyJx2cfe8 : Nat → FieldType := fun k => match k with
  | _ => .int
abbrev wsJx2cfe80 : List Cond := u_ws RJx2cfe8 TJx2cfe8 0
theorem nmJx2cfe8 : ∀ a, a < 0 → ∀ b, b < 0 → a ≠ b → (TJx2cfe8 a).2.1 ≠ (TJx2cfe8 b).2.1 := by decide +kernel
theorem tyJx2cfe8_ok : ∀ k, k < 0 → parseFieldDescriptor (TJx2cfe8 k).2.2.1 = some (tyJx2cfe8 k) := by decide +kernel
def RJx00060 : String := "java/lang/ArrayIndexOutOfBoundsException"
def TJx00060 : u_T := fun k => match k with
  | 0 => ("java/lang/Throwable", "cause", "Ljava/lang/Throwable;", false)
  | 1 => ("java/lang/Throwable", "stackTrace", "[Ljava/lang/StackTraceElement;", false)
  | 2 => ("java/lang/Throwable", "suppressedExceptions", "Ljava/util/List;", false)
  | 3 => ("java/lang/Throwable", "detailMessage", "Ljava/lang/String;", false)
  | 4 => ("java/lang/Throwable", "backtrace", "Ljava/lang/Object;", false)
  | _ => ("java/lang/Throwable", "depth", "I", false)
def tyJx00060 : Nat → FieldType := fun k => match k with
  | 0 => .object "java/lang/Throwable"
  | 1 => .array (.object "java/lang/StackTraceElement")
  | 2 => .object "java/util/List"
  | 3 => .object "java/lang/String"
  | 4 => .object "java/lang/Object"
  | _ => .int
abbrev wsJx000600 : List Cond := u_ws RJx00060 TJx00060 6
theorem nmJx00060 : ∀ a, a < 6 → ∀ b, b < 6 → a ≠ b → (TJx00060 a).2.1 ≠ (TJx00060 b).2.1 := by decide +kernel
theorem tyJx00060_ok : ∀ k, k < 6 → parseFieldDescriptor (TJx00060 k).2.2.1 = some (tyJx00060 k) := by decide +kernel
abbrev cJx00060_init_d00df : ByteArray := prog_19_method_3_code
def yJx00060_init_d00df : MethodName := ⟨RJx00060, "<init>", "(I)V"⟩
def RJx9f9b0 : String := "java/lang/CharSequence"
def TJx9f9b0 : u_T := fun k => match k with
  | _ => ("", "", "", false)
def tyJx9f9b0 : Nat → FieldType := fun k => match k with
  | _ => .int
abbrev wsJx9f9b00 : List Cond := u_ws RJx9f9b0 TJx9f9b0 0
theorem nmJx9f9b0 : ∀ a, a < 0 → ∀ b, b < 0 → a ≠ b → (TJx9f9b0 a).2.1 ≠ (TJx9f9b0 b).2.1 := by decide +kernel
theorem tyJx9f9b0_ok : ∀ k, k < 0 → parseFieldDescriptor (TJx9f9b0 k).2.2.1 = some (tyJx9f9b0 k) := by decide +kernel
def RJx8e188 : String := "java/lang/Cloneable"
def TJx8e188 : u_T := fun k => match k with
  | _ => ("", "", "", false)
def tyJx8e188 : Nat → FieldType := fun k => match k with
  | _ => .int
abbrev wsJx8e1880 : List Cond := u_ws RJx8e188 TJx8e188 0
theorem nmJx8e188 : ∀ a, a < 0 → ∀ b, b < 0 → a ≠ b → (TJx8e188 a).2.1 ≠ (TJx8e188 b).2.1 := by decide +kernel
theorem tyJx8e188_ok : ∀ k, k < 0 → parseFieldDescriptor (TJx8e188 k).2.2.1 = some (tyJx8e188 k) := by decide +kernel
def RJxb160c : String := "java/lang/Comparable"
def TJxb160c : u_T := fun k => match k with
  | _ => ("", "", "", false)
def tyJxb160c : Nat → FieldType := fun k => match k with
  | _ => .int
abbrev wsJxb160c0 : List Cond := u_ws RJxb160c TJxb160c 0
theorem nmJxb160c : ∀ a, a < 0 → ∀ b, b < 0 → a ≠ b → (TJxb160c a).2.1 ≠ (TJxb160c b).2.1 := by decide +kernel
theorem tyJxb160c_ok : ∀ k, k < 0 → parseFieldDescriptor (TJxb160c k).2.2.1 = some (tyJxb160c k) := by decide +kernel
def RJx29ce0 : String := "java/lang/Enum"
def TJx29ce0 : u_T := fun k => match k with
  | _ => ("", "", "", false)
def tyJx29ce0 : Nat → FieldType := fun k => match k with
  | _ => .int
abbrev wsJx29ce00 : List Cond := u_ws RJx29ce0 TJx29ce0 0
theorem nmJx29ce0 : ∀ a, a < 0 → ∀ b, b < 0 → a ≠ b → (TJx29ce0 a).2.1 ≠ (TJx29ce0 b).2.1 := by decide +kernel
theorem tyJx29ce0_ok : ∀ k, k < 0 → parseFieldDescriptor (TJx29ce0 k).2.2.1 = some (tyJx29ce0 k) := by decide +kernel
abbrev cJx29ce0_ordinal_8abf5 : ByteArray := prog_23_method_2_code
def yJx29ce0_ordinal_8abf5 : MethodName := ⟨RJx29ce0, "ordinal", "()I"⟩
def RJ6 : String := "java/lang/Integer"
def TJ6 : u_T := fun k => match k with
  | _ => ("", "", "", false)
def tyJ6 : Nat → FieldType := fun k => match k with
  | _ => .int
abbrev wsJ60 : List Cond := u_ws RJ6 TJ6 0
theorem nmJ6 : ∀ a, a < 0 → ∀ b, b < 0 → a ≠ b → (TJ6 a).2.1 ≠ (TJ6 b).2.1 := by decide +kernel
theorem tyJ6_ok : ∀ k, k < 0 → parseFieldDescriptor (TJ6 k).2.2.1 = some (tyJ6 k) := by decide +kernel
abbrev cJ6_getChars_ba4f3 : ByteArray := prog_28_method_12_code
def yJ6_getChars_ba4f3 : MethodName := ⟨RJ6, "getChars", "(II[B)I"⟩
abbrev cJ6_stringSize_0f7a4 : ByteArray := prog_28_method_13_code
def yJ6_stringSize_0f7a4 : MethodName := ⟨RJ6, "stringSize", "(I)I"⟩
def RJxab1ab : String := "java/lang/Iterable"
def TJxab1ab : u_T := fun k => match k with
  | _ => ("", "", "", false)
def tyJxab1ab : Nat → FieldType := fun k => match k with
  | _ => .int
abbrev wsJxab1ab0 : List Cond := u_ws RJxab1ab TJxab1ab 0
theorem nmJxab1ab : ∀ a, a < 0 → ∀ b, b < 0 → a ≠ b → (TJxab1ab a).2.1 ≠ (TJxab1ab b).2.1 := by decide +kernel
theorem tyJxab1ab_ok : ∀ k, k < 0 → parseFieldDescriptor (TJxab1ab k).2.2.1 = some (tyJxab1ab k) := by decide +kernel
def RJ9 : String := "java/lang/Math"
def TJ9 : u_T := fun k => match k with
  | _ => ("", "", "", false)
def tyJ9 : Nat → FieldType := fun k => match k with
  | _ => .int
abbrev wsJ90 : List Cond := u_ws RJ9 TJ9 0
theorem nmJ9 : ∀ a, a < 0 → ∀ b, b < 0 → a ≠ b → (TJ9 a).2.1 ≠ (TJ9 b).2.1 := by decide +kernel
theorem tyJ9_ok : ∀ k, k < 0 → parseFieldDescriptor (TJ9 k).2.2.1 = some (tyJ9 k) := by decide +kernel
abbrev cJ9_abs_0f7a4 : ByteArray := prog_30_method_59_code
def yJ9_abs_0f7a4 : MethodName := ⟨RJ9, "abs", "(I)I"⟩
abbrev cJ9_max_7cf53 : ByteArray := prog_30_method_65_code
def yJ9_max_7cf53 : MethodName := ⟨RJ9, "max", "(II)I"⟩
abbrev cJ9_min_7cf53 : ByteArray := prog_30_method_69_code
def yJ9_min_7cf53 : MethodName := ⟨RJ9, "min", "(II)I"⟩
def RJxd2413 : String := "java/lang/Number"
def TJxd2413 : u_T := fun k => match k with
  | _ => ("", "", "", false)
def tyJxd2413 : Nat → FieldType := fun k => match k with
  | _ => .int
abbrev wsJxd24130 : List Cond := u_ws RJxd2413 TJxd2413 0
theorem nmJxd2413 : ∀ a, a < 0 → ∀ b, b < 0 → a ≠ b → (TJxd2413 a).2.1 ≠ (TJxd2413 b).2.1 := by decide +kernel
theorem tyJxd2413_ok : ∀ k, k < 0 → parseFieldDescriptor (TJxd2413 k).2.2.1 = some (tyJxd2413 k) := by decide +kernel
def RJ0 : String := "java/lang/String"
def TJ0 : u_T := fun k => match k with
  | 0 => ("java/lang/String", "value", "[B", true)
  | 1 => ("java/lang/String", "coder", "B", true)
  | 2 => ("java/lang/String", "hash", "I", false)
  | _ => ("java/lang/String", "hashIsZero", "Z", false)
def tyJ0 : Nat → FieldType := fun k => match k with
  | 0 => .array .byte
  | 1 => .byte
  | 2 => .int
  | _ => .boolean
abbrev wsJ00 : List Cond := u_ws RJ0 TJ0 4
theorem nmJ0 : ∀ a, a < 4 → ∀ b, b < 4 → a ≠ b → (TJ0 a).2.1 ≠ (TJ0 b).2.1 := by decide +kernel
theorem tyJ0_ok : ∀ k, k < 4 → parseFieldDescriptor (TJ0 k).2.2.1 = some (tyJ0 k) := by decide +kernel
abbrev cJ0_init_81219 : ByteArray := prog_33_method_53_code
def yJ0_init_81219 : MethodName := ⟨RJ0, "<init>", "(Ljava/lang/StringBuilder;)V"⟩
abbrev cJ0_length_8abf5 : ByteArray := prog_33_method_54_code
def yJ0_length_8abf5 : MethodName := ⟨RJ0, "length", "()I"⟩
abbrev cJ0_charAt_5068e : ByteArray := prog_33_method_56_code
def yJ0_charAt_5068e : MethodName := ⟨RJ0, "charAt", "(I)C"⟩
abbrev cJ0_getBytes_840e7 : ByteArray := prog_33_method_147_code
def yJ0_getBytes_840e7 : MethodName := ⟨RJ0, "getBytes", "([BIB)V"⟩
abbrev cJ0_init_db425 : ByteArray := prog_33_method_150_code
def yJ0_init_db425 : MethodName := ⟨RJ0, "<init>", "(Ljava/lang/AbstractStringBuilder;Ljava/lang/Void;)V"⟩
abbrev cJ0_coder_7d493 : ByteArray := prog_33_method_152_code
def yJ0_coder_7d493 : MethodName := ⟨RJ0, "coder", "()B"⟩
abbrev cJ0_isLatin1_aae02 : ByteArray := prog_33_method_154_code
def yJ0_isLatin1_aae02 : MethodName := ⟨RJ0, "isLatin1", "()Z"⟩
abbrev cJ0_checkIndex_df160 : ByteArray := prog_33_method_155_code
def yJ0_checkIndex_df160 : MethodName := ⟨RJ0, "checkIndex", "(II)V"⟩
abbrev cJ0_checkBoundsOffCount_cabcc : ByteArray := prog_33_method_157_code
def yJ0_checkBoundsOffCount_cabcc : MethodName := ⟨RJ0, "checkBoundsOffCount", "(III)I"⟩
abbrev cJ0_checkBoundsBeginEnd_23922 : ByteArray := prog_33_method_158_code
def yJ0_checkBoundsBeginEnd_23922 : MethodName := ⟨RJ0, "checkBoundsBeginEnd", "(III)V"⟩
def RJ4 : String := "java/lang/StringBuilder"
def TJ4 : u_T := fun k => match k with
  | 0 => ("java/lang/AbstractStringBuilder", "value", "[B", false)
  | 1 => ("java/lang/AbstractStringBuilder", "coder", "B", false)
  | 2 => ("java/lang/AbstractStringBuilder", "maybeLatin1", "Z", false)
  | _ => ("java/lang/AbstractStringBuilder", "count", "I", false)
def tyJ4 : Nat → FieldType := fun k => match k with
  | 0 => .array .byte
  | 1 => .byte
  | 2 => .boolean
  | _ => .int
abbrev wsJ40 : List Cond := u_ws RJ4 TJ4 4
theorem nmJ4 : ∀ a, a < 4 → ∀ b, b < 4 → a ≠ b → (TJ4 a).2.1 ≠ (TJ4 b).2.1 := by decide +kernel
theorem tyJ4_ok : ∀ k, k < 4 → parseFieldDescriptor (TJ4 k).2.2.1 = some (tyJ4 k) := by decide +kernel
abbrev cJ4_init_da8c8 : ByteArray := prog_34_method_1_code
def yJ4_init_da8c8 : MethodName := ⟨RJ4, "<init>", "()V"⟩
abbrev cJ4_append_15ec4 : ByteArray := prog_34_method_7_code
def yJ4_append_15ec4 : MethodName := ⟨RJ4, "append", "(Ljava/lang/String;)Ljava/lang/StringBuilder;"⟩
abbrev cJ4_append_cf468 : ByteArray := prog_34_method_14_code
def yJ4_append_cf468 : MethodName := ⟨RJ4, "append", "(C)Ljava/lang/StringBuilder;"⟩
abbrev cJ4_append_bf812 : ByteArray := prog_34_method_15_code
def yJ4_append_bf812 : MethodName := ⟨RJ4, "append", "(I)Ljava/lang/StringBuilder;"⟩
abbrev cJ4_toString_0e30d : ByteArray := prog_34_method_42_code
def yJ4_toString_0e30d : MethodName := ⟨RJ4, "toString", "()Ljava/lang/String;"⟩
abbrev cJ4_charAt_5068e : ByteArray := prog_34_method_88_code
def yJ4_charAt_5068e : MethodName := ⟨RJ4, "charAt", "(I)C"⟩
abbrev cJ4_setLength_d00df : ByteArray := prog_34_method_89_code
def yJ4_setLength_d00df : MethodName := ⟨RJ4, "setLength", "(I)V"⟩
abbrev cJ4_length_8abf5 : ByteArray := prog_34_method_93_code
def yJ4_length_8abf5 : MethodName := ⟨RJ4, "length", "()I"⟩
def RJx7c733 : String := "java/lang/StringIndexOutOfBoundsException"
def TJx7c733 : u_T := fun k => match k with
  | 0 => ("java/lang/Throwable", "backtrace", "Ljava/lang/Object;", false)
  | 1 => ("java/lang/Throwable", "detailMessage", "Ljava/lang/String;", false)
  | 2 => ("java/lang/Throwable", "cause", "Ljava/lang/Throwable;", false)
  | 3 => ("java/lang/Throwable", "stackTrace", "[Ljava/lang/StackTraceElement;", false)
  | 4 => ("java/lang/Throwable", "depth", "I", false)
  | _ => ("java/lang/Throwable", "suppressedExceptions", "Ljava/util/List;", false)
def tyJx7c733 : Nat → FieldType := fun k => match k with
  | 0 => .object "java/lang/Object"
  | 1 => .object "java/lang/String"
  | 2 => .object "java/lang/Throwable"
  | 3 => .array (.object "java/lang/StackTraceElement")
  | 4 => .int
  | _ => .object "java/util/List"
abbrev wsJx7c7330 : List Cond := u_ws RJx7c733 TJx7c733 6
theorem nmJx7c733 : ∀ a, a < 6 → ∀ b, b < 6 → a ≠ b → (TJx7c733 a).2.1 ≠ (TJx7c733 b).2.1 := by decide +kernel
theorem tyJx7c733_ok : ∀ k, k < 6 → parseFieldDescriptor (TJx7c733 k).2.2.1 = some (tyJx7c733 k) := by decide +kernel
abbrev cJx7c733_init_d00df : ByteArray := prog_35_method_3_code
def yJx7c733_init_d00df : MethodName := ⟨RJx7c733, "<init>", "(I)V"⟩
def RJ1 : String := "java/lang/StringLatin1"
def TJ1 : u_T := fun k => match k with
  | _ => ("", "", "", false)
def tyJ1 : Nat → FieldType := fun k => match k with
  | _ => .int
abbrev wsJ10 : List Cond := u_ws RJ1 TJ1 0
theorem nmJ1 : ∀ a, a < 0 → ∀ b, b < 0 → a ≠ b → (TJ1 a).2.1 ≠ (TJ1 b).2.1 := by decide +kernel
theorem tyJ1_ok : ∀ k, k < 0 → parseFieldDescriptor (TJ1 k).2.2.1 = some (tyJ1 k) := by decide +kernel
abbrev cJ1_charAt_3b067 : ByteArray := prog_36_method_2_code
def yJ1_charAt_3b067 : MethodName := ⟨RJ1, "charAt", "([BI)C"⟩
abbrev cJ1_canEncode_fc78d : ByteArray := prog_36_method_3_code
def yJ1_canEncode_fc78d : MethodName := ⟨RJ1, "canEncode", "(C)Z"⟩
abbrev cJ1_fillNull_b72d1 : ByteArray := prog_36_method_48_code
def yJ1_fillNull_b72d1 : MethodName := ⟨RJ1, "fillNull", "([BII)V"⟩
abbrev cJ1_inflate_0e8fd : ByteArray := prog_36_method_50_code
def yJ1_inflate_0e8fd : MethodName := ⟨RJ1, "inflate", "([BI[BII)V"⟩
def RJ2 : String := "java/lang/StringUTF16"
def TJ2 : u_T := fun k => match k with
  | _ => ("", "", "", false)
def tyJ2 : Nat → FieldType := fun k => match k with
  | _ => .int
abbrev wsJ20 : List Cond := u_ws RJ2 TJ2 0
theorem nmJ2 : ∀ a, a < 0 → ∀ b, b < 0 → a ≠ b → (TJ2 a).2.1 ≠ (TJ2 b).2.1 := by decide +kernel
theorem tyJ2_ok : ∀ k, k < 0 → parseFieldDescriptor (TJ2 k).2.2.1 = some (tyJ2 k) := by decide +kernel
abbrev cJ2_newBytesFor_77867 : ByteArray := prog_37_method_2_code
def yJ2_newBytesFor_77867 : MethodName := ⟨RJ2, "newBytesFor", "(I)[B"⟩
abbrev cJ2_newBytesLength_0f7a4 : ByteArray := prog_37_method_3_code
def yJ2_newBytesLength_0f7a4 : MethodName := ⟨RJ2, "newBytesLength", "(I)I"⟩
abbrev cJ2_putChar_b72d1 : ByteArray := prog_37_method_4_code
def yJ2_putChar_b72d1 : MethodName := ⟨RJ2, "putChar", "([BII)V"⟩
abbrev cJ2_getChar_3b067 : ByteArray := prog_37_method_5_code
def yJ2_getChar_3b067 : MethodName := ⟨RJ2, "getChar", "([BI)C"⟩
abbrev cJ2_length_9d52b : ByteArray := prog_37_method_6_code
def yJ2_length_9d52b : MethodName := ⟨RJ2, "length", "([B)I"⟩
abbrev cJ2_coderFromArrayLen_85cad : ByteArray := prog_37_method_15_code
def yJ2_coderFromArrayLen_85cad : MethodName := ⟨RJ2, "coderFromArrayLen", "([BI)B"⟩
abbrev cJ2_compress_39247 : ByteArray := prog_37_method_17_code
def yJ2_compress_39247 : MethodName := ⟨RJ2, "compress", "([BII)[B"⟩
abbrev cJ2_compress_5af95 : ByteArray := prog_37_method_22_code
def yJ2_compress_5af95 : MethodName := ⟨RJ2, "compress", "([BI[BII)I"⟩
abbrev cJ2_fillNull_b72d1 : ByteArray := prog_37_method_70_code
def yJ2_fillNull_b72d1 : MethodName := ⟨RJ2, "fillNull", "([BII)V"⟩
abbrev cJ2_putCharSB_b72d1 : ByteArray := prog_37_method_71_code
def yJ2_putCharSB_b72d1 : MethodName := ⟨RJ2, "putCharSB", "([BII)V"⟩
abbrev cJ2_getChars_46870 : ByteArray := prog_37_method_77_code
def yJ2_getChars_46870 : MethodName := ⟨RJ2, "getChars", "(III[B)I"⟩
abbrev cJ2_putCharsAt_cd4e5 : ByteArray := prog_37_method_81_code
def yJ2_putCharsAt_cd4e5 : MethodName := ⟨RJ2, "putCharsAt", "([BICCCC)I"⟩
abbrev cJ2_charAt_3b067 : ByteArray := prog_37_method_83_code
def yJ2_charAt_3b067 : MethodName := ⟨RJ2, "charAt", "([BI)C"⟩
abbrev cJ2_inflate_0e8fd : ByteArray := prog_37_method_86_code
def yJ2_inflate_0e8fd : MethodName := ⟨RJ2, "inflate", "([BI[BII)V"⟩
abbrev cJ2_getChars_ba4f3 : ByteArray := prog_37_method_89_code
def yJ2_getChars_ba4f3 : MethodName := ⟨RJ2, "getChars", "(II[B)I"⟩
abbrev cJ2_checkIndex_2214a : ByteArray := prog_37_method_91_code
def yJ2_checkIndex_2214a : MethodName := ⟨RJ2, "checkIndex", "(I[B)V"⟩
abbrev cJ2_checkBoundsBeginEnd_d044e : ByteArray := prog_37_method_93_code
def yJ2_checkBoundsBeginEnd_d044e : MethodName := ⟨RJ2, "checkBoundsBeginEnd", "(II[B)V"⟩
abbrev cJ2_checkBoundsOffCount_d044e : ByteArray := prog_37_method_94_code
def yJ2_checkBoundsOffCount_d044e : MethodName := ⟨RJ2, "checkBoundsOffCount", "(II[B)V"⟩
def RJ10 : String := "java/lang/System"
def TJ10 : u_T := fun k => match k with
  | _ => ("", "", "", false)
def tyJ10 : Nat → FieldType := fun k => match k with
  | _ => .int
abbrev wsJ100 : List Cond := u_ws RJ10 TJ10 0
theorem nmJ10 : ∀ a, a < 0 → ∀ b, b < 0 → a ≠ b → (TJ10 a).2.1 ≠ (TJ10 b).2.1 := by decide +kernel
theorem tyJ10_ok : ∀ k, k < 0 → parseFieldDescriptor (TJ10 k).2.2.1 = some (tyJ10 k) := by decide +kernel
def RJxfd54e : String := "java/lang/constant/Constable"
def TJxfd54e : u_T := fun k => match k with
  | _ => ("", "", "", false)
def tyJxfd54e : Nat → FieldType := fun k => match k with
  | _ => .int
abbrev wsJxfd54e0 : List Cond := u_ws RJxfd54e TJxfd54e 0
theorem nmJxfd54e : ∀ a, a < 0 → ∀ b, b < 0 → a ≠ b → (TJxfd54e a).2.1 ≠ (TJxfd54e b).2.1 := by decide +kernel
theorem tyJxfd54e_ok : ∀ k, k < 0 → parseFieldDescriptor (TJxfd54e k).2.2.1 = some (tyJxfd54e k) := by decide +kernel
def RJx3cf43 : String := "java/lang/constant/ConstantDesc"
def TJx3cf43 : u_T := fun k => match k with
  | _ => ("", "", "", false)
def tyJx3cf43 : Nat → FieldType := fun k => match k with
  | _ => .int
abbrev wsJx3cf430 : List Cond := u_ws RJx3cf43 TJx3cf43 0
theorem nmJx3cf43 : ∀ a, a < 0 → ∀ b, b < 0 → a ≠ b → (TJx3cf43 a).2.1 ≠ (TJx3cf43 b).2.1 := by decide +kernel
theorem tyJx3cf43_ok : ∀ k, k < 0 → parseFieldDescriptor (TJx3cf43 k).2.2.1 = some (tyJx3cf43 k) := by decide +kernel
def RJxa1e45 : String := "java/util/AbstractCollection"
def TJxa1e45 : u_T := fun k => match k with
  | _ => ("", "", "", false)
def tyJxa1e45 : Nat → FieldType := fun k => match k with
  | _ => .int
abbrev wsJxa1e450 : List Cond := u_ws RJxa1e45 TJxa1e45 0
theorem nmJxa1e45 : ∀ a, a < 0 → ∀ b, b < 0 → a ≠ b → (TJxa1e45 a).2.1 ≠ (TJxa1e45 b).2.1 := by decide +kernel
theorem tyJxa1e45_ok : ∀ k, k < 0 → parseFieldDescriptor (TJxa1e45 k).2.2.1 = some (tyJxa1e45 k) := by decide +kernel
abbrev cJxa1e45_init_da8c8 : ByteArray := prog_43_method_1_code
def yJxa1e45_init_da8c8 : MethodName := ⟨RJxa1e45, "<init>", "()V"⟩
def RJxc12de : String := "java/util/AbstractList"
def TJxc12de : u_T := fun k => match k with
  | _ => ("", "", "", false)
def tyJxc12de : Nat → FieldType := fun k => match k with
  | _ => .int
abbrev wsJxc12de0 : List Cond := u_ws RJxc12de TJxc12de 0
theorem nmJxc12de : ∀ a, a < 0 → ∀ b, b < 0 → a ≠ b → (TJxc12de a).2.1 ≠ (TJxc12de b).2.1 := by decide +kernel
theorem tyJxc12de_ok : ∀ k, k < 0 → parseFieldDescriptor (TJxc12de k).2.2.1 = some (tyJxc12de k) := by decide +kernel
abbrev cJxc12de_init_da8c8 : ByteArray := prog_44_method_1_code
def yJxc12de_init_da8c8 : MethodName := ⟨RJxc12de, "<init>", "()V"⟩
def RJx4a65c : String := "java/util/ArrayList"
def TJx4a65c : u_T := fun k => match k with
  | 0 => ("java/util/AbstractList", "modCount", "I", false)
  | 1 => ("java/util/ArrayList", "elementData", "[Ljava/lang/Object;", false)
  | _ => ("java/util/ArrayList", "size", "I", false)
def tyJx4a65c : Nat → FieldType := fun k => match k with
  | 0 => .int
  | 1 => .array (.object "java/lang/Object")
  | _ => .int
abbrev wsJx4a65c0 : List Cond := u_ws RJx4a65c TJx4a65c 3
theorem nmJx4a65c : ∀ a, a < 3 → ∀ b, b < 3 → a ≠ b → (TJx4a65c a).2.1 ≠ (TJx4a65c b).2.1 := by decide +kernel
theorem tyJx4a65c_ok : ∀ k, k < 3 → parseFieldDescriptor (TJx4a65c k).2.2.1 = some (tyJx4a65c k) := by decide +kernel
abbrev cJx4a65c_init_da8c8 : ByteArray := prog_45_method_2_code
def yJx4a65c_init_da8c8 : MethodName := ⟨RJx4a65c, "<init>", "()V"⟩
abbrev cJx4a65c_grow_92f84 : ByteArray := prog_45_method_6_code
def yJx4a65c_grow_92f84 : MethodName := ⟨RJx4a65c, "grow", "(I)[Ljava/lang/Object;"⟩
abbrev cJx4a65c_grow_d5877 : ByteArray := prog_45_method_7_code
def yJx4a65c_grow_d5877 : MethodName := ⟨RJx4a65c, "grow", "()[Ljava/lang/Object;"⟩
abbrev cJx4a65c_size_8abf5 : ByteArray := prog_45_method_8_code
def yJx4a65c_size_8abf5 : MethodName := ⟨RJx4a65c, "size", "()I"⟩
abbrev cJx4a65c_elementData_915e3 : ByteArray := prog_45_method_18_code
def yJx4a65c_elementData_915e3 : MethodName := ⟨RJx4a65c, "elementData", "(I)Ljava/lang/Object;"⟩
abbrev cJx4a65c_get_915e3 : ByteArray := prog_45_method_20_code
def yJx4a65c_get_915e3 : MethodName := ⟨RJx4a65c, "get", "(I)Ljava/lang/Object;"⟩
abbrev cJx4a65c_add_72be8 : ByteArray := prog_45_method_24_code
def yJx4a65c_add_72be8 : MethodName := ⟨RJx4a65c, "add", "(Ljava/lang/Object;[Ljava/lang/Object;I)V"⟩
abbrev cJx4a65c_add_9ea2d : ByteArray := prog_45_method_25_code
def yJx4a65c_add_9ea2d : MethodName := ⟨RJx4a65c, "add", "(Ljava/lang/Object;)Z"⟩
abbrev cJx4a65c_clear_da8c8 : ByteArray := prog_45_method_40_code
def yJx4a65c_clear_da8c8 : MethodName := ⟨RJx4a65c, "clear", "()V"⟩
def RJ7 : String := "java/util/Arrays"
def TJ7 : u_T := fun k => match k with
  | _ => ("", "", "", false)
def tyJ7 : Nat → FieldType := fun k => match k with
  | _ => .int
abbrev wsJ70 : List Cond := u_ws RJ7 TJ7 0
theorem nmJ7 : ∀ a, a < 0 → ∀ b, b < 0 → a ≠ b → (TJ7 a).2.1 ≠ (TJ7 b).2.1 := by decide +kernel
theorem tyJ7_ok : ∀ k, k < 0 → parseFieldDescriptor (TJ7 k).2.2.1 = some (tyJ7 k) := by decide +kernel
abbrev cJ7_rangeCheck_23922 : ByteArray := prog_46_method_30_code
def yJ7_rangeCheck_23922 : MethodName := ⟨RJ7, "rangeCheck", "(III)V"⟩
abbrev cJ7_fill_53178 : ByteArray := prog_46_method_103_code
def yJ7_fill_53178 : MethodName := ⟨RJ7, "fill", "([II)V"⟩
abbrev cJ7_fill_eb02e : ByteArray := prog_46_method_110_code
def yJ7_fill_eb02e : MethodName := ⟨RJ7, "fill", "([BIIB)V"⟩
abbrev cJ7_copyOf_1904c : ByteArray := prog_46_method_119_code
def yJ7_copyOf_1904c : MethodName := ⟨RJ7, "copyOf", "([Ljava/lang/Object;I)[Ljava/lang/Object;"⟩
abbrev cJ7_copyOf_6403c : ByteArray := prog_46_method_120_code
def yJ7_copyOf_6403c : MethodName := ⟨RJ7, "copyOf", "([Ljava/lang/Object;ILjava/lang/Class;)[Ljava/lang/Object;"⟩
abbrev cJ7_copyOf_9075b : ByteArray := prog_46_method_121_code
def yJ7_copyOf_9075b : MethodName := ⟨RJ7, "copyOf", "([BI)[B"⟩
abbrev cJ7_checkLength_df160 : ByteArray := prog_46_method_131_code
def yJ7_checkLength_df160 : MethodName := ⟨RJ7, "checkLength", "(II)V"⟩
abbrev cJ7_copyOfRange_39247 : ByteArray := prog_46_method_132_code
def yJ7_copyOfRange_39247 : MethodName := ⟨RJ7, "copyOfRange", "([BII)[B"⟩
abbrev cJ7_copyOfRangeByte_39247 : ByteArray := prog_46_method_133_code
def yJ7_copyOfRangeByte_39247 : MethodName := ⟨RJ7, "copyOfRangeByte", "([BII)[B"⟩
def RJx5ef63 : String := "java/util/Collection"
def TJx5ef63 : u_T := fun k => match k with
  | _ => ("", "", "", false)
def tyJx5ef63 : Nat → FieldType := fun k => match k with
  | _ => .int
abbrev wsJx5ef630 : List Cond := u_ws RJx5ef63 TJx5ef63 0
theorem nmJx5ef63 : ∀ a, a < 0 → ∀ b, b < 0 → a ≠ b → (TJx5ef63 a).2.1 ≠ (TJx5ef63 b).2.1 := by decide +kernel
theorem tyJx5ef63_ok : ∀ k, k < 0 → parseFieldDescriptor (TJx5ef63 k).2.2.1 = some (tyJx5ef63 k) := by decide +kernel
def RJxbd725 : String := "java/util/List"
def TJxbd725 : u_T := fun k => match k with
  | _ => ("", "", "", false)
def tyJxbd725 : Nat → FieldType := fun k => match k with
  | _ => .int
abbrev wsJxbd7250 : List Cond := u_ws RJxbd725 TJxbd725 0
theorem nmJxbd725 : ∀ a, a < 0 → ∀ b, b < 0 → a ≠ b → (TJxbd725 a).2.1 ≠ (TJxbd725 b).2.1 := by decide +kernel
theorem tyJxbd725_ok : ∀ k, k < 0 → parseFieldDescriptor (TJxbd725 k).2.2.1 = some (tyJxbd725 k) := by decide +kernel
def RJ15 : String := "java/util/Objects"
def TJ15 : u_T := fun k => match k with
  | _ => ("", "", "", false)
def tyJ15 : Nat → FieldType := fun k => match k with
  | _ => .int
abbrev wsJ150 : List Cond := u_ws RJ15 TJ15 0
theorem nmJ15 : ∀ a, a < 0 → ∀ b, b < 0 → a ≠ b → (TJ15 a).2.1 ≠ (TJ15 b).2.1 := by decide +kernel
theorem tyJ15_ok : ∀ k, k < 0 → parseFieldDescriptor (TJ15 k).2.2.1 = some (tyJ15 k) := by decide +kernel
abbrev cJ15_checkIndex_7cf53 : ByteArray := prog_50_method_17_code
def yJ15_checkIndex_7cf53 : MethodName := ⟨RJ15, "checkIndex", "(II)I"⟩
def RJxf0a74 : String := "java/util/RandomAccess"
def TJxf0a74 : u_T := fun k => match k with
  | _ => ("", "", "", false)
def tyJxf0a74 : Nat → FieldType := fun k => match k with
  | _ => .int
abbrev wsJxf0a740 : List Cond := u_ws RJxf0a74 TJxf0a74 0
theorem nmJxf0a74 : ∀ a, a < 0 → ∀ b, b < 0 → a ≠ b → (TJxf0a74 a).2.1 ≠ (TJxf0a74 b).2.1 := by decide +kernel
theorem tyJxf0a74_ok : ∀ k, k < 0 → parseFieldDescriptor (TJxf0a74 k).2.2.1 = some (tyJxf0a74 k) := by decide +kernel
def RJxa66e6 : String := "java/util/SequencedCollection"
def TJxa66e6 : u_T := fun k => match k with
  | _ => ("", "", "", false)
def tyJxa66e6 : Nat → FieldType := fun k => match k with
  | _ => .int
abbrev wsJxa66e60 : List Cond := u_ws RJxa66e6 TJxa66e6 0
theorem nmJxa66e6 : ∀ a, a < 0 → ∀ b, b < 0 → a ≠ b → (TJxa66e6 a).2.1 ≠ (TJxa66e6 b).2.1 := by decide +kernel
theorem tyJxa66e6_ok : ∀ k, k < 0 → parseFieldDescriptor (TJxa66e6 k).2.2.1 = some (tyJxa66e6 k) := by decide +kernel
def RJ8 : String := "jdk/internal/util/ArraysSupport"
def TJ8 : u_T := fun k => match k with
  | _ => ("", "", "", false)
def tyJ8 : Nat → FieldType := fun k => match k with
  | _ => .int
abbrev wsJ80 : List Cond := u_ws RJ8 TJ8 0
theorem nmJ8 : ∀ a, a < 0 → ∀ b, b < 0 → a ≠ b → (TJ8 a).2.1 ≠ (TJ8 b).2.1 := by decide +kernel
theorem tyJ8_ok : ∀ k, k < 0 → parseFieldDescriptor (TJ8 k).2.2.1 = some (tyJ8 k) := by decide +kernel
abbrev cJ8_newLength_cabcc : ByteArray := prog_53_method_27_code
def yJ8_newLength_cabcc : MethodName := ⟨RJ8, "newLength", "(III)I"⟩
abbrev cJ8_hugeLength_7cf53 : ByteArray := prog_53_method_28_code
def yJ8_hugeLength_7cf53 : MethodName := ⟨RJ8, "hugeLength", "(II)I"⟩
def RJ3 : String := "jdk/internal/util/Preconditions"
def TJ3 : u_T := fun k => match k with
  | _ => ("", "", "", false)
def tyJ3 : Nat → FieldType := fun k => match k with
  | _ => .int
abbrev wsJ30 : List Cond := u_ws RJ3 TJ3 0
theorem nmJ3 : ∀ a, a < 0 → ∀ b, b < 0 → a ≠ b → (TJ3 a).2.1 ≠ (TJ3 b).2.1 := by decide +kernel
theorem tyJ3_ok : ∀ k, k < 0 → parseFieldDescriptor (TJ3 k).2.2.1 = some (tyJ3 k) := by decide +kernel
abbrev cJ3_checkIndex_8e157 : ByteArray := prog_54_method_11_code
def yJ3_checkIndex_8e157 : MethodName := ⟨RJ3, "checkIndex", "(IILjava/util/function/BiFunction;)I"⟩
abbrev cJ3_checkFromToIndex_8c36e : ByteArray := prog_54_method_12_code
def yJ3_checkFromToIndex_8c36e : MethodName := ⟨RJ3, "checkFromToIndex", "(IIILjava/util/function/BiFunction;)I"⟩
abbrev cJ3_checkFromIndexSize_8c36e : ByteArray := prog_54_method_13_code
def yJ3_checkFromIndexSize_8c36e : MethodName := ⟨RJ3, "checkFromIndexSize", "(IIILjava/util/function/BiFunction;)I"⟩
def RL : String := "DustSheetMapLaw"
abbrev cL_setHeight : ByteArray := method_3_code
def yL_setHeight : MethodName := ⟨RL, "setHeight", "(LDustSheetMap;III[J)I"⟩
abbrev cL_peg : ByteArray := method_4_code
def yL_peg : MethodName := ⟨RL, "peg", "(LDustSheetMap;II[J)I"⟩
abbrev cL_unpeg : ByteArray := method_5_code
def yL_unpeg : MethodName := ⟨RL, "unpeg", "(LDustSheetMap;II[J)I"⟩
abbrev cL_height : ByteArray := method_6_code
def yL_height : MethodName := ⟨RL, "height", "(LDustSheetMap;II[J)I"⟩
abbrev cL_isPegged : ByteArray := method_7_code
def yL_isPegged : MethodName := ⟨RL, "isPegged", "(LDustSheetMap;II[J)I"⟩
abbrev cL_rowByHeight : ByteArray := method_8_code
def yL_rowByHeight : MethodName := ⟨RL, "rowByHeight", "(LDustSheetMap;I[J)I"⟩
abbrev cL_columnByHeight : ByteArray := method_9_code
def yL_columnByHeight : MethodName := ⟨RL, "columnByHeight", "(LDustSheetMap;I[J)I"⟩
abbrev cL_islands : ByteArray := method_10_code
def yL_islands : MethodName := ⟨RL, "islands", "(LDustSheetMap;I[J)I"⟩
abbrev cL_islandsByUnions : ByteArray := method_11_code
def yL_islandsByUnions : MethodName := ⟨RL, "islandsByUnions", "(LDustSheetMap;I[J)I"⟩
abbrev cL_pour : ByteArray := method_12_code
def yL_pour : MethodName := ⟨RL, "pour", "(LDustSheetMap;III[J)I"⟩
abbrev cL_water : ByteArray := method_13_code
def yL_water : MethodName := ⟨RL, "water", "(LDustSheetMap;II[J)I"⟩
abbrev cL_endRow : ByteArray := method_14_code
def yL_endRow : MethodName := ⟨RL, "endRow", "(LDustSheetMap;II[J)I"⟩
abbrev cL_endColumn : ByteArray := method_15_code
def yL_endColumn : MethodName := ⟨RL, "endColumn", "(LDustSheetMap;II[J)I"⟩
abbrev cL_basinSize : ByteArray := method_16_code
def yL_basinSize : MethodName := ⟨RL, "basinSize", "(LDustSheetMap;II[J)I"⟩
abbrev cL_basinSizeUpwards : ByteArray := method_17_code
def yL_basinSizeUpwards : MethodName := ⟨RL, "basinSizeUpwards", "(LDustSheetMap;II[J)I"⟩
abbrev cL_spillLevel : ByteArray := method_18_code
def yL_spillLevel : MethodName := ⟨RL, "spillLevel", "(LDustSheetMap;II[J)I"⟩
abbrev cL_spillLevelByRounds : ByteArray := method_19_code
def yL_spillLevelByRounds : MethodName := ⟨RL, "spillLevelByRounds", "(LDustSheetMap;II[J)I"⟩
abbrev cL_routeCost : ByteArray := method_20_code
def yL_routeCost : MethodName := ⟨RL, "routeCost", "(LDustSheetMap;IIII[J)I"⟩
abbrev cL_routeCostByRounds : ByteArray := method_21_code
def yL_routeCostByRounds : MethodName := ⟨RL, "routeCostByRounds", "(LDustSheetMap;IIII[J)I"⟩
abbrev cL_steepestStep : ByteArray := method_22_code
def yL_steepestStep : MethodName := ⟨RL, "steepestStep", "(LDustSheetMap;IIII[J)I"⟩
abbrev cL_steepestStepByHalving : ByteArray := method_23_code
def yL_steepestStepByHalving : MethodName := ⟨RL, "steepestStepByHalving", "(LDustSheetMap;IIII[J)I"⟩
abbrev cL_addMoth : ByteArray := method_24_code
def yL_addMoth : MethodName := ⟨RL, "addMoth", "(LDustSheetMap;II[J)I"⟩
abbrev cL_removeMoth : ByteArray := method_25_code
def yL_removeMoth : MethodName := ⟨RL, "removeMoth", "(LDustSheetMap;I[J)I"⟩
abbrev cL_patch : ByteArray := method_26_code
def yL_patch : MethodName := ⟨RL, "patch", "(LDustSheetMap;II[J)I"⟩
abbrev cL_mothRow : ByteArray := method_27_code
def yL_mothRow : MethodName := ⟨RL, "mothRow", "(LDustSheetMap;I[J)I"⟩
abbrev cL_mothColumn : ByteArray := method_28_code
def yL_mothColumn : MethodName := ⟨RL, "mothColumn", "(LDustSheetMap;I[J)I"⟩
abbrev cL_wear : ByteArray := method_29_code
def yL_wear : MethodName := ⟨RL, "wear", "(LDustSheetMap;II[J)I"⟩
abbrev cL_nightsUntilHole : ByteArray := method_30_code
def yL_nightsUntilHole : MethodName := ⟨RL, "nightsUntilHole", "(LDustSheetMap;II[J)I"⟩
abbrev cL_slope : ByteArray := method_31_code
def yL_slope : MethodName := ⟨RL, "slope", "(LDustSheetMap;II[D)I"⟩
abbrev cL_feed : ByteArray := method_32_code
def yL_feed : MethodName := ⟨RL, "feed", "(LDustSheetMap;C[J)I"⟩
abbrev cL_execute : ByteArray := method_33_code
def yL_execute : MethodName := ⟨RL, "execute", "(LDustSheetMap;[J)I"⟩
abbrev cL_faultPosition : ByteArray := method_34_code
def yL_faultPosition : MethodName := ⟨RL, "faultPosition", "(LDustSheetMap;[J)I"⟩
abbrev cL_writeRow : ByteArray := method_35_code
def yL_writeRow : MethodName := ⟨RL, "writeRow", "(LDustSheetMap;I[J)I"⟩
abbrev cL_lineCharacter : ByteArray := method_36_code
def yL_lineCharacter : MethodName := ⟨RL, "lineCharacter", "(LDustSheetMap;I[J)I"⟩
abbrev cL_denial : ByteArray := method_37_code
def yL_denial : MethodName := ⟨RL, "denial", "(LDustSheetMap;[J)I"⟩
abbrev cL_denialDetail : ByteArray := method_38_code
def yL_denialDetail : MethodName := ⟨RL, "denialDetail", "(LDustSheetMap;[J)I"⟩
abbrev cL_denialCause : ByteArray := method_39_code
def yL_denialCause : MethodName := ⟨RL, "denialCause", "(LDustSheetMap;[J)I"⟩
abbrev cL_undo : ByteArray := method_40_code
def yL_undo : MethodName := ⟨RL, "undo", "(LDustSheetMap;[J)I"⟩
abbrev cL_restoreSnapshot : ByteArray := method_41_code
def yL_restoreSnapshot : MethodName := ⟨RL, "restoreSnapshot", "(LDustSheetMap;[J)I"⟩
abbrev cL_law : ByteArray := code
def yL_law : MethodName := ⟨RL, "law", "([I)Z"⟩
abbrev vwCl : List vw_C := [(RJ0, TJ0, 4), (RJ4, TJ4, 4), (RJx00060, TJx00060, 6), (RJx7c733, TJx7c733, 6), (RJx4a65c, TJx4a65c, 3), (RX1, TX1, 2), (RX2, TX2, 3), (RX3, TX3, 4), (RX4, TX4, 3), (RX5, TX5, 4), (RX6, TX6, 6), (RX7, TX7, 10), (RX8, TX8, 2), (RX9, TX9, 7), (RX10, TX10, 1), (RX12, TX12, 15), (RX13, TX13, 24)]
