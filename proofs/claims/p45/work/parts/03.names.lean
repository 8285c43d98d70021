/-! ===== BEGIN printed: names, fields, word lists, decode rows ===== -/
def RX0 : String := "CellWindows$1"
def TX0 : u_T := fun k => match k with
  | _ => ("", "", "", false)
def tyX0 : Nat → FieldType := fun k => match k with
  | _ => .int
abbrev wsX00 : List Cond := u_ws RX0 TX0 0
theorem nmX0 : ∀ a, a < 0 → ∀ b, b < 0 → a ≠ b → (TX0 a).2.1 ≠ (TX0 b).2.1 := by decide +kernel
theorem tyX0_ok : ∀ k, k < 0 → parseFieldDescriptor (TX0 k).2.2.1 = some (tyX0 k) := by decide +kernel
def RX1 : String := "CellWindows$Best"
def TX1 : u_T := fun k => match k with
  | 0 => ("CellWindows$Best", "found", "Z", false)
  | 1 => ("CellWindows$Best", "rowWeight", "I", false)
  | 2 => ("CellWindows$Best", "columnWeight", "I", false)
  | _ => ("CellWindows$Best", "room", "I", false)
def tyX1 : Nat → FieldType := fun k => match k with
  | 0 => .boolean
  | 1 => .int
  | 2 => .int
  | _ => .int
abbrev wsX10 : List Cond := u_ws RX1 TX1 4
theorem nmX1 : ∀ a, a < 4 → ∀ b, b < 4 → a ≠ b → (TX1 a).2.1 ≠ (TX1 b).2.1 := by decide +kernel
theorem tyX1_ok : ∀ k, k < 4 → parseFieldDescriptor (TX1 k).2.2.1 = some (tyX1 k) := by decide +kernel
abbrev cX1_init : ByteArray := prog_3_method_1_code
def yX1_init : MethodName := ⟨RX1, "<init>", "()V"⟩
abbrev cX1_offer : ByteArray := prog_3_method_2_code
def yX1_offer : MethodName := ⟨RX1, "offer", "(III)V"⟩
def RX2 : String := "CellWindows$Differences"
def TX2 : u_T := fun k => match k with
  | 0 => ("CellWindows$Differences", "known", "[Z", true)
  | 1 => ("CellWindows$Differences", "rowDifference", "[I", true)
  | 2 => ("CellWindows$Differences", "columnDifference", "[I", true)
  | 3 => ("CellWindows$Differences", "inLine", "[Z", true)
  | 4 => ("CellWindows$Differences", "count", "I", false)
  | 5 => ("CellWindows$Differences", "rows", "I", false)
  | _ => ("CellWindows$Differences", "columns", "I", false)
def tyX2 : Nat → FieldType := fun k => match k with
  | 0 => .array .boolean
  | 1 => .array .int
  | 2 => .array .int
  | 3 => .array .boolean
  | 4 => .int
  | 5 => .int
  | _ => .int
abbrev wsX20 : List Cond := u_ws RX2 TX2 7
theorem nmX2 : ∀ a, a < 7 → ∀ b, b < 7 → a ≠ b → (TX2 a).2.1 ≠ (TX2 b).2.1 := by decide +kernel
theorem tyX2_ok : ∀ k, k < 7 → parseFieldDescriptor (TX2 k).2.2.1 = some (tyX2 k) := by decide +kernel
abbrev cX2_init : ByteArray := prog_4_method_1_code
def yX2_init : MethodName := ⟨RX2, "<init>", "()V"⟩
abbrev cX2_clear : ByteArray := prog_4_method_2_code
def yX2_clear : MethodName := ⟨RX2, "clear", "(LCellWindows$Program;)V"⟩
abbrev cX2_add : ByteArray := prog_4_method_3_code
def yX2_add : MethodName := ⟨RX2, "add", "(LCellWindows$Program;LCellWindows$Work;II)V"⟩
abbrev cX2_addOne : ByteArray := prog_4_method_4_code
def yX2_addOne : MethodName := ⟨RX2, "addOne", "(II)V"⟩
abbrev cX2_areKeptApart : ByteArray := prog_4_method_5_code
def yX2_areKeptApart : MethodName := ⟨RX2, "areKeptApart", "(LCellWindows$Window;)Z"⟩
abbrev cX2_leastRestModulus : ByteArray := prog_4_method_6_code
def yX2_leastRestModulus : MethodName := ⟨RX2, "leastRestModulus", "(LCellWindows$Window;)I"⟩
abbrev cX2_leastModulusDividingNone : ByteArray := prog_4_method_7_code
def yX2_leastModulusDividingNone : MethodName := ⟨RX2, "leastModulusDividingNone", "()I"⟩
abbrev cX2_dividesOne : ByteArray := prog_4_method_8_code
def yX2_dividesOne : MethodName := ⟨RX2, "dividesOne", "(I)Z"⟩
abbrev cX2_findTwoRests : ByteArray := prog_4_method_9_code
def yX2_findTwoRests : MethodName := ⟨RX2, "findTwoRests", "(LCellWindows$Window;)V"⟩
abbrev cX2_findSlant : ByteArray := prog_4_method_10_code
def yX2_findSlant : MethodName := ⟨RX2, "findSlant", "(LCellWindows$Window;)V"⟩
def RX3 : String := "CellWindows$Kind"
def TX3 : u_T := fun k => match k with
  | _ => ("", "", "", false)
def tyX3 : Nat → FieldType := fun k => match k with
  | _ => .int
abbrev wsX30 : List Cond := u_ws RX3 TX3 0
theorem nmX3 : ∀ a, a < 0 → ∀ b, b < 0 → a ≠ b → (TX3 a).2.1 ≠ (TX3 b).2.1 := by decide +kernel
theorem tyX3_ok : ∀ k, k < 0 → parseFieldDescriptor (TX3 k).2.2.1 = some (tyX3 k) := by decide +kernel
def RX4 : String := "CellWindows$Machine"
def TX4 : u_T := fun k => match k with
  | 0 => ("CellWindows$Machine", "contracted", "Z", true)
  | _ => ("CellWindows$Machine", "kept", "[[I", true)
def tyX4 : Nat → FieldType := fun k => match k with
  | 0 => .boolean
  | _ => .array (.array .int)
abbrev wsX40 : List Cond := u_ws RX4 TX4 2
theorem nmX4 : ∀ a, a < 2 → ∀ b, b < 2 → a ≠ b → (TX4 a).2.1 ≠ (TX4 b).2.1 := by decide +kernel
theorem tyX4_ok : ∀ k, k < 2 → parseFieldDescriptor (TX4 k).2.2.1 = some (tyX4 k) := by decide +kernel
abbrev cX4_init : ByteArray := prog_6_method_1_code
def yX4_init : MethodName := ⟨RX4, "<init>", "(Z)V"⟩
abbrev cX4_empty : ByteArray := prog_6_method_2_code
def yX4_empty : MethodName := ⟨RX4, "empty", "()V"⟩
abbrev cX4_doStep : ByteArray := prog_6_method_3_code
def yX4_doStep : MethodName := ⟨RX4, "doStep", "(LCellWindows$Program;LCellWindows$Work;I)I"⟩
abbrev cX4_taken : ByteArray := prog_6_method_4_code
def yX4_taken : MethodName := ⟨RX4, "taken", "(LCellWindows$Program;III)I"⟩
abbrev cX4_placeIn : ByteArray := prog_6_method_5_code
def yX4_placeIn : MethodName := ⟨RX4, "placeIn", "(LCellWindows$Program;III)I"⟩
def RX5 : String := "CellWindows$Program"
def TX5 : u_T := fun k => match k with
  | 0 => ("CellWindows$Program", "statements", "Ljava/util/ArrayList;", true)
  | 1 => ("CellWindows$Program", "rows", "I", false)
  | 2 => ("CellWindows$Program", "columns", "I", false)
  | _ => ("CellWindows$Program", "points", "I", false)
def tyX5 : Nat → FieldType := fun k => match k with
  | 0 => .object "java/util/ArrayList"
  | 1 => .int
  | 2 => .int
  | _ => .int
abbrev wsX50 : List Cond := u_ws RX5 TX5 4
theorem nmX5 : ∀ a, a < 4 → ∀ b, b < 4 → a ≠ b → (TX5 a).2.1 ≠ (TX5 b).2.1 := by decide +kernel
theorem tyX5_ok : ∀ k, k < 4 → parseFieldDescriptor (TX5 k).2.2.1 = some (tyX5 k) := by decide +kernel
abbrev cX5_init : ByteArray := prog_7_method_1_code
def yX5_init : MethodName := ⟨RX5, "<init>", "()V"⟩
abbrev cX5_spread : ByteArray := prog_7_method_2_code
def yX5_spread : MethodName := ⟨RX5, "spread", "(II)V"⟩
abbrev cX5_cells : ByteArray := prog_7_method_3_code
def yX5_cells : MethodName := ⟨RX5, "cells", "()I"⟩
abbrev cX5_firstCell : ByteArray := prog_7_method_4_code
def yX5_firstCell : MethodName := ⟨RX5, "firstCell", "(I)I"⟩
abbrev cX5_hasPoint : ByteArray := prog_7_method_5_code
def yX5_hasPoint : MethodName := ⟨RX5, "hasPoint", "(II)Z"⟩
abbrev cX5_cellOf : ByteArray := prog_7_method_6_code
def yX5_cellOf : MethodName := ⟨RX5, "cellOf", "(III)I"⟩
abbrev cX5_allows : ByteArray := prog_7_method_7_code
def yX5_allows : MethodName := ⟨RX5, "allows", "(II)Z"⟩
abbrev cX5_comesLater : ByteArray := prog_7_method_8_code
def yX5_comesLater : MethodName := ⟨RX5, "comesLater", "(ILCellWindows$Read;II)Z"⟩
def RX6 : String := "CellWindows$Read"
def TX6 : u_T := fun k => match k with
  | 0 => ("CellWindows$Read", "source", "I", true)
  | 1 => ("CellWindows$Read", "factor", "I", true)
  | 2 => ("CellWindows$Read", "rowsBack", "I", true)
  | _ => ("CellWindows$Read", "columnsBack", "I", true)
def tyX6 : Nat → FieldType := fun k => match k with
  | 0 => .int
  | 1 => .int
  | 2 => .int
  | _ => .int
abbrev wsX60 : List Cond := u_ws RX6 TX6 4
theorem nmX6 : ∀ a, a < 4 → ∀ b, b < 4 → a ≠ b → (TX6 a).2.1 ≠ (TX6 b).2.1 := by decide +kernel
theorem tyX6_ok : ∀ k, k < 4 → parseFieldDescriptor (TX6 k).2.2.1 = some (tyX6 k) := by decide +kernel
abbrev cX6_init : ByteArray := prog_8_method_1_code
def yX6_init : MethodName := ⟨RX6, "<init>", "(IIII)V"⟩
def RX7 : String := "CellWindows$Statement"
def TX7 : u_T := fun k => match k with
  | 0 => ("CellWindows$Statement", "addend", "I", true)
  | 1 => ("CellWindows$Statement", "reads", "Ljava/util/ArrayList;", true)
  | 2 => ("CellWindows$Statement", "window", "LCellWindows$Window;", true)
  | 3 => ("CellWindows$Statement", "offset", "I", false)
  | _ => ("CellWindows$Statement", "lasting", "Z", false)
def tyX7 : Nat → FieldType := fun k => match k with
  | 0 => .int
  | 1 => .object "java/util/ArrayList"
  | 2 => .object "CellWindows$Window"
  | 3 => .int
  | _ => .boolean
abbrev wsX70 : List Cond := u_ws RX7 TX7 5
theorem nmX7 : ∀ a, a < 5 → ∀ b, b < 5 → a ≠ b → (TX7 a).2.1 ≠ (TX7 b).2.1 := by decide +kernel
theorem tyX7_ok : ∀ k, k < 5 → parseFieldDescriptor (TX7 k).2.2.1 = some (tyX7 k) := by decide +kernel
abbrev cX7_init : ByteArray := prog_9_method_1_code
def yX7_init : MethodName := ⟨RX7, "<init>", "(I)V"⟩
def RX8 : String := "CellWindows$Window"
def TX8 : u_T := fun k => match k with
  | 0 => ("CellWindows$Window", "kind", "LCellWindows$Kind;", false)
  | 1 => ("CellWindows$Window", "modulus", "I", false)
  | 2 => ("CellWindows$Window", "rowModulus", "I", false)
  | 3 => ("CellWindows$Window", "columnModulus", "I", false)
  | _ => ("CellWindows$Window", "slant", "I", false)
def tyX8 : Nat → FieldType := fun k => match k with
  | 0 => .object "CellWindows$Kind"
  | 1 => .int
  | 2 => .int
  | 3 => .int
  | _ => .int
abbrev wsX80 : List Cond := u_ws RX8 TX8 5
theorem nmX8 : ∀ a, a < 5 → ∀ b, b < 5 → a ≠ b → (TX8 a).2.1 ≠ (TX8 b).2.1 := by decide +kernel
theorem tyX8_ok : ∀ k, k < 5 → parseFieldDescriptor (TX8 k).2.2.1 = some (tyX8 k) := by decide +kernel
abbrev cX8_init : ByteArray := prog_10_method_1_code
def yX8_init : MethodName := ⟨RX8, "<init>", "()V"⟩
abbrev cX8_becomeWhole : ByteArray := prog_10_method_2_code
def yX8_becomeWhole : MethodName := ⟨RX8, "becomeWhole", "()V"⟩
abbrev cX8_becomeRest : ByteArray := prog_10_method_3_code
def yX8_becomeRest : MethodName := ⟨RX8, "becomeRest", "(I)V"⟩
abbrev cX8_becomeTwoRests : ByteArray := prog_10_method_4_code
def yX8_becomeTwoRests : MethodName := ⟨RX8, "becomeTwoRests", "(II)V"⟩
abbrev cX8_becomeSlant : ByteArray := prog_10_method_5_code
def yX8_becomeSlant : MethodName := ⟨RX8, "becomeSlant", "(II)V"⟩
abbrev cX8_become : ByteArray := prog_10_method_6_code
def yX8_become : MethodName := ⟨RX8, "become", "(LCellWindows$Window;)V"⟩
abbrev cX8_places : ByteArray := prog_10_method_7_code
def yX8_places : MethodName := ⟨RX8, "places", "(I)I"⟩
abbrev cX8_placeFor : ByteArray := prog_10_method_8_code
def yX8_placeFor : MethodName := ⟨RX8, "placeFor", "(III)I"⟩
abbrev cX8_keepsApart : ByteArray := prog_10_method_9_code
def yX8_keepsApart : MethodName := ⟨RX8, "keepsApart", "(III)Z"⟩
def RX9 : String := "CellWindows$Work"
def TX9 : u_T := fun k => match k with
  | 0 => ("CellWindows$Work", "number", "[I", true)
  | 1 => ("CellWindows$Work", "row", "[I", true)
  | 2 => ("CellWindows$Work", "column", "[I", true)
  | 3 => ("CellWindows$Work", "birth", "[I", true)
  | 4 => ("CellWindows$Work", "end", "[I", true)
  | 5 => ("CellWindows$Work", "cellAt", "[I", true)
  | 6 => ("CellWindows$Work", "time", "[I", true)
  | 7 => ("CellWindows$Work", "nextStep", "[I", true)
  | 8 => ("CellWindows$Work", "change", "[I", true)
  | _ => ("CellWindows$Work", "cells", "I", false)
def tyX9 : Nat → FieldType := fun k => match k with
  | 0 => .array .int
  | 1 => .array .int
  | 2 => .array .int
  | 3 => .array .int
  | 4 => .array .int
  | 5 => .array .int
  | 6 => .array .int
  | 7 => .array .int
  | 8 => .array .int
  | _ => .int
abbrev wsX90 : List Cond := u_ws RX9 TX9 10
theorem nmX9 : ∀ a, a < 10 → ∀ b, b < 10 → a ≠ b → (TX9 a).2.1 ≠ (TX9 b).2.1 := by decide +kernel
theorem tyX9_ok : ∀ k, k < 10 → parseFieldDescriptor (TX9 k).2.2.1 = some (tyX9 k) := by decide +kernel
abbrev cX9_init : ByteArray := prog_11_method_1_code
def yX9_init : MethodName := ⟨RX9, "<init>", "()V"⟩
abbrev cX9_arrange : ByteArray := prog_11_method_2_code
def yX9_arrange : MethodName := ⟨RX9, "arrange", "(LCellWindows$Program;II)V"⟩
abbrev cX9_setTimes : ByteArray := prog_11_method_3_code
def yX9_setTimes : MethodName := ⟨RX9, "setTimes", "(LCellWindows$Program;III)V"⟩
abbrev cX9_setSteps : ByteArray := prog_11_method_4_code
def yX9_setSteps : MethodName := ⟨RX9, "setSteps", "()V"⟩
abbrev cX9_setEnds : ByteArray := prog_11_method_5_code
def yX9_setEnds : MethodName := ⟨RX9, "setEnds", "(LCellWindows$Program;)V"⟩
abbrev cX9_stretchCellRead : ByteArray := prog_11_method_6_code
def yX9_stretchCellRead : MethodName := ⟨RX9, "stretchCellRead", "(LCellWindows$Program;ILCellWindows$Read;)V"⟩
abbrev cX9_countLive : ByteArray := prog_11_method_7_code
def yX9_countLive : MethodName := ⟨RX9, "countLive", "(I)I"⟩
abbrev cX9_mostLiveAmong : ByteArray := prog_11_method_8_code
def yX9_mostLiveAmong : MethodName := ⟨RX9, "mostLiveAmong", "(II)I"⟩
abbrev cX9_inConflict : ByteArray := prog_11_method_9_code
def yX9_inConflict : MethodName := ⟨RX9, "inConflict", "(II)Z"⟩
abbrev cX9_isBornWithin : ByteArray := prog_11_method_10_code
def yX9_isBornWithin : MethodName := ⟨RX9, "isBornWithin", "(II)Z"⟩
abbrev cX9_countConflicts : ByteArray := prog_11_method_11_code
def yX9_countConflicts : MethodName := ⟨RX9, "countConflicts", "(III)I"⟩
def RX10 : String := "CellWindows"
def TX10 : u_T := fun k => match k with
  | 0 => ("CellWindows", "program", "LCellWindows$Program;", true)
  | 1 => ("CellWindows", "work", "LCellWindows$Work;", true)
  | 2 => ("CellWindows", "differences", "LCellWindows$Differences;", true)
  | 3 => ("CellWindows", "least", "LCellWindows$Window;", true)
  | 4 => ("CellWindows", "plainMachine", "LCellWindows$Machine;", true)
  | 5 => ("CellWindows", "contractedMachine", "LCellWindows$Machine;", true)
  | 6 => ("CellWindows", "best", "LCellWindows$Best;", true)
  | 7 => ("CellWindows", "rowWeight", "I", false)
  | _ => ("CellWindows", "columnWeight", "I", false)
def tyX10 : Nat → FieldType := fun k => match k with
  | 0 => .object "CellWindows$Program"
  | 1 => .object "CellWindows$Work"
  | 2 => .object "CellWindows$Differences"
  | 3 => .object "CellWindows$Window"
  | 4 => .object "CellWindows$Machine"
  | 5 => .object "CellWindows$Machine"
  | 6 => .object "CellWindows$Best"
  | 7 => .int
  | _ => .int
abbrev wsX100 : List Cond := u_ws RX10 TX10 9
theorem nmX10 : ∀ a, a < 9 → ∀ b, b < 9 → a ≠ b → (TX10 a).2.1 ≠ (TX10 b).2.1 := by decide +kernel
theorem tyX10_ok : ∀ k, k < 9 → parseFieldDescriptor (TX10 k).2.2.1 = some (tyX10 k) := by decide +kernel
abbrev cX10_init : ByteArray := prog_1_method_1_code
def yX10_init : MethodName := ⟨RX10, "<init>", "()V"⟩
abbrev cX10_addStatement : ByteArray := prog_1_method_2_code
def yX10_addStatement : MethodName := ⟨RX10, "addStatement", "(I)I"⟩
abbrev cX10_addRead : ByteArray := prog_1_method_3_code
def yX10_addRead : MethodName := ⟨RX10, "addRead", "(IIIII)I"⟩
abbrev cX10_dropReads : ByteArray := prog_1_method_4_code
def yX10_dropReads : MethodName := ⟨RX10, "dropReads", "(I)I"⟩
abbrev cX10_setLasting : ByteArray := prog_1_method_5_code
def yX10_setLasting : MethodName := ⟨RX10, "setLasting", "(IZ)Z"⟩
abbrev cX10_setField : ByteArray := prog_1_method_6_code
def yX10_setField : MethodName := ⟨RX10, "setField", "(II)I"⟩
abbrev cX10_setSchedule : ByteArray := prog_1_method_7_code
def yX10_setSchedule : MethodName := ⟨RX10, "setSchedule", "(II)Z"⟩
abbrev cX10_setOffset : ByteArray := prog_1_method_8_code
def yX10_setOffset : MethodName := ⟨RX10, "setOffset", "(II)Z"⟩
abbrev cX10_isAllowed : ByteArray := prog_1_method_9_code
def yX10_isAllowed : MethodName := ⟨RX10, "isAllowed", "()Z"⟩
abbrev cX10_isReadInOrder : ByteArray := prog_1_method_11_code
def yX10_isReadInOrder : MethodName := ⟨RX10, "isReadInOrder", "(II)Z"⟩
abbrev cX10_steps : ByteArray := prog_1_method_12_code
def yX10_steps : MethodName := ⟨RX10, "steps", "()I"⟩
abbrev cX10_stepOf : ByteArray := prog_1_method_13_code
def yX10_stepOf : MethodName := ⟨RX10, "stepOf", "(III)I"⟩
abbrev cX10_statementAt : ByteArray := prog_1_method_14_code
def yX10_statementAt : MethodName := ⟨RX10, "statementAt", "(I)I"⟩
abbrev cX10_pointAt : ByteArray := prog_1_method_15_code
def yX10_pointAt : MethodName := ⟨RX10, "pointAt", "(I)I"⟩
abbrev cX10_endOf : ByteArray := prog_1_method_16_code
def yX10_endOf : MethodName := ⟨RX10, "endOf", "(III)I"⟩
abbrev cX10_liveAt : ByteArray := prog_1_method_17_code
def yX10_liveAt : MethodName := ⟨RX10, "liveAt", "(I)I"⟩
abbrev cX10_mostLive : ByteArray := prog_1_method_18_code
def yX10_mostLive : MethodName := ⟨RX10, "mostLive", "()I"⟩
abbrev cX10_mostLiveOf : ByteArray := prog_1_method_19_code
def yX10_mostLiveOf : MethodName := ⟨RX10, "mostLiveOf", "(I)I"⟩
abbrev cX10_conflictsOf : ByteArray := prog_1_method_20_code
def yX10_conflictsOf : MethodName := ⟨RX10, "conflictsOf", "(IIII)I"⟩
abbrev cX10_conflictPairs : ByteArray := prog_1_method_21_code
def yX10_conflictPairs : MethodName := ⟨RX10, "conflictPairs", "(I)I"⟩
abbrev cX10_keepWhole : ByteArray := prog_1_method_22_code
def yX10_keepWhole : MethodName := ⟨RX10, "keepWhole", "(I)I"⟩
abbrev cX10_keepRest : ByteArray := prog_1_method_23_code
def yX10_keepRest : MethodName := ⟨RX10, "keepRest", "(II)I"⟩
abbrev cX10_keepTwoRests : ByteArray := prog_1_method_24_code
def yX10_keepTwoRests : MethodName := ⟨RX10, "keepTwoRests", "(III)I"⟩
abbrev cX10_keepSlant : ByteArray := prog_1_method_25_code
def yX10_keepSlant : MethodName := ⟨RX10, "keepSlant", "(III)I"⟩
abbrev cX10_contract : ByteArray := prog_1_method_26_code
def yX10_contract : MethodName := ⟨RX10, "contract", "()I"⟩
abbrev cX10_windowSize : ByteArray := prog_1_method_27_code
def yX10_windowSize : MethodName := ⟨RX10, "windowSize", "(I)I"⟩
abbrev cX10_room : ByteArray := prog_1_method_28_code
def yX10_room : MethodName := ⟨RX10, "room", "()I"⟩
abbrev cX10_placeOf : ByteArray := prog_1_method_29_code
def yX10_placeOf : MethodName := ⟨RX10, "placeOf", "(III)I"⟩
abbrev cX10_isRight : ByteArray := prog_1_method_30_code
def yX10_isRight : MethodName := ⟨RX10, "isRight", "(I)Z"⟩
abbrev cX10_leastRest : ByteArray := prog_1_method_31_code
def yX10_leastRest : MethodName := ⟨RX10, "leastRest", "(I)I"⟩
abbrev cX10_leastRestByDifferences : ByteArray := prog_1_method_32_code
def yX10_leastRestByDifferences : MethodName := ⟨RX10, "leastRestByDifferences", "(I)I"⟩
abbrev cX10_leastRowRest : ByteArray := prog_1_method_33_code
def yX10_leastRowRest : MethodName := ⟨RX10, "leastRowRest", "(I)I"⟩
abbrev cX10_leastColumnRest : ByteArray := prog_1_method_34_code
def yX10_leastColumnRest : MethodName := ⟨RX10, "leastColumnRest", "(I)I"⟩
abbrev cX10_leastSlantModulus : ByteArray := prog_1_method_35_code
def yX10_leastSlantModulus : MethodName := ⟨RX10, "leastSlantModulus", "(I)I"⟩
abbrev cX10_leastSlant : ByteArray := prog_1_method_36_code
def yX10_leastSlant : MethodName := ⟨RX10, "leastSlant", "(I)I"⟩
abbrev cX10_leastJointRest : ByteArray := prog_1_method_37_code
def yX10_leastJointRest : MethodName := ⟨RX10, "leastJointRest", "(II)I"⟩
abbrev cX10_valueOf : ByteArray := prog_1_method_38_code
def yX10_valueOf : MethodName := ⟨RX10, "valueOf", "(III)I"⟩
abbrev cX10_contractedValueOf : ByteArray := prog_1_method_39_code
def yX10_contractedValueOf : MethodName := ⟨RX10, "contractedValueOf", "(III)I"⟩
abbrev cX10_firstWrongStep : ByteArray := prog_1_method_40_code
def yX10_firstWrongStep : MethodName := ⟨RX10, "firstWrongStep", "()I"⟩
abbrev cX10_bestRowWeight : ByteArray := prog_1_method_41_code
def yX10_bestRowWeight : MethodName := ⟨RX10, "bestRowWeight", "()I"⟩
abbrev cX10_bestColumnWeight : ByteArray := prog_1_method_42_code
def yX10_bestColumnWeight : MethodName := ⟨RX10, "bestColumnWeight", "()I"⟩
abbrev cX10_bestRoom : ByteArray := prog_1_method_43_code
def yX10_bestRoom : MethodName := ⟨RX10, "bestRoom", "()I"⟩
abbrev cX10_requireRange : ByteArray := prog_1_method_44_code
def yX10_requireRange : MethodName := ⟨RX10, "requireRange", "(III)V"⟩
abbrev cX10_requireWeights : ByteArray := prog_1_method_45_code
def yX10_requireWeights : MethodName := ⟨RX10, "requireWeights", "(II)V"⟩
abbrev cX10_requireStatement : ByteArray := prog_1_method_46_code
def yX10_requireStatement : MethodName := ⟨RX10, "requireStatement", "(I)V"⟩
abbrev cX10_requirePoint : ByteArray := prog_1_method_47_code
def yX10_requirePoint : MethodName := ⟨RX10, "requirePoint", "(II)V"⟩
abbrev cX10_requireCell : ByteArray := prog_1_method_48_code
def yX10_requireCell : MethodName := ⟨RX10, "requireCell", "(III)I"⟩
abbrev cX10_requireStep : ByteArray := prog_1_method_49_code
def yX10_requireStep : MethodName := ⟨RX10, "requireStep", "(I)V"⟩
abbrev cX10_arranged : ByteArray := prog_1_method_50_code
def yX10_arranged : MethodName := ⟨RX10, "arranged", "()LCellWindows$Work;"⟩
abbrev cX10_gatherDifferences : ByteArray := prog_1_method_51_code
def yX10_gatherDifferences : MethodName := ⟨RX10, "gatherDifferences", "(I)V"⟩
abbrev cX10_placesOf : ByteArray := prog_1_method_52_code
def yX10_placesOf : MethodName := ⟨RX10, "placesOf", "(I)I"⟩
abbrev cX10_keepSmallest : ByteArray := prog_1_method_53_code
def yX10_keepSmallest : MethodName := ⟨RX10, "keepSmallest", "(LCellWindows$Window;)V"⟩
abbrev cX10_keepIfSmaller : ByteArray := prog_1_method_54_code
def yX10_keepIfSmaller : MethodName := ⟨RX10, "keepIfSmaller", "(LCellWindows$Window;)V"⟩
abbrev cX10_valueWritten : ByteArray := prog_1_method_55_code
def yX10_valueWritten : MethodName := ⟨RX10, "valueWritten", "(LCellWindows$Machine;I)I"⟩
abbrev cX10_findBest : ByteArray := prog_1_method_56_code
def yX10_findBest : MethodName := ⟨RX10, "findBest", "()V"⟩
abbrev cX10_leastRoomWith : ByteArray := prog_1_method_57_code
def yX10_leastRoomWith : MethodName := ⟨RX10, "leastRoomWith", "(II)I"⟩
abbrev cX10_restOf : ByteArray := prog_1_method_58_code
def yX10_restOf : MethodName := ⟨RX10, "restOf", "(II)I"⟩
def RX11 : String := "CellWindowsModel"
def TX11 : u_T := fun k => match k with
  | _ => ("", "", "", false)
def tyX11 : Nat → FieldType := fun k => match k with
  | _ => .int
abbrev wsX110 : List Cond := u_ws RX11 TX11 0
theorem nmX11 : ∀ a, a < 0 → ∀ b, b < 0 → a ≠ b → (TX11 a).2.1 ≠ (TX11 b).2.1 := by decide +kernel
theorem tyX11_ok : ∀ k, k < 0 → parseFieldDescriptor (TX11 k).2.2.1 = some (tyX11 k) := by decide +kernel
def RJx145de : String := "java/io/Serializable"
def TJx145de : u_T := fun k => match k with
  | _ => ("", "", "", false)
def tyJx145de : Nat → FieldType := fun k => match k with
  | _ => .int
abbrev wsJx145de0 : List Cond := u_ws RJx145de TJx145de 0
theorem nmJx145de : ∀ a, a < 0 → ∀ b, b < 0 → a ≠ b → (TJx145de a).2.1 ≠ (TJx145de b).2.1 := by decide +kernel
theorem tyJx145de_ok : ∀ k, k < 0 → parseFieldDescriptor (TJx145de k).2.2.1 = some (tyJx145de k) := by decide +kernel
def RJx8e188 : String := "java/lang/Cloneable"
def TJx8e188 : u_T := fun k => match k with
  | _ => ("", "", "", false)
def tyJx8e188 : Nat → FieldType := fun k => match k with
  | _ => .int
abbrev wsJx8e1880 : List Cond := u_ws RJx8e188 TJx8e188 0
theorem nmJx8e188 : ∀ a, a < 0 → ∀ b, b < 0 → a ≠ b → (TJx8e188 a).2.1 ≠ (TJx8e188 b).2.1 := by decide +kernel
theorem tyJx8e188_ok : ∀ k, k < 0 → parseFieldDescriptor (TJx8e188 k).2.2.1 = some (tyJx8e188 k) := by decide +kernel
def RJxb160c : String := "java/lang/Comparable"
def TJxb160c : u_T := fun k => match k with
  | _ => ("", "", "", false)
def tyJxb160c : Nat → FieldType := fun k => match k with
  | _ => .int
abbrev wsJxb160c0 : List Cond := u_ws RJxb160c TJxb160c 0
theorem nmJxb160c : ∀ a, a < 0 → ∀ b, b < 0 → a ≠ b → (TJxb160c a).2.1 ≠ (TJxb160c b).2.1 := by decide +kernel
theorem tyJxb160c_ok : ∀ k, k < 0 → parseFieldDescriptor (TJxb160c k).2.2.1 = some (tyJxb160c k) := by decide +kernel
def RJx29ce0 : String := "java/lang/Enum"
def TJx29ce0 : u_T := fun k => match k with
  | _ => ("", "", "", false)
def tyJx29ce0 : Nat → FieldType := fun k => match k with
  | _ => .int
abbrev wsJx29ce00 : List Cond := u_ws RJx29ce0 TJx29ce0 0
theorem nmJx29ce0 : ∀ a, a < 0 → ∀ b, b < 0 → a ≠ b → (TJx29ce0 a).2.1 ≠ (TJx29ce0 b).2.1 := by decide +kernel
theorem tyJx29ce0_ok : ∀ k, k < 0 → parseFieldDescriptor (TJx29ce0 k).2.2.1 = some (tyJx29ce0 k) := by decide +kernel
abbrev cJx29ce0_ordinal_8abf5 : ByteArray := prog_17_method_2_code
def yJx29ce0_ordinal_8abf5 : MethodName := ⟨RJx29ce0, "ordinal", "()I"⟩
def RJxab1ab : String := "java/lang/Iterable"
def TJxab1ab : u_T := fun k => match k with
  | _ => ("", "", "", false)
def tyJxab1ab : Nat → FieldType := fun k => match k with
  | _ => .int
abbrev wsJxab1ab0 : List Cond := u_ws RJxab1ab TJxab1ab 0
theorem nmJxab1ab : ∀ a, a < 0 → ∀ b, b < 0 → a ≠ b → (TJxab1ab a).2.1 ≠ (TJxab1ab b).2.1 := by decide +kernel
theorem tyJxab1ab_ok : ∀ k, k < 0 → parseFieldDescriptor (TJxab1ab k).2.2.1 = some (tyJxab1ab k) := by decide +kernel
def RJ9 : String := "java/lang/Math"
def TJ9 : u_T := fun k => match k with
  | _ => ("", "", "", false)
def tyJ9 : Nat → FieldType := fun k => match k with
  | _ => .int
abbrev wsJ90 : List Cond := u_ws RJ9 TJ9 0
theorem nmJ9 : ∀ a, a < 0 → ∀ b, b < 0 → a ≠ b → (TJ9 a).2.1 ≠ (TJ9 b).2.1 := by decide +kernel
theorem tyJ9_ok : ∀ k, k < 0 → parseFieldDescriptor (TJ9 k).2.2.1 = some (tyJ9 k) := by decide +kernel
abbrev cJ9_floorMod_7cf53 : ByteArray := prog_23_method_50_code
def yJ9_floorMod_7cf53 : MethodName := ⟨RJ9, "floorMod", "(II)I"⟩
abbrev cJ9_abs_0f7a4 : ByteArray := prog_23_method_59_code
def yJ9_abs_0f7a4 : MethodName := ⟨RJ9, "abs", "(I)I"⟩
abbrev cJ9_max_7cf53 : ByteArray := prog_23_method_65_code
def yJ9_max_7cf53 : MethodName := ⟨RJ9, "max", "(II)I"⟩
abbrev cJ9_min_7cf53 : ByteArray := prog_23_method_69_code
def yJ9_min_7cf53 : MethodName := ⟨RJ9, "min", "(II)I"⟩
def RJ0 : String := "java/lang/String"
def TJ0 : u_T := fun k => match k with
  | _ => ("", "", "", false)
def tyJ0 : Nat → FieldType := fun k => match k with
  | _ => .int
abbrev wsJ00 : List Cond := u_ws RJ0 TJ0 0
theorem nmJ0 : ∀ a, a < 0 → ∀ b, b < 0 → a ≠ b → (TJ0 a).2.1 ≠ (TJ0 b).2.1 := by decide +kernel
theorem tyJ0_ok : ∀ k, k < 0 → parseFieldDescriptor (TJ0 k).2.2.1 = some (tyJ0 k) := by decide +kernel
def RJ10 : String := "java/lang/System"
def TJ10 : u_T := fun k => match k with
  | _ => ("", "", "", false)
def tyJ10 : Nat → FieldType := fun k => match k with
  | _ => .int
abbrev wsJ100 : List Cond := u_ws RJ10 TJ10 0
theorem nmJ10 : ∀ a, a < 0 → ∀ b, b < 0 → a ≠ b → (TJ10 a).2.1 ≠ (TJ10 b).2.1 := by decide +kernel
theorem tyJ10_ok : ∀ k, k < 0 → parseFieldDescriptor (TJ10 k).2.2.1 = some (tyJ10 k) := by decide +kernel
def RJxfd54e : String := "java/lang/constant/Constable"
def TJxfd54e : u_T := fun k => match k with
  | _ => ("", "", "", false)
def tyJxfd54e : Nat → FieldType := fun k => match k with
  | _ => .int
abbrev wsJxfd54e0 : List Cond := u_ws RJxfd54e TJxfd54e 0
theorem nmJxfd54e : ∀ a, a < 0 → ∀ b, b < 0 → a ≠ b → (TJxfd54e a).2.1 ≠ (TJxfd54e b).2.1 := by decide +kernel
theorem tyJxfd54e_ok : ∀ k, k < 0 → parseFieldDescriptor (TJxfd54e k).2.2.1 = some (tyJxfd54e k) := by decide +kernel
def RJxa1e45 : String := "java/util/AbstractCollection"
def TJxa1e45 : u_T := fun k => match k with
  | _ => ("", "", "", false)
def tyJxa1e45 : Nat → FieldType := fun k => match k with
  | _ => .int
abbrev wsJxa1e450 : List Cond := u_ws RJxa1e45 TJxa1e45 0
theorem nmJxa1e45 : ∀ a, a < 0 → ∀ b, b < 0 → a ≠ b → (TJxa1e45 a).2.1 ≠ (TJxa1e45 b).2.1 := by decide +kernel
theorem tyJxa1e45_ok : ∀ k, k < 0 → parseFieldDescriptor (TJxa1e45 k).2.2.1 = some (tyJxa1e45 k) := by decide +kernel
abbrev cJxa1e45_init_da8c8 : ByteArray := prog_29_method_1_code
def yJxa1e45_init_da8c8 : MethodName := ⟨RJxa1e45, "<init>", "()V"⟩
def RJxc12de : String := "java/util/AbstractList"
def TJxc12de : u_T := fun k => match k with
  | _ => ("", "", "", false)
def tyJxc12de : Nat → FieldType := fun k => match k with
  | _ => .int
abbrev wsJxc12de0 : List Cond := u_ws RJxc12de TJxc12de 0
theorem nmJxc12de : ∀ a, a < 0 → ∀ b, b < 0 → a ≠ b → (TJxc12de a).2.1 ≠ (TJxc12de b).2.1 := by decide +kernel
theorem tyJxc12de_ok : ∀ k, k < 0 → parseFieldDescriptor (TJxc12de k).2.2.1 = some (tyJxc12de k) := by decide +kernel
abbrev cJxc12de_init_da8c8 : ByteArray := prog_30_method_1_code
def yJxc12de_init_da8c8 : MethodName := ⟨RJxc12de, "<init>", "()V"⟩
def RJx4a65c : String := "java/util/ArrayList"
def TJx4a65c : u_T := fun k => match k with
  | 0 => ("java/util/AbstractList", "modCount", "I", false)
  | 1 => ("java/util/ArrayList", "elementData", "[Ljava/lang/Object;", false)
  | _ => ("java/util/ArrayList", "size", "I", false)
def tyJx4a65c : Nat → FieldType := fun k => match k with
  | 0 => .int
  | 1 => .array (.object "java/lang/Object")
  | _ => .int
abbrev wsJx4a65c0 : List Cond := u_ws RJx4a65c TJx4a65c 3
theorem nmJx4a65c : ∀ a, a < 3 → ∀ b, b < 3 → a ≠ b → (TJx4a65c a).2.1 ≠ (TJx4a65c b).2.1 := by decide +kernel
theorem tyJx4a65c_ok : ∀ k, k < 3 → parseFieldDescriptor (TJx4a65c k).2.2.1 = some (tyJx4a65c k) := by decide +kernel
abbrev cJx4a65c_init_da8c8 : ByteArray := prog_31_method_2_code
def yJx4a65c_init_da8c8 : MethodName := ⟨RJx4a65c, "<init>", "()V"⟩
abbrev cJx4a65c_grow_92f84 : ByteArray := prog_31_method_6_code
def yJx4a65c_grow_92f84 : MethodName := ⟨RJx4a65c, "grow", "(I)[Ljava/lang/Object;"⟩
abbrev cJx4a65c_grow_d5877 : ByteArray := prog_31_method_7_code
def yJx4a65c_grow_d5877 : MethodName := ⟨RJx4a65c, "grow", "()[Ljava/lang/Object;"⟩
abbrev cJx4a65c_size_8abf5 : ByteArray := prog_31_method_8_code
def yJx4a65c_size_8abf5 : MethodName := ⟨RJx4a65c, "size", "()I"⟩
abbrev cJx4a65c_elementData_915e3 : ByteArray := prog_31_method_18_code
def yJx4a65c_elementData_915e3 : MethodName := ⟨RJx4a65c, "elementData", "(I)Ljava/lang/Object;"⟩
abbrev cJx4a65c_get_915e3 : ByteArray := prog_31_method_20_code
def yJx4a65c_get_915e3 : MethodName := ⟨RJx4a65c, "get", "(I)Ljava/lang/Object;"⟩
abbrev cJx4a65c_add_72be8 : ByteArray := prog_31_method_24_code
def yJx4a65c_add_72be8 : MethodName := ⟨RJx4a65c, "add", "(Ljava/lang/Object;[Ljava/lang/Object;I)V"⟩
abbrev cJx4a65c_add_9ea2d : ByteArray := prog_31_method_25_code
def yJx4a65c_add_9ea2d : MethodName := ⟨RJx4a65c, "add", "(Ljava/lang/Object;)Z"⟩
abbrev cJx4a65c_clear_da8c8 : ByteArray := prog_31_method_40_code
def yJx4a65c_clear_da8c8 : MethodName := ⟨RJx4a65c, "clear", "()V"⟩
def RJ7 : String := "java/util/Arrays"
def TJ7 : u_T := fun k => match k with
  | _ => ("", "", "", false)
def tyJ7 : Nat → FieldType := fun k => match k with
  | _ => .int
abbrev wsJ70 : List Cond := u_ws RJ7 TJ7 0
theorem nmJ7 : ∀ a, a < 0 → ∀ b, b < 0 → a ≠ b → (TJ7 a).2.1 ≠ (TJ7 b).2.1 := by decide +kernel
theorem tyJ7_ok : ∀ k, k < 0 → parseFieldDescriptor (TJ7 k).2.2.1 = some (tyJ7 k) := by decide +kernel
abbrev cJ7_fill_53178 : ByteArray := prog_32_method_103_code
def yJ7_fill_53178 : MethodName := ⟨RJ7, "fill", "([II)V"⟩
abbrev cJ7_copyOf_1904c : ByteArray := prog_32_method_119_code
def yJ7_copyOf_1904c : MethodName := ⟨RJ7, "copyOf", "([Ljava/lang/Object;I)[Ljava/lang/Object;"⟩
abbrev cJ7_copyOf_6403c : ByteArray := prog_32_method_120_code
def yJ7_copyOf_6403c : MethodName := ⟨RJ7, "copyOf", "([Ljava/lang/Object;ILjava/lang/Class;)[Ljava/lang/Object;"⟩
def RJx5ef63 : String := "java/util/Collection"
def TJx5ef63 : u_T := fun k => match k with
  | _ => ("", "", "", false)
def tyJx5ef63 : Nat → FieldType := fun k => match k with
  | _ => .int
abbrev wsJx5ef630 : List Cond := u_ws RJx5ef63 TJx5ef63 0
theorem nmJx5ef63 : ∀ a, a < 0 → ∀ b, b < 0 → a ≠ b → (TJx5ef63 a).2.1 ≠ (TJx5ef63 b).2.1 := by decide +kernel
theorem tyJx5ef63_ok : ∀ k, k < 0 → parseFieldDescriptor (TJx5ef63 k).2.2.1 = some (tyJx5ef63 k) := by decide +kernel
def RJxbd725 : String := "java/util/List"
def TJxbd725 : u_T := fun k => match k with
  | _ => ("", "", "", false)
def tyJxbd725 : Nat → FieldType := fun k => match k with
  | _ => .int
abbrev wsJxbd7250 : List Cond := u_ws RJxbd725 TJxbd725 0
theorem nmJxbd725 : ∀ a, a < 0 → ∀ b, b < 0 → a ≠ b → (TJxbd725 a).2.1 ≠ (TJxbd725 b).2.1 := by decide +kernel
theorem tyJxbd725_ok : ∀ k, k < 0 → parseFieldDescriptor (TJxbd725 k).2.2.1 = some (tyJxbd725 k) := by decide +kernel
def RJ15 : String := "java/util/Objects"
def TJ15 : u_T := fun k => match k with
  | _ => ("", "", "", false)
def tyJ15 : Nat → FieldType := fun k => match k with
  | _ => .int
abbrev wsJ150 : List Cond := u_ws RJ15 TJ15 0
theorem nmJ15 : ∀ a, a < 0 → ∀ b, b < 0 → a ≠ b → (TJ15 a).2.1 ≠ (TJ15 b).2.1 := by decide +kernel
theorem tyJ15_ok : ∀ k, k < 0 → parseFieldDescriptor (TJ15 k).2.2.1 = some (tyJ15 k) := by decide +kernel
abbrev cJ15_checkIndex_7cf53 : ByteArray := prog_35_method_17_code
def yJ15_checkIndex_7cf53 : MethodName := ⟨RJ15, "checkIndex", "(II)I"⟩
def RJxf0a74 : String := "java/util/RandomAccess"
def TJxf0a74 : u_T := fun k => match k with
  | _ => ("", "", "", false)
def tyJxf0a74 : Nat → FieldType := fun k => match k with
  | _ => .int
abbrev wsJxf0a740 : List Cond := u_ws RJxf0a74 TJxf0a74 0
theorem nmJxf0a74 : ∀ a, a < 0 → ∀ b, b < 0 → a ≠ b → (TJxf0a74 a).2.1 ≠ (TJxf0a74 b).2.1 := by decide +kernel
theorem tyJxf0a74_ok : ∀ k, k < 0 → parseFieldDescriptor (TJxf0a74 k).2.2.1 = some (tyJxf0a74 k) := by decide +kernel
def RJxa66e6 : String := "java/util/SequencedCollection"
def TJxa66e6 : u_T := fun k => match k with
  | _ => ("", "", "", false)
def tyJxa66e6 : Nat → FieldType := fun k => match k with
  | _ => .int
abbrev wsJxa66e60 : List Cond := u_ws RJxa66e6 TJxa66e6 0
theorem nmJxa66e6 : ∀ a, a < 0 → ∀ b, b < 0 → a ≠ b → (TJxa66e6 a).2.1 ≠ (TJxa66e6 b).2.1 := by decide +kernel
theorem tyJxa66e6_ok : ∀ k, k < 0 → parseFieldDescriptor (TJxa66e6 k).2.2.1 = some (tyJxa66e6 k) := by decide +kernel
def RJ8 : String := "jdk/internal/util/ArraysSupport"
def TJ8 : u_T := fun k => match k with
  | _ => ("", "", "", false)
def tyJ8 : Nat → FieldType := fun k => match k with
  | _ => .int
abbrev wsJ80 : List Cond := u_ws RJ8 TJ8 0
theorem nmJ8 : ∀ a, a < 0 → ∀ b, b < 0 → a ≠ b → (TJ8 a).2.1 ≠ (TJ8 b).2.1 := by decide +kernel
theorem tyJ8_ok : ∀ k, k < 0 → parseFieldDescriptor (TJ8 k).2.2.1 = some (tyJ8 k) := by decide +kernel
abbrev cJ8_newLength_cabcc : ByteArray := prog_38_method_27_code
def yJ8_newLength_cabcc : MethodName := ⟨RJ8, "newLength", "(III)I"⟩
abbrev cJ8_hugeLength_7cf53 : ByteArray := prog_38_method_28_code
def yJ8_hugeLength_7cf53 : MethodName := ⟨RJ8, "hugeLength", "(II)I"⟩
def RJ3 : String := "jdk/internal/util/Preconditions"
def TJ3 : u_T := fun k => match k with
  | _ => ("", "", "", false)
def tyJ3 : Nat → FieldType := fun k => match k with
  | _ => .int
abbrev wsJ30 : List Cond := u_ws RJ3 TJ3 0
theorem nmJ3 : ∀ a, a < 0 → ∀ b, b < 0 → a ≠ b → (TJ3 a).2.1 ≠ (TJ3 b).2.1 := by decide +kernel
theorem tyJ3_ok : ∀ k, k < 0 → parseFieldDescriptor (TJ3 k).2.2.1 = some (tyJ3 k) := by decide +kernel
abbrev cJ3_checkIndex_8e157 : ByteArray := prog_39_method_11_code
def yJ3_checkIndex_8e157 : MethodName := ⟨RJ3, "checkIndex", "(IILjava/util/function/BiFunction;)I"⟩
def RL : String := "CellWindowsLaw"
abbrev cL_part : ByteArray := method_2_code
def yL_part : MethodName := ⟨RL, "part", "([III)I"⟩
abbrev cL_does : ByteArray := method_3_code
def yL_does : MethodName := ⟨RL, "does", "(LCellWindows;IIIIII)I"⟩
abbrev cL_points : ByteArray := method_4_code
def yL_points : MethodName := ⟨RL, "points", "([I)I"⟩
abbrev cL_time : ByteArray := method_5_code
def yL_time : MethodName := ⟨RL, "time", "([I[II)I"⟩
abbrev cL_steps : ByteArray := method_6_code
def yL_steps : MethodName := ⟨RL, "steps", "([I[I[I)V"⟩
abbrev cL_wanted : ByteArray := method_7_code
def yL_wanted : MethodName := ⟨RL, "wanted", "([III)I"⟩
abbrev cL_isInOrder : ByteArray := method_8_code
def yL_isInOrder : MethodName := ⟨RL, "isInOrder", "([I[I[III)Z"⟩
abbrev cL_isAllowed : ByteArray := method_9_code
def yL_isAllowed : MethodName := ⟨RL, "isAllowed", "([I[I[I[I)Z"⟩
abbrev cL_ends : ByteArray := method_10_code
def yL_ends : MethodName := ⟨RL, "ends", "([I[I[I[I[I)V"⟩
abbrev cL_inConflict : ByteArray := method_11_code
def yL_inConflict : MethodName := ⟨RL, "inConflict", "([I[III)Z"⟩
abbrev cL_place : ByteArray := method_12_code
def yL_place : MethodName := ⟨RL, "place", "([IIIII)I"⟩
abbrev cL_isRight : ByteArray := method_13_code
def yL_isRight : MethodName := ⟨RL, "isRight", "([I[I[IIIIII)Z"⟩
abbrev cL_rest : ByteArray := method_14_code
def yL_rest : MethodName := ⟨RL, "rest", "([I[I[II)I"⟩
abbrev cL_joint : ByteArray := method_15_code
def yL_joint : MethodName := ⟨RL, "joint", "([I[I[III)I"⟩
abbrev cL_two : ByteArray := method_16_code
def yL_two : MethodName := ⟨RL, "two", "([I[I[II)I"⟩
abbrev cL_slant : ByteArray := method_17_code
def yL_slant : MethodName := ⟨RL, "slant", "([I[I[II)I"⟩
abbrev cL_areLives : ByteArray := method_18_code
def yL_areLives : MethodName := ⟨RL, "areLives", "(LCellWindows;[I[I[I[I[III)Z"⟩
abbrev cL_areWindows : ByteArray := method_19_code
def yL_areWindows : MethodName := ⟨RL, "areWindows", "(LCellWindows;[I[I[I[II)Z"⟩
abbrev cL_border : ByteArray := method_20_code
def yL_border : MethodName := ⟨RL, "border", "(III)I"⟩
abbrev cL_cellAt : ByteArray := method_21_code
def yL_cellAt : MethodName := ⟨RL, "cellAt", "([I[II)I"⟩
abbrev cL_lies : ByteArray := method_22_code
def yL_lies : MethodName := ⟨RL, "lies", "([I[I[I[III)I"⟩
abbrev cL_areValues : ByteArray := method_23_code
def yL_areValues : MethodName := ⟨RL, "areValues", "(LCellWindows;[I[I[I[II)Z"⟩
abbrev cL_isBest : ByteArray := method_24_code
def yL_isBest : MethodName := ⟨RL, "isBest", "(LCellWindows;[I[I[I)Z"⟩
abbrev cL_isProgram : ByteArray := method_25_code
def yL_isProgram : MethodName := ⟨RL, "isProgram", "(LCellWindows;[I[I[I[IIII)Z"⟩
abbrev cL_isWindow : ByteArray := method_26_code
def yL_isWindow : MethodName := ⟨RL, "isWindow", "(LCellWindows;[I[IIII)Z"⟩
abbrev cL_isContracted : ByteArray := method_27_code
def yL_isContracted : MethodName := ⟨RL, "isContracted", "(LCellWindows;[I[I[I[I)Z"⟩
abbrev cL_law : ByteArray := code
def yL_law : MethodName := ⟨RL, "law", "([I)Z"⟩
abbrev vwCl : List vw_C := [(RJx4a65c, TJx4a65c, 3), (RX1, TX1, 4), (RX2, TX2, 7), (RX4, TX4, 2), (RX5, TX5, 4), (RX6, TX6, 4), (RX7, TX7, 5), (RX8, TX8, 5), (RX9, TX9, 10), (RX10, TX10, 9)]
