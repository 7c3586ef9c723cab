def gC_B : String := "CellBook"
def gT_B : u_T := fun k => match k with
  | 0 => ("CellBook", "cells", "[LCellBook$Cell;", true)
  | 1 => ("CellBook", "definers", "[LCellBook$Cell;", true)
  | 2 => ("CellBook", "reached", "[I", true)
  | 3 => ("CellBook", "evaluator", "LCellBook$Evaluator;", true)
  | 4 => ("CellBook", "typed", "[C", true)
  | _ => ("CellBook", "typedLength", "I", false)
def gU_B : Nat → FieldType := fun k => match k with
  | 0 => (.array (.object "CellBook$Cell"))
  | 1 => (.array (.object "CellBook$Cell"))
  | 2 => (.array .int)
  | 3 => (.object "CellBook$Evaluator")
  | 4 => (.array .char)
  | _ => .int
theorem gN_B : ∀ a, a < 6 → ∀ b, b < 6 → a ≠ b → (gT_B a).2.1 ≠ (gT_B b).2.1 := by decide +kernel
theorem gO_B : ∀ k, k < 6 → parseFieldDescriptor (gT_B k).2.2.1 = some (gU_B k) := by decide +kernel
def gC_Ce : String := "CellBook$Cell"
def gT_Ce : u_T := fun k => match k with
  | 0 => ("CellBook$Cell", "text", "LCellBook$Text;", true)
  | 1 => ("CellBook$Cell", "name", "I", false)
  | 2 => ("CellBook$Cell", "fault", "I", false)
  | 3 => ("CellBook$Cell", "stale", "Z", false)
  | 4 => ("CellBook$Cell", "result", "I", false)
  | 5 => ("CellBook$Cell", "amount", "I", false)
  | 6 => ("CellBook$Cell", "sort", "I", false)
  | _ => ("CellBook$Cell", "runCount", "I", false)
def gU_Ce : Nat → FieldType := fun k => match k with
  | 0 => (.object "CellBook$Text")
  | 1 => .int
  | 2 => .int
  | 3 => .boolean
  | 4 => .int
  | 5 => .int
  | 6 => .int
  | _ => .int
theorem gN_Ce : ∀ a, a < 8 → ∀ b, b < 8 → a ≠ b → (gT_Ce a).2.1 ≠ (gT_Ce b).2.1 := by decide +kernel
theorem gO_Ce : ∀ k, k < 8 → parseFieldDescriptor (gT_Ce k).2.2.1 = some (gU_Ce k) := by decide +kernel
def gC_Te : String := "CellBook$Text"
def gT_Te : u_T := fun k => match k with
  | 0 => ("CellBook$Text", "signs", "[C", true)
  | 1 => ("CellBook$Text", "ends", "[I", true)
  | 2 => ("CellBook$Text", "length", "I", false)
  | 3 => ("CellBook$Text", "start", "I", false)
  | 4 => ("CellBook$Text", "wellFormed", "Z", false)
  | _ => ("CellBook$Text", "names", "I", false)
def gU_Te : Nat → FieldType := fun k => match k with
  | 0 => (.array .char)
  | 1 => (.array .int)
  | 2 => .int
  | 3 => .int
  | 4 => .boolean
  | _ => .int
theorem gN_Te : ∀ a, a < 6 → ∀ b, b < 6 → a ≠ b → (gT_Te a).2.1 ≠ (gT_Te b).2.1 := by decide +kernel
theorem gO_Te : ∀ k, k < 6 → parseFieldDescriptor (gT_Te k).2.2.1 = some (gU_Te k) := by decide +kernel
def gC_Ty : String := "CellBook$Types"
def gC_Fr : String := "CellBook$Frame"
def gT_Fr : u_T := fun k => match k with
  | 0 => ("CellBook$Frame", "openFunctions", "I", true)
  | 1 => ("CellBook$Frame", "locals", "[I", true)
  | _ => ("CellBook$Frame", "text", "LCellBook$Text;", false)
def gU_Fr : Nat → FieldType := fun k => match k with
  | 0 => .int
  | 1 => (.array .int)
  | _ => (.object "CellBook$Text")
theorem gN_Fr : ∀ a, a < 3 → ∀ b, b < 3 → a ≠ b → (gT_Fr a).2.1 ≠ (gT_Fr b).2.1 := by decide +kernel
theorem gO_Fr : ∀ k, k < 3 → parseFieldDescriptor (gT_Fr k).2.2.1 = some (gU_Fr k) := by decide +kernel
def gC_Ev : String := "CellBook$Evaluator"
def gT_Ev : u_T := fun k => match k with
  | 0 => ("CellBook$Evaluator", "frames", "[LCellBook$Frame;", true)
  | 1 => ("CellBook$Evaluator", "definers", "[LCellBook$Cell;", false)
  | 2 => ("CellBook$Evaluator", "stepsMade", "I", false)
  | 3 => ("CellBook$Evaluator", "stepsInAll", "I", false)
  | _ => ("CellBook$Evaluator", "error", "I", false)
def gU_Ev : Nat → FieldType := fun k => match k with
  | 0 => (.array (.object "CellBook$Frame"))
  | 1 => (.array (.object "CellBook$Cell"))
  | 2 => .int
  | 3 => .int
  | _ => .int
theorem gN_Ev : ∀ a, a < 5 → ∀ b, b < 5 → a ≠ b → (gT_Ev a).2.1 ≠ (gT_Ev b).2.1 := by decide +kernel
theorem gO_Ev : ∀ k, k < 5 → parseFieldDescriptor (gT_Ev k).2.2.1 = some (gU_Ev k) := by decide +kernel
def gC_Mo : String := "CellBookModel"
def gT_Mo : u_T := fun k => match k with
  | 0 => ("CellBookModel", "typed", "[C", false)
  | 1 => ("CellBookModel", "typedCount", "I", false)
  | 2 => ("CellBookModel", "text", "[C", false)
  | 3 => ("CellBookModel", "length", "[I", false)
  | 4 => ("CellBookModel", "named", "[I", false)
  | 5 => ("CellBookModel", "end", "[I", false)
  | 6 => ("CellBookModel", "label", "[Z", false)
  | 7 => ("CellBookModel", "well", "[Z", false)
  | 8 => ("CellBookModel", "used", "[I", false)
  | 9 => ("CellBookModel", "stale", "[Z", false)
  | 10 => ("CellBookModel", "result", "[I", false)
  | 11 => ("CellBookModel", "valueOf", "[I", false)
  | 12 => ("CellBookModel", "kindOf", "[I", false)
  | 13 => ("CellBookModel", "runsOf", "[I", false)
  | 14 => ("CellBookModel", "made", "I", false)
  | 15 => ("CellBookModel", "todo", "[I", false)
  | 16 => ("CellBookModel", "nested", "I", false)
  | 17 => ("CellBookModel", "todoCount", "I", false)
  | 18 => ("CellBookModel", "bound", "[I", false)
  | 19 => ("CellBookModel", "types", "[I", false)
  | 20 => ("CellBookModel", "typeCount", "I", false)
  | 21 => ("CellBookModel", "cellAt", "[I", false)
  | 22 => ("CellBookModel", "at", "[I", false)
  | 23 => ("CellBookModel", "stage", "[I", false)
  | 24 => ("CellBookModel", "first", "[I", false)
  | 25 => ("CellBookModel", "open", "I", false)
  | 26 => ("CellBookModel", "local", "[I", false)
  | 27 => ("CellBookModel", "depth", "I", false)
  | 28 => ("CellBookModel", "fuel", "I", false)
  | 29 => ("CellBookModel", "out", "I", false)
  | _ => ("CellBookModel", "error", "I", false)
def gU_Mo : Nat → FieldType := fun k => match k with
  | 0 => (.array .char)
  | 1 => .int
  | 2 => (.array .char)
  | 3 => (.array .int)
  | 4 => (.array .int)
  | 5 => (.array .int)
  | 6 => (.array .boolean)
  | 7 => (.array .boolean)
  | 8 => (.array .int)
  | 9 => (.array .boolean)
  | 10 => (.array .int)
  | 11 => (.array .int)
  | 12 => (.array .int)
  | 13 => (.array .int)
  | 14 => .int
  | 15 => (.array .int)
  | 16 => .int
  | 17 => .int
  | 18 => (.array .int)
  | 19 => (.array .int)
  | 20 => .int
  | 21 => (.array .int)
  | 22 => (.array .int)
  | 23 => (.array .int)
  | 24 => (.array .int)
  | 25 => .int
  | 26 => (.array .int)
  | 27 => .int
  | 28 => .int
  | 29 => .int
  | _ => .int
theorem gN_Mo : ∀ a, a < 31 → ∀ b, b < 31 → a ≠ b → (gT_Mo a).2.1 ≠ (gT_Mo b).2.1 := by decide +kernel
theorem gO_Mo : ∀ k, k < 31 → parseFieldDescriptor (gT_Mo k).2.2.1 = some (gU_Mo k) := by decide +kernel
abbrev c_B_init : ByteArray := prog_1_method_1_code
def y_B_init : MethodName := ⟨gC_B, "<init>", "()V"⟩
abbrev c_Ce_init : ByteArray := prog_2_method_1_code
def y_Ce_init : MethodName := ⟨gC_Ce, "<init>", "()V"⟩
abbrev c_Te_init : ByteArray := prog_5_method_1_code
def y_Te_init : MethodName := ⟨gC_Te, "<init>", "()V"⟩
abbrev c_Ev_init : ByteArray := prog_3_method_1_code
def y_Ev_init : MethodName := ⟨gC_Ev, "<init>", "()V"⟩
abbrev c_Fr_init : ByteArray := prog_4_method_1_code
def y_Fr_init : MethodName := ⟨gC_Fr, "<init>", "(I)V"⟩
abbrev c_B_type : ByteArray := prog_1_method_2_code
def y_B_type : MethodName := ⟨gC_B, "type", "(JI)I"⟩
abbrev c_B_areTypeable : ByteArray := prog_1_method_19_code
def y_B_areTypeable : MethodName := ⟨gC_B, "areTypeable", "(JI)Z"⟩
abbrev c_B_characterAt : ByteArray := prog_1_method_18_code
def y_B_characterAt : MethodName := ⟨gC_B, "characterAt", "(JI)C"⟩
abbrev c_B_set : ByteArray := prog_1_method_3_code
def y_B_set : MethodName := ⟨gC_B, "set", "(II)Z"⟩
abbrev c_B_isCell : ByteArray := prog_1_method_13_code
def y_B_isCell : MethodName := ⟨gC_B, "isCell", "(I)Z"⟩
abbrev c_Ce_nameBit : ByteArray := prog_2_method_4_code
def y_Ce_nameBit : MethodName := ⟨gC_Ce, "nameBit", "()I"⟩
abbrev c_Ce_isEmpty : ByteArray := prog_2_method_3_code
def y_Ce_isEmpty : MethodName := ⟨gC_Ce, "isEmpty", "()Z"⟩
abbrev c_Te_read : ByteArray := prog_5_method_3_code
def y_Te_read : MethodName := ⟨gC_Te, "read", "([CI)V"⟩
abbrev c_Te_signAt : ByteArray := prog_5_method_5_code
def y_Te_signAt : MethodName := ⟨gC_Te, "signAt", "(I)C"⟩
abbrev c_B_isLocal : ByteArray := prog_1_method_16_code
def y_B_isLocal : MethodName := ⟨gC_B, "isLocal", "(C)Z"⟩
abbrev c_Te_localAt : ByteArray := prog_5_method_7_code
def y_Te_localAt : MethodName := ⟨gC_Te, "localAt", "(I)I"⟩
abbrev c_Te_readExpression : ByteArray := prog_5_method_8_code
def y_Te_readExpression : MethodName := ⟨gC_Te, "readExpression", "(III)I"⟩
abbrev c_Te_readSign : ByteArray := prog_5_method_9_code
def y_Te_readSign : MethodName := ⟨gC_Te, "readSign", "(III)I"⟩
abbrev c_Te_readExpressions : ByteArray := prog_5_method_10_code
def y_Te_readExpressions : MethodName := ⟨gC_Te, "readExpressions", "(IIII)I"⟩
abbrev c_Te_readBinding : ByteArray := prog_5_method_11_code
def y_Te_readBinding : MethodName := ⟨gC_Te, "readBinding", "(III)I"⟩
abbrev c_Te_readName : ByteArray := prog_5_method_14_code
def y_Te_readName : MethodName := ⟨gC_Te, "readName", "(I)I"⟩
abbrev c_B_isName : ByteArray := prog_1_method_15_code
def y_B_isName : MethodName := ⟨gC_B, "isName", "(C)Z"⟩
abbrev c_Te_readMatch : ByteArray := prog_5_method_12_code
def y_Te_readMatch : MethodName := ⟨gC_Te, "readMatch", "(III)I"⟩
abbrev c_B_isDigit : ByteArray := prog_1_method_14_code
def y_B_isDigit : MethodName := ⟨gC_B, "isDigit", "(C)Z"⟩
abbrev c_Te_readLeaf : ByteArray := prog_5_method_13_code
def y_Te_readLeaf : MethodName := ⟨gC_Te, "readLeaf", "(II)I"⟩
abbrev c_B_hasBit : ByteArray := prog_1_method_17_code
def y_B_hasBit : MethodName := ⟨gC_B, "hasBit", "(II)Z"⟩
abbrev c_B_follow : ByteArray := prog_1_method_21_code
def y_B_follow : MethodName := ⟨gC_B, "follow", "(I)V"⟩
abbrev c_B_findDefiners : ByteArray := prog_1_method_22_code
def y_B_findDefiners : MethodName := ⟨gC_B, "findDefiners", "()V"⟩
abbrev c_B_findWays : ByteArray := prog_1_method_25_code
def y_B_findWays : MethodName := ⟨gC_B, "findWays", "()V"⟩
abbrev c_Te_isFunction : ByteArray := prog_5_method_4_code
def y_Te_isFunction : MethodName := ⟨gC_Te, "isFunction", "()Z"⟩
abbrev c_B_othersUsedBy : ByteArray := prog_1_method_24_code
def y_B_othersUsedBy : MethodName := ⟨gC_B, "othersUsedBy", "(I)I"⟩
abbrev c_B_cellsDefining : ByteArray := prog_1_method_23_code
def y_B_cellsDefining : MethodName := ⟨gC_B, "cellsDefining", "(I)I"⟩
abbrev c_B_faultOf : ByteArray := prog_1_method_26_code
def y_B_faultOf : MethodName := ⟨gC_B, "faultOf", "(I)I"⟩
abbrev c_B_usesMissingName : ByteArray := prog_1_method_27_code
def y_B_usesMissingName : MethodName := ⟨gC_B, "usesMissingName", "(LCellBook$Cell;)Z"⟩
abbrev c_B_spreadStale : ByteArray := prog_1_method_28_code
def y_B_spreadStale : MethodName := ⟨gC_B, "spreadStale", "(I)V"⟩
abbrev c_B_makeUsersStale : ByteArray := prog_1_method_29_code
def y_B_makeUsersStale : MethodName := ⟨gC_B, "makeUsersStale", "(I)I"⟩
abbrev c_B_remove : ByteArray := prog_1_method_4_code
def y_B_remove : MethodName := ⟨gC_B, "remove", "(I)Z"⟩
abbrev c_Ce_clear : ByteArray := prog_2_method_2_code
def y_Ce_clear : MethodName := ⟨gC_Ce, "clear", "()V"⟩
abbrev c_Te_clear : ByteArray := prog_5_method_2_code
def y_Te_clear : MethodName := ⟨gC_Te, "clear", "()V"⟩
abbrev c_B_work : ByteArray := prog_1_method_5_code
def y_B_work : MethodName := ⟨gC_B, "work", "(I)I"⟩
abbrev c_B_nextToWorkOn : ByteArray := prog_1_method_30_code
def y_B_nextToWorkOn : MethodName := ⟨gC_B, "nextToWorkOn", "()I"⟩
abbrev c_B_staleCells : ByteArray := prog_1_method_31_code
def y_B_staleCells : MethodName := ⟨gC_B, "staleCells", "()I"⟩
abbrev c_B_workOn : ByteArray := prog_1_method_33_code
def y_B_workOn : MethodName := ⟨gC_B, "workOn", "(I)V"⟩
abbrev c_B_usableCells : ByteArray := prog_1_method_32_code
def y_B_usableCells : MethodName := ⟨gC_B, "usableCells", "()I"⟩
abbrev c_Ce_isUsable : ByteArray := prog_2_method_6_code
def y_Ce_isUsable : MethodName := ⟨gC_Ce, "isUsable", "()Z"⟩
abbrev c_Ce_shown : ByteArray := prog_2_method_5_code
def y_Ce_shown : MethodName := ⟨gC_Ce, "shown", "()I"⟩
abbrev c_Ty_ofText : ByteArray := prog_6_method_2_code
def y_Ty_ofText : MethodName := ⟨gC_Ty, "ofText", "([LCellBook$Cell;LCellBook$Text;)I"⟩
abbrev c_Ty_ofExpression : ByteArray := prog_6_method_3_code
def y_Ty_ofExpression : MethodName := ⟨gC_Ty, "ofExpression", "([LCellBook$Cell;LCellBook$Text;II)I"⟩
abbrev c_Ty_areBoth : ByteArray := prog_6_method_4_code
def y_Ty_areBoth : MethodName := ⟨gC_Ty, "areBoth", "(I[LCellBook$Cell;LCellBook$Text;II)Z"⟩
abbrev c_Te_endOf : ByteArray := prog_5_method_6_code
def y_Te_endOf : MethodName := ⟨gC_Te, "endOf", "(I)I"⟩
abbrev c_Ty_ofChoice : ByteArray := prog_6_method_5_code
def y_Ty_ofChoice : MethodName := ⟨gC_Ty, "ofChoice", "([LCellBook$Cell;LCellBook$Text;II)I"⟩
abbrev c_Ty_ofBinding : ByteArray := prog_6_method_6_code
def y_Ty_ofBinding : MethodName := ⟨gC_Ty, "ofBinding", "([LCellBook$Cell;LCellBook$Text;II)I"⟩
abbrev c_Ty_ofCall : ByteArray := prog_6_method_7_code
def y_Ty_ofCall : MethodName := ⟨gC_Ty, "ofCall", "([LCellBook$Cell;LCellBook$Text;II)I"⟩
abbrev c_B_definerOf : ByteArray := prog_1_method_20_code
def y_B_definerOf : MethodName := ⟨gC_B, "definerOf", "([LCellBook$Cell;C)LCellBook$Cell;"⟩
abbrev c_Ty_ofMatch : ByteArray := prog_6_method_8_code
def y_Ty_ofMatch : MethodName := ⟨gC_Ty, "ofMatch", "([LCellBook$Cell;LCellBook$Text;II)I"⟩
abbrev c_Ty_ofLeaf : ByteArray := prog_6_method_9_code
def y_Ty_ofLeaf : MethodName := ⟨gC_Ty, "ofLeaf", "([LCellBook$Cell;C)I"⟩
abbrev c_Ev_run : ByteArray := prog_3_method_2_code
def y_Ev_run : MethodName := ⟨gC_Ev, "run", "(LCellBook$Cell;I[LCellBook$Cell;)V"⟩
abbrev c_Ev_ofExpression : ByteArray := prog_3_method_5_code
def y_Ev_ofExpression : MethodName := ⟨gC_Ev, "ofExpression", "(LCellBook$Frame;II)I"⟩
abbrev c_Ev_fail : ByteArray := prog_3_method_3_code
def y_Ev_fail : MethodName := ⟨gC_Ev, "fail", "(I)I"⟩
abbrev c_Ev_ofBoth : ByteArray := prog_3_method_9_code
def y_Ev_ofBoth : MethodName := ⟨gC_Ev, "ofBoth", "(LCellBook$Frame;II)I"⟩
abbrev c_Ev_hasFailed : ByteArray := prog_3_method_4_code
def y_Ev_hasFailed : MethodName := ⟨gC_Ev, "hasFailed", "()Z"⟩
abbrev c_Ev_ofChoice : ByteArray := prog_3_method_10_code
def y_Ev_ofChoice : MethodName := ⟨gC_Ev, "ofChoice", "(LCellBook$Frame;II)I"⟩
abbrev c_Ev_ofBinding : ByteArray := prog_3_method_11_code
def y_Ev_ofBinding : MethodName := ⟨gC_Ev, "ofBinding", "(LCellBook$Frame;II)I"⟩
abbrev c_Ev_ofCall : ByteArray := prog_3_method_12_code
def y_Ev_ofCall : MethodName := ⟨gC_Ev, "ofCall", "(LCellBook$Frame;II)I"⟩
abbrev c_Ev_ofMatch : ByteArray := prog_3_method_13_code
def y_Ev_ofMatch : MethodName := ⟨gC_Ev, "ofMatch", "(LCellBook$Frame;II)I"⟩
abbrev c_Ev_ofPair : ByteArray := prog_3_method_7_code
def y_Ev_ofPair : MethodName := ⟨gC_Ev, "ofPair", "(LCellBook$Frame;II)I"⟩
abbrev c_Ev_combine : ByteArray := prog_3_method_8_code
def y_Ev_combine : MethodName := ⟨gC_Ev, "combine", "(CII)I"⟩
abbrev c_Ev_ofLeaf : ByteArray := prog_3_method_6_code
def y_Ev_ofLeaf : MethodName := ⟨gC_Ev, "ofLeaf", "(LCellBook$Frame;I)I"⟩
abbrev c_B_cancel : ByteArray := prog_1_method_6_code
def y_B_cancel : MethodName := ⟨gC_B, "cancel", "(I)Z"⟩
abbrev c_B_status : ByteArray := prog_1_method_7_code
def y_B_status : MethodName := ⟨gC_B, "status", "(I)I"⟩
abbrev c_B_value : ByteArray := prog_1_method_8_code
def y_B_value : MethodName := ⟨gC_B, "value", "(I)I"⟩
abbrev c_B_kind : ByteArray := prog_1_method_9_code
def y_B_kind : MethodName := ⟨gC_B, "kind", "(I)I"⟩
abbrev c_B_uses : ByteArray := prog_1_method_10_code
def y_B_uses : MethodName := ⟨gC_B, "uses", "(I)I"⟩
abbrev c_B_runs : ByteArray := prog_1_method_11_code
def y_B_runs : MethodName := ⟨gC_B, "runs", "(I)I"⟩
abbrev c_B_steps : ByteArray := prog_1_method_12_code
def y_B_steps : MethodName := ⟨gC_B, "steps", "()I"⟩
abbrev c_Mo_init : ByteArray := prog_8_method_1_code
def y_Mo_init : MethodName := ⟨gC_Mo, "<init>", "()V"⟩
abbrev c_Mo_type : ByteArray := prog_8_method_9_code
def y_Mo_type : MethodName := ⟨gC_Mo, "type", "(JI)I"⟩
abbrev c_Mo_set : ByteArray := prog_8_method_21_code
def y_Mo_set : MethodName := ⟨gC_Mo, "set", "(II)Z"⟩
abbrev c_Mo_isCell : ByteArray := prog_8_method_2_code
def y_Mo_isCell : MethodName := ⟨gC_Mo, "isCell", "(I)Z"⟩
abbrev c_Mo_reads : ByteArray := prog_8_method_13_code
def y_Mo_reads : MethodName := ⟨gC_Mo, "reads", "(I)Z"⟩
abbrev c_Mo_charAt : ByteArray := prog_8_method_10_code
def y_Mo_charAt : MethodName := ⟨gC_Mo, "charAt", "(II)C"⟩
abbrev c_Mo_isLocal : ByteArray := prog_8_method_5_code
def y_Mo_isLocal : MethodName := ⟨gC_Mo, "isLocal", "(C)Z"⟩
abbrev c_Mo_come : ByteArray := prog_8_method_11_code
def y_Mo_come : MethodName := ⟨gC_Mo, "come", "(I)V"⟩
abbrev c_Mo_isDigit : ByteArray := prog_8_method_3_code
def y_Mo_isDigit : MethodName := ⟨gC_Mo, "isDigit", "(C)Z"⟩
abbrev c_Mo_readOne : ByteArray := prog_8_method_12_code
def y_Mo_readOne : MethodName := ⟨gC_Mo, "readOne", "(II)I"⟩
abbrev c_Mo_isName : ByteArray := prog_8_method_4_code
def y_Mo_isName : MethodName := ⟨gC_Mo, "isName", "(C)Z"⟩
abbrev c_Mo_isBinary : ByteArray := prog_8_method_6_code
def y_Mo_isBinary : MethodName := ⟨gC_Mo, "isBinary", "(C)Z"⟩
abbrev c_Mo_findEnds : ByteArray := prog_8_method_15_code
def y_Mo_findEnds : MethodName := ⟨gC_Mo, "findEnds", "(I)V"⟩
abbrev c_Mo_isFunction : ByteArray := prog_8_method_8_code
def y_Mo_isFunction : MethodName := ⟨gC_Mo, "isFunction", "(I)Z"⟩
abbrev c_Mo_operands : ByteArray := prog_8_method_14_code
def y_Mo_operands : MethodName := ⟨gC_Mo, "operands", "(C)I"⟩
abbrev c_Mo_becomes : ByteArray := prog_8_method_20_code
def y_Mo_becomes : MethodName := ⟨gC_Mo, "becomes", "(II)V"⟩
abbrev c_Mo_isThere : ByteArray := prog_8_method_7_code
def y_Mo_isThere : MethodName := ⟨gC_Mo, "isThere", "(I)Z"⟩
abbrev c_Mo_needs : ByteArray := prog_8_method_17_code
def y_Mo_needs : MethodName := ⟨gC_Mo, "needs", "(II)Z"⟩
abbrev c_Mo_remove : ByteArray := prog_8_method_22_code
def y_Mo_remove : MethodName := ⟨gC_Mo, "remove", "(I)Z"⟩
abbrev c_Mo_work : ByteArray := prog_8_method_43_code
def y_Mo_work : MethodName := ⟨gC_Mo, "work", "(I)I"⟩
abbrev c_Mo_workOnce : ByteArray := prog_8_method_42_code
def y_Mo_workOnce : MethodName := ⟨gC_Mo, "workOnce", "()Z"⟩
abbrev c_Mo_isReady : ByteArray := prog_8_method_41_code
def y_Mo_isReady : MethodName := ⟨gC_Mo, "isReady", "(I)Z"⟩
abbrev c_Mo_fault : ByteArray := prog_8_method_19_code
def y_Mo_fault : MethodName := ⟨gC_Mo, "fault", "(I)I"⟩
abbrev c_Mo_definer : ByteArray := prog_8_method_16_code
def y_Mo_definer : MethodName := ⟨gC_Mo, "definer", "(I)I"⟩
abbrev c_Mo_cycles : ByteArray := prog_8_method_18_code
def y_Mo_cycles : MethodName := ⟨gC_Mo, "cycles", "(I)Z"⟩
abbrev c_Mo_workOut : ByteArray := prog_8_method_40_code
def y_Mo_workOut : MethodName := ⟨gC_Mo, "workOut", "(I)V"⟩
abbrev c_Mo_blocks : ByteArray := prog_8_method_39_code
def y_Mo_blocks : MethodName := ⟨gC_Mo, "blocks", "(I)Z"⟩
abbrev c_Mo_typeOf : ByteArray := prog_8_method_28_code
def y_Mo_typeOf : MethodName := ⟨gC_Mo, "typeOf", "(I)I"⟩
abbrev c_Mo_ownName : ByteArray := prog_8_method_29_code
def y_Mo_ownName : MethodName := ⟨gC_Mo, "ownName", "(II)Z"⟩
abbrev c_Mo_typeOfName : ByteArray := prog_8_method_25_code
def y_Mo_typeOfName : MethodName := ⟨gC_Mo, "typeOfName", "(I)I"⟩
abbrev c_Mo_typeOver : ByteArray := prog_8_method_27_code
def y_Mo_typeOver : MethodName := ⟨gC_Mo, "typeOver", "(II)I"⟩
abbrev c_Mo_popType : ByteArray := prog_8_method_24_code
def y_Mo_popType : MethodName := ⟨gC_Mo, "popType", "()I"⟩
abbrev c_Mo_isFunctionName : ByteArray := prog_8_method_26_code
def y_Mo_isFunctionName : MethodName := ⟨gC_Mo, "isFunctionName", "(II)Z"⟩
abbrev c_Mo_pushType : ByteArray := prog_8_method_23_code
def y_Mo_pushType : MethodName := ⟨gC_Mo, "pushType", "(I)V"⟩
abbrev c_Mo_evaluate : ByteArray := prog_8_method_38_code
def y_Mo_evaluate : MethodName := ⟨gC_Mo, "evaluate", "(II)V"⟩
abbrev c_Mo_enter : ByteArray := prog_8_method_30_code
def y_Mo_enter : MethodName := ⟨gC_Mo, "enter", "(II)V"⟩
abbrev c_Mo_goOn : ByteArray := prog_8_method_33_code
def y_Mo_goOn : MethodName := ⟨gC_Mo, "goOn", "()V"⟩
abbrev c_Mo_leave : ByteArray := prog_8_method_31_code
def y_Mo_leave : MethodName := ⟨gC_Mo, "leave", "(I)V"⟩
abbrev c_Mo_branch : ByteArray := prog_8_method_34_code
def y_Mo_branch : MethodName := ⟨gC_Mo, "branch", "(IIII)V"⟩
abbrev c_Mo_let : ByteArray := prog_8_method_35_code
def y_Mo_let : MethodName := ⟨gC_Mo, "let", "(IIII)V"⟩
abbrev c_Mo_call : ByteArray := prog_8_method_36_code
def y_Mo_call : MethodName := ⟨gC_Mo, "call", "(III)V"⟩
abbrev c_Mo_match : ByteArray := prog_8_method_37_code
def y_Mo_match : MethodName := ⟨gC_Mo, "match", "(IIII)V"⟩
abbrev c_Mo_joined : ByteArray := prog_8_method_32_code
def y_Mo_joined : MethodName := ⟨gC_Mo, "joined", "(CII)I"⟩
abbrev c_Mo_cancel : ByteArray := prog_8_method_44_code
def y_Mo_cancel : MethodName := ⟨gC_Mo, "cancel", "(I)Z"⟩
abbrev c_Mo_status : ByteArray := prog_8_method_45_code
def y_Mo_status : MethodName := ⟨gC_Mo, "status", "(I)I"⟩
abbrev c_Mo_value : ByteArray := prog_8_method_46_code
def y_Mo_value : MethodName := ⟨gC_Mo, "value", "(I)I"⟩
abbrev c_Mo_kind : ByteArray := prog_8_method_47_code
def y_Mo_kind : MethodName := ⟨gC_Mo, "kind", "(I)I"⟩
abbrev c_Mo_uses : ByteArray := prog_8_method_48_code
def y_Mo_uses : MethodName := ⟨gC_Mo, "uses", "(I)I"⟩
abbrev c_Mo_runs : ByteArray := prog_8_method_49_code
def y_Mo_runs : MethodName := ⟨gC_Mo, "runs", "(I)I"⟩
abbrev c_Mo_steps : ByteArray := prog_8_method_50_code
def y_Mo_steps : MethodName := ⟨gC_Mo, "steps", "()I"⟩
theorem wd_1 : Cond.initialized gC_B ∈ wG := wG_tb 1 rfl rfl
theorem wd_2 : Cond.initialized gC_Ce ∈ wG := wG_tb 2 rfl rfl
theorem wd_3 : Cond.initialized gC_Te ∈ wG := wG_tb 3 rfl rfl
theorem wd_4 : Cond.initialized gC_Ev ∈ wG := wG_tb 4 rfl rfl
theorem wd_5 : Cond.initialized gC_Fr ∈ wG := wG_tb 5 rfl rfl
theorem wd_6 : Cond.initialized gC_Mo ∈ wG := wG_tb 6 rfl rfl
theorem wd_9 : Cond.initialized gC_Ty ∈ wG := wG_tb 9 rfl rfl
theorem wd_11 : Cond.instantiable gC_B 6 ∈ wG := wG_tb 11 rfl rfl
theorem wd_13 : Cond.instanceMethod y_B_init ∈ wG := wG_tb 13 rfl rfl
theorem wd_14 : Cond.code y_B_init c_B_init 2 none ∈ wG := wG_tb 14 rfl rfl
theorem wd_20 : Cond.instantiable gC_Ce 8 ∈ wG := wG_tb 20 rfl rfl
theorem wd_21 : Cond.methodLink gC_B 15 y_Ce_init ∈ wG := wG_tb 21 rfl rfl
theorem wd_22 : Cond.instanceMethod y_Ce_init ∈ wG := wG_tb 22 rfl rfl
theorem wd_23 : Cond.code y_Ce_init c_Ce_init 1 none ∈ wG := wG_tb 23 rfl rfl
theorem wd_26 : Cond.instantiable gC_Te 6 ∈ wG := wG_tb 26 rfl rfl
theorem wd_27 : Cond.methodLink gC_Ce 11 y_Te_init ∈ wG := wG_tb 27 rfl rfl
theorem wd_28 : Cond.instanceMethod y_Te_init ∈ wG := wG_tb 28 rfl rfl
theorem wd_29 : Cond.code y_Te_init c_Te_init 1 none ∈ wG := wG_tb 29 rfl rfl
theorem wd_31 : Cond.fieldLink gC_Te 9 (gT_Te 0).1 (gT_Te 0).2.1 (gT_Te 0).2.2.1 ∈ wG := wG_tb 31 rfl rfl
theorem wd_32 : Cond.fieldLink gC_Te 15 (gT_Te 1).1 (gT_Te 1).2.1 (gT_Te 1).2.2.1 ∈ wG := wG_tb 32 rfl rfl
theorem wd_33 : Cond.fieldLink gC_Te 19 (gT_Te 2).1 (gT_Te 2).2.1 (gT_Te 2).2.2.1 ∈ wG := wG_tb 33 rfl rfl
theorem wd_34 : Cond.fieldLink gC_Te 23 (gT_Te 3).1 (gT_Te 3).2.1 (gT_Te 3).2.2.1 ∈ wG := wG_tb 34 rfl rfl
theorem wd_37 : Cond.fieldLink gC_Te 26 (gT_Te 4).1 (gT_Te 4).2.1 (gT_Te 4).2.2.1 ∈ wG := wG_tb 37 rfl rfl
theorem wd_39 : Cond.fieldLink gC_Te 30 (gT_Te 5).1 (gT_Te 5).2.1 (gT_Te 5).2.2.1 ∈ wG := wG_tb 39 rfl rfl
theorem wd_56 : Cond.fieldLink gC_Ce 12 (gT_Ce 0).1 (gT_Ce 0).2.1 (gT_Ce 0).2.2.1 ∈ wG := wG_tb 56 rfl rfl
theorem wd_60 : Cond.fieldLink gC_Ce 18 (gT_Ce 1).1 (gT_Ce 1).2.1 (gT_Ce 1).2.2.1 ∈ wG := wG_tb 60 rfl rfl
theorem wd_62 : Cond.fieldLink gC_Ce 22 (gT_Ce 2).1 (gT_Ce 2).2.1 (gT_Ce 2).2.2.1 ∈ wG := wG_tb 62 rfl rfl
theorem wd_64 : Cond.fieldLink gC_Ce 25 (gT_Ce 3).1 (gT_Ce 3).2.1 (gT_Ce 3).2.2.1 ∈ wG := wG_tb 64 rfl rfl
theorem wd_66 : Cond.fieldLink gC_Ce 29 (gT_Ce 4).1 (gT_Ce 4).2.1 (gT_Ce 4).2.2.1 ∈ wG := wG_tb 66 rfl rfl
theorem wd_69 : Cond.fieldLink gC_Ce 32 (gT_Ce 5).1 (gT_Ce 5).2.1 (gT_Ce 5).2.2.1 ∈ wG := wG_tb 69 rfl rfl
theorem wd_72 : Cond.fieldLink gC_Ce 35 (gT_Ce 6).1 (gT_Ce 6).2.1 (gT_Ce 6).2.2.1 ∈ wG := wG_tb 72 rfl rfl
theorem wd_76 : Cond.fieldLink gC_Ce 38 (gT_Ce 7).1 (gT_Ce 7).2.1 (gT_Ce 7).2.2.1 ∈ wG := wG_tb 76 rfl rfl
theorem wd_97 : Cond.instantiable gC_Ev 5 ∈ wG := wG_tb 97 rfl rfl
theorem wd_98 : Cond.methodLink gC_B 25 y_Ev_init ∈ wG := wG_tb 98 rfl rfl
theorem wd_99 : Cond.instanceMethod y_Ev_init ∈ wG := wG_tb 99 rfl rfl
theorem wd_100 : Cond.code y_Ev_init c_Ev_init 2 none ∈ wG := wG_tb 100 rfl rfl
theorem wd_104 : Cond.instantiable gC_Fr 3 ∈ wG := wG_tb 104 rfl rfl
theorem wd_105 : Cond.methodLink gC_Ev 17 y_Fr_init ∈ wG := wG_tb 105 rfl rfl
theorem wd_106 : Cond.instanceMethod y_Fr_init ∈ wG := wG_tb 106 rfl rfl
theorem wd_107 : Cond.code y_Fr_init c_Fr_init 2 none ∈ wG := wG_tb 107 rfl rfl
theorem wd_109 : Cond.fieldLink gC_Fr 9 (gT_Fr 0).1 (gT_Fr 0).2.1 (gT_Fr 0).2.2.1 ∈ wG := wG_tb 109 rfl rfl
theorem wd_111 : Cond.fieldLink gC_Fr 15 (gT_Fr 1).1 (gT_Fr 1).2.1 (gT_Fr 1).2.2.1 ∈ wG := wG_tb 111 rfl rfl
theorem wd_113 : Cond.fieldLink gC_Fr 19 (gT_Fr 2).1 (gT_Fr 2).2.1 (gT_Fr 2).2.2.1 ∈ wG := wG_tb 113 rfl rfl
theorem wd_122 : Cond.fieldLink gC_Ev 11 (gT_Ev 0).1 (gT_Ev 0).2.1 (gT_Ev 0).2.2.1 ∈ wG := wG_tb 122 rfl rfl
theorem wd_123 : Cond.fieldLink gC_Ev 20 (gT_Ev 1).1 (gT_Ev 1).2.1 (gT_Ev 1).2.2.1 ∈ wG := wG_tb 123 rfl rfl
theorem wd_124 : Cond.fieldLink gC_Ev 24 (gT_Ev 2).1 (gT_Ev 2).2.1 (gT_Ev 2).2.2.1 ∈ wG := wG_tb 124 rfl rfl
theorem wd_125 : Cond.fieldLink gC_Ev 28 (gT_Ev 3).1 (gT_Ev 3).2.1 (gT_Ev 3).2.2.1 ∈ wG := wG_tb 125 rfl rfl
theorem wd_127 : Cond.fieldLink gC_Ev 31 (gT_Ev 4).1 (gT_Ev 4).2.1 (gT_Ev 4).2.2.1 ∈ wG := wG_tb 127 rfl rfl
theorem wd_139 : Cond.fieldLink gC_B 11 (gT_B 0).1 (gT_B 0).2.1 (gT_B 0).2.2.1 ∈ wG := wG_tb 139 rfl rfl
theorem wd_140 : Cond.fieldLink gC_B 16 (gT_B 1).1 (gT_B 1).2.1 (gT_B 1).2.2.1 ∈ wG := wG_tb 140 rfl rfl
theorem wd_141 : Cond.fieldLink gC_B 19 (gT_B 2).1 (gT_B 2).2.1 (gT_B 2).2.2.1 ∈ wG := wG_tb 141 rfl rfl
theorem wd_142 : Cond.fieldLink gC_B 26 (gT_B 3).1 (gT_B 3).2.1 (gT_B 3).2.2.1 ∈ wG := wG_tb 142 rfl rfl
theorem wd_143 : Cond.fieldLink gC_B 30 (gT_B 4).1 (gT_B 4).2.1 (gT_B 4).2.2.1 ∈ wG := wG_tb 143 rfl rfl
theorem wd_144 : Cond.fieldLink gC_B 34 (gT_B 5).1 (gT_B 5).2.1 (gT_B 5).2.2.1 ∈ wG := wG_tb 144 rfl rfl
theorem wd_159 : Cond.instanceMethod y_B_type ∈ wG := wG_tb 159 rfl rfl
theorem wd_160 : Cond.selects gC_B y_B_type y_B_type ∈ wG := wG_tb 160 rfl rfl
theorem wd_161 : Cond.code y_B_type c_B_type 5 (some .int) ∈ wG := wG_tb 161 rfl rfl
theorem wd_162 : Cond.methodLink gC_B 38 y_B_areTypeable ∈ wG := wG_tb 162 rfl rfl
theorem wd_163 : Cond.static y_B_areTypeable ∈ wG := wG_tb 163 rfl rfl
theorem wd_164 : Cond.code y_B_areTypeable c_B_areTypeable 5 (some .boolean) ∈ wG := wG_tb 164 rfl rfl
theorem wd_165 : Cond.methodLink gC_B 42 y_B_characterAt ∈ wG := wG_tb 165 rfl rfl
theorem wd_166 : Cond.static y_B_characterAt ∈ wG := wG_tb 166 rfl rfl
theorem wd_167 : Cond.code y_B_characterAt c_B_characterAt 3 (some .char) ∈ wG := wG_tb 167 rfl rfl
theorem wd_168 : Cond.constantLong "CellBook" (109 : Nat) (255 : Int64) ∈ wG := wG_tb 168 rfl rfl
theorem wd_170 : Cond.instanceMethod y_B_set ∈ wG := wG_tb 170 rfl rfl
theorem wd_171 : Cond.selects gC_B y_B_set y_B_set ∈ wG := wG_tb 171 rfl rfl
theorem wd_172 : Cond.code y_B_set c_B_set 5 (some .boolean) ∈ wG := wG_tb 172 rfl rfl
theorem wd_173 : Cond.methodLink gC_B 46 y_B_isCell ∈ wG := wG_tb 173 rfl rfl
theorem wd_174 : Cond.static y_B_isCell ∈ wG := wG_tb 174 rfl rfl
theorem wd_175 : Cond.code y_B_isCell c_B_isCell 1 (some .boolean) ∈ wG := wG_tb 175 rfl rfl
theorem wd_176 : Cond.methodLink gC_B 50 y_Ce_nameBit ∈ wG := wG_tb 176 rfl rfl
theorem wd_177 : Cond.instanceMethod y_Ce_nameBit ∈ wG := wG_tb 177 rfl rfl
theorem wd_178 : Cond.selects gC_Ce y_Ce_nameBit y_Ce_nameBit ∈ wG := wG_tb 178 rfl rfl
theorem wd_179 : Cond.code y_Ce_nameBit c_Ce_nameBit 1 (some .int) ∈ wG := wG_tb 179 rfl rfl
theorem wd_180 : Cond.methodLink gC_Ce 44 y_Ce_isEmpty ∈ wG := wG_tb 180 rfl rfl
theorem wd_181 : Cond.instanceMethod y_Ce_isEmpty ∈ wG := wG_tb 181 rfl rfl
theorem wd_182 : Cond.selects gC_Ce y_Ce_isEmpty y_Ce_isEmpty ∈ wG := wG_tb 182 rfl rfl
theorem wd_183 : Cond.code y_Ce_isEmpty c_Ce_isEmpty 1 (some .boolean) ∈ wG := wG_tb 183 rfl rfl
theorem wd_184 : Cond.methodLink gC_B 61 y_Te_read ∈ wG := wG_tb 184 rfl rfl
theorem wd_185 : Cond.instanceMethod y_Te_read ∈ wG := wG_tb 185 rfl rfl
theorem wd_186 : Cond.selects gC_Te y_Te_read y_Te_read ∈ wG := wG_tb 186 rfl rfl
theorem wd_187 : Cond.code y_Te_read c_Te_read 4 none ∈ wG := wG_tb 187 rfl rfl
theorem wd_194 : Cond.methodLink gC_Te 45 y_Te_signAt ∈ wG := wG_tb 194 rfl rfl
theorem wd_195 : Cond.instanceMethod y_Te_signAt ∈ wG := wG_tb 195 rfl rfl
theorem wd_196 : Cond.selects gC_Te y_Te_signAt y_Te_signAt ∈ wG := wG_tb 196 rfl rfl
theorem wd_197 : Cond.code y_Te_signAt c_Te_signAt 2 (some .char) ∈ wG := wG_tb 197 rfl rfl
theorem wd_199 : Cond.static y_B_isLocal ∈ wG := wG_tb 199 rfl rfl
theorem wd_200 : Cond.code y_B_isLocal c_B_isLocal 1 (some .boolean) ∈ wG := wG_tb 200 rfl rfl
theorem wd_201 : Cond.methodLink gC_Te 53 y_Te_localAt ∈ wG := wG_tb 201 rfl rfl
theorem wd_202 : Cond.instanceMethod y_Te_localAt ∈ wG := wG_tb 202 rfl rfl
theorem wd_203 : Cond.selects gC_Te y_Te_localAt y_Te_localAt ∈ wG := wG_tb 203 rfl rfl
theorem wd_204 : Cond.code y_Te_localAt c_Te_localAt 3 (some .int) ∈ wG := wG_tb 204 rfl rfl
theorem wd_205 : Cond.methodLink gC_Te 57 y_Te_readExpression ∈ wG := wG_tb 205 rfl rfl
theorem wd_207 : Cond.instanceMethod y_Te_readExpression ∈ wG := wG_tb 207 rfl rfl
theorem wd_208 : Cond.code y_Te_readExpression c_Te_readExpression 5 (some .int) ∈ wG := wG_tb 208 rfl rfl
theorem wd_209 : Cond.methodLink gC_Te 61 y_Te_readSign ∈ wG := wG_tb 209 rfl rfl
theorem wd_211 : Cond.instanceMethod y_Te_readSign ∈ wG := wG_tb 211 rfl rfl
theorem wd_212 : Cond.code y_Te_readSign c_Te_readSign 4 (some .int) ∈ wG := wG_tb 212 rfl rfl
theorem wd_213 : Cond.methodLink gC_Te 64 y_Te_readExpressions ∈ wG := wG_tb 213 rfl rfl
theorem wd_215 : Cond.instanceMethod y_Te_readExpressions ∈ wG := wG_tb 215 rfl rfl
theorem wd_216 : Cond.code y_Te_readExpressions c_Te_readExpressions 7 (some .int) ∈ wG := wG_tb 216 rfl rfl
theorem wd_217 : Cond.methodLink gC_Te 68 y_Te_readBinding ∈ wG := wG_tb 217 rfl rfl
theorem wd_219 : Cond.instanceMethod y_Te_readBinding ∈ wG := wG_tb 219 rfl rfl
theorem wd_220 : Cond.code y_Te_readBinding c_Te_readBinding 6 (some .int) ∈ wG := wG_tb 220 rfl rfl
theorem wd_221 : Cond.methodLink gC_Te 71 y_Te_readName ∈ wG := wG_tb 221 rfl rfl
theorem wd_223 : Cond.instanceMethod y_Te_readName ∈ wG := wG_tb 223 rfl rfl
theorem wd_224 : Cond.code y_Te_readName c_Te_readName 3 (some .int) ∈ wG := wG_tb 224 rfl rfl
theorem wd_226 : Cond.static y_B_isName ∈ wG := wG_tb 226 rfl rfl
theorem wd_227 : Cond.code y_B_isName c_B_isName 1 (some .boolean) ∈ wG := wG_tb 227 rfl rfl
theorem wd_228 : Cond.methodLink gC_Te 74 y_Te_readMatch ∈ wG := wG_tb 228 rfl rfl
theorem wd_230 : Cond.instanceMethod y_Te_readMatch ∈ wG := wG_tb 230 rfl rfl
theorem wd_231 : Cond.code y_Te_readMatch c_Te_readMatch 6 (some .int) ∈ wG := wG_tb 231 rfl rfl
theorem wd_233 : Cond.static y_B_isDigit ∈ wG := wG_tb 233 rfl rfl
theorem wd_234 : Cond.code y_B_isDigit c_B_isDigit 1 (some .boolean) ∈ wG := wG_tb 234 rfl rfl
theorem wd_235 : Cond.methodLink gC_Te 77 y_Te_readLeaf ∈ wG := wG_tb 235 rfl rfl
theorem wd_237 : Cond.instanceMethod y_Te_readLeaf ∈ wG := wG_tb 237 rfl rfl
theorem wd_238 : Cond.code y_Te_readLeaf c_Te_readLeaf 4 (some .int) ∈ wG := wG_tb 238 rfl rfl
theorem wd_240 : Cond.static y_B_hasBit ∈ wG := wG_tb 240 rfl rfl
theorem wd_241 : Cond.code y_B_hasBit c_B_hasBit 2 (some .boolean) ∈ wG := wG_tb 241 rfl rfl
theorem wd_242 : Cond.methodLink gC_B 67 y_B_follow ∈ wG := wG_tb 242 rfl rfl
theorem wd_244 : Cond.instanceMethod y_B_follow ∈ wG := wG_tb 244 rfl rfl
theorem wd_245 : Cond.code y_B_follow c_B_follow 3 none ∈ wG := wG_tb 245 rfl rfl
theorem wd_246 : Cond.methodLink gC_B 115 y_B_findDefiners ∈ wG := wG_tb 246 rfl rfl
theorem wd_248 : Cond.instanceMethod y_B_findDefiners ∈ wG := wG_tb 248 rfl rfl
theorem wd_249 : Cond.code y_B_findDefiners c_B_findDefiners 2 none ∈ wG := wG_tb 249 rfl rfl
theorem wd_250 : Cond.methodLink gC_B 71 y_Ce_isEmpty ∈ wG := wG_tb 250 rfl rfl
theorem wd_251 : Cond.methodLink gC_B 118 y_B_findWays ∈ wG := wG_tb 251 rfl rfl
theorem wd_253 : Cond.instanceMethod y_B_findWays ∈ wG := wG_tb 253 rfl rfl
theorem wd_254 : Cond.code y_B_findWays c_B_findWays 3 none ∈ wG := wG_tb 254 rfl rfl
theorem wd_255 : Cond.methodLink gC_B 134 y_Te_isFunction ∈ wG := wG_tb 255 rfl rfl
theorem wd_256 : Cond.instanceMethod y_Te_isFunction ∈ wG := wG_tb 256 rfl rfl
theorem wd_257 : Cond.selects gC_Te y_Te_isFunction y_Te_isFunction ∈ wG := wG_tb 257 rfl rfl
theorem wd_258 : Cond.code y_Te_isFunction c_Te_isFunction 1 (some .boolean) ∈ wG := wG_tb 258 rfl rfl
theorem wd_259 : Cond.methodLink gC_B 137 y_B_othersUsedBy ∈ wG := wG_tb 259 rfl rfl
theorem wd_261 : Cond.instanceMethod y_B_othersUsedBy ∈ wG := wG_tb 261 rfl rfl
theorem wd_262 : Cond.code y_B_othersUsedBy c_B_othersUsedBy 2 (some .int) ∈ wG := wG_tb 262 rfl rfl
theorem wd_263 : Cond.methodLink gC_B 131 y_B_cellsDefining ∈ wG := wG_tb 263 rfl rfl
theorem wd_265 : Cond.instanceMethod y_B_cellsDefining ∈ wG := wG_tb 265 rfl rfl
theorem wd_266 : Cond.code y_B_cellsDefining c_B_cellsDefining 4 (some .int) ∈ wG := wG_tb 266 rfl rfl
theorem wd_267 : Cond.methodLink gC_B 140 y_B_hasBit ∈ wG := wG_tb 267 rfl rfl
theorem wd_268 : Cond.methodLink gC_B 121 y_B_faultOf ∈ wG := wG_tb 268 rfl rfl
theorem wd_270 : Cond.instanceMethod y_B_faultOf ∈ wG := wG_tb 270 rfl rfl
theorem wd_271 : Cond.code y_B_faultOf c_B_faultOf 3 (some .int) ∈ wG := wG_tb 271 rfl rfl
theorem wd_272 : Cond.methodLink gC_B 147 y_B_usesMissingName ∈ wG := wG_tb 272 rfl rfl
theorem wd_274 : Cond.instanceMethod y_B_usesMissingName ∈ wG := wG_tb 274 rfl rfl
theorem wd_275 : Cond.code y_B_usesMissingName c_B_usesMissingName 3 (some .boolean) ∈ wG := wG_tb 275 rfl rfl
theorem wd_276 : Cond.methodLink gC_B 128 y_B_spreadStale ∈ wG := wG_tb 276 rfl rfl
theorem wd_278 : Cond.instanceMethod y_B_spreadStale ∈ wG := wG_tb 278 rfl rfl
theorem wd_279 : Cond.code y_B_spreadStale c_B_spreadStale 5 none ∈ wG := wG_tb 279 rfl rfl
theorem wd_280 : Cond.methodLink gC_B 151 y_B_makeUsersStale ∈ wG := wG_tb 280 rfl rfl
theorem wd_282 : Cond.instanceMethod y_B_makeUsersStale ∈ wG := wG_tb 282 rfl rfl
theorem wd_283 : Cond.code y_B_makeUsersStale c_B_makeUsersStale 4 (some .int) ∈ wG := wG_tb 283 rfl rfl
theorem wd_285 : Cond.instanceMethod y_B_remove ∈ wG := wG_tb 285 rfl rfl
theorem wd_286 : Cond.selects gC_B y_B_remove y_B_remove ∈ wG := wG_tb 286 rfl rfl
theorem wd_287 : Cond.code y_B_remove c_B_remove 3 (some .boolean) ∈ wG := wG_tb 287 rfl rfl
theorem wd_288 : Cond.methodLink gC_B 75 y_Ce_clear ∈ wG := wG_tb 288 rfl rfl
theorem wd_289 : Cond.instanceMethod y_Ce_clear ∈ wG := wG_tb 289 rfl rfl
theorem wd_290 : Cond.selects gC_Ce y_Ce_clear y_Ce_clear ∈ wG := wG_tb 290 rfl rfl
theorem wd_291 : Cond.code y_Ce_clear c_Ce_clear 1 none ∈ wG := wG_tb 291 rfl rfl
theorem wd_292 : Cond.methodLink gC_Ce 41 y_Te_clear ∈ wG := wG_tb 292 rfl rfl
theorem wd_293 : Cond.instanceMethod y_Te_clear ∈ wG := wG_tb 293 rfl rfl
theorem wd_294 : Cond.selects gC_Te y_Te_clear y_Te_clear ∈ wG := wG_tb 294 rfl rfl
theorem wd_295 : Cond.code y_Te_clear c_Te_clear 1 none ∈ wG := wG_tb 295 rfl rfl
theorem wd_297 : Cond.instanceMethod y_B_work ∈ wG := wG_tb 297 rfl rfl
theorem wd_298 : Cond.selects gC_B y_B_work y_B_work ∈ wG := wG_tb 298 rfl rfl
theorem wd_299 : Cond.code y_B_work c_B_work 4 (some .int) ∈ wG := wG_tb 299 rfl rfl
theorem wd_300 : Cond.methodLink gC_B 78 y_B_nextToWorkOn ∈ wG := wG_tb 300 rfl rfl
set_option maxRecDepth 20000 in
theorem wd_302 : Cond.instanceMethod y_B_nextToWorkOn ∈ wG := wG_tb 302 rfl rfl
set_option maxRecDepth 20000 in
theorem wd_303 : Cond.code y_B_nextToWorkOn c_B_nextToWorkOn 4 (some .int) ∈ wG := wG_tb 303 rfl rfl
set_option maxRecDepth 20000 in
theorem wd_304 : Cond.methodLink gC_B 154 y_B_staleCells ∈ wG := wG_tb 304 rfl rfl
set_option maxRecDepth 20000 in
theorem wd_306 : Cond.instanceMethod y_B_staleCells ∈ wG := wG_tb 306 rfl rfl
set_option maxRecDepth 20000 in
theorem wd_307 : Cond.code y_B_staleCells c_B_staleCells 3 (some .int) ∈ wG := wG_tb 307 rfl rfl
set_option maxRecDepth 20000 in
theorem wd_308 : Cond.methodLink gC_B 81 y_B_workOn ∈ wG := wG_tb 308 rfl rfl
set_option maxRecDepth 20000 in
theorem wd_310 : Cond.instanceMethod y_B_workOn ∈ wG := wG_tb 310 rfl rfl
set_option maxRecDepth 20000 in
theorem wd_311 : Cond.code y_B_workOn c_B_workOn 4 none ∈ wG := wG_tb 311 rfl rfl
set_option maxRecDepth 20000 in
theorem wd_312 : Cond.methodLink gC_B 160 y_B_usableCells ∈ wG := wG_tb 312 rfl rfl
set_option maxRecDepth 20000 in
theorem wd_314 : Cond.instanceMethod y_B_usableCells ∈ wG := wG_tb 314 rfl rfl
set_option maxRecDepth 20000 in
theorem wd_315 : Cond.code y_B_usableCells c_B_usableCells 3 (some .int) ∈ wG := wG_tb 315 rfl rfl
set_option maxRecDepth 20000 in
theorem wd_316 : Cond.methodLink gC_B 157 y_Ce_isUsable ∈ wG := wG_tb 316 rfl rfl
set_option maxRecDepth 20000 in
theorem wd_317 : Cond.instanceMethod y_Ce_isUsable ∈ wG := wG_tb 317 rfl rfl
set_option maxRecDepth 20000 in
theorem wd_318 : Cond.selects gC_Ce y_Ce_isUsable y_Ce_isUsable ∈ wG := wG_tb 318 rfl rfl
set_option maxRecDepth 20000 in
theorem wd_319 : Cond.code y_Ce_isUsable c_Ce_isUsable 2 (some .boolean) ∈ wG := wG_tb 319 rfl rfl
set_option maxRecDepth 20000 in
theorem wd_320 : Cond.methodLink gC_Ce 48 y_Ce_shown ∈ wG := wG_tb 320 rfl rfl
set_option maxRecDepth 20000 in
theorem wd_321 : Cond.instanceMethod y_Ce_shown ∈ wG := wG_tb 321 rfl rfl
set_option maxRecDepth 20000 in
theorem wd_322 : Cond.selects gC_Ce y_Ce_shown y_Ce_shown ∈ wG := wG_tb 322 rfl rfl
set_option maxRecDepth 20000 in
theorem wd_323 : Cond.code y_Ce_shown c_Ce_shown 1 (some .int) ∈ wG := wG_tb 323 rfl rfl
set_option maxRecDepth 20000 in
theorem wd_324 : Cond.methodLink gC_B 163 y_Ty_ofText ∈ wG := wG_tb 324 rfl rfl
set_option maxRecDepth 20000 in
theorem wd_325 : Cond.static y_Ty_ofText ∈ wG := wG_tb 325 rfl rfl
set_option maxRecDepth 20000 in
theorem wd_326 : Cond.code y_Ty_ofText c_Ty_ofText 3 (some .int) ∈ wG := wG_tb 326 rfl rfl
set_option maxRecDepth 20000 in
theorem wd_327 : Cond.methodLink gC_Ty 15 y_Ty_ofExpression ∈ wG := wG_tb 327 rfl rfl
set_option maxRecDepth 20000 in
theorem wd_328 : Cond.static y_Ty_ofExpression ∈ wG := wG_tb 328 rfl rfl
set_option maxRecDepth 20000 in
theorem wd_329 : Cond.code y_Ty_ofExpression c_Ty_ofExpression 4 (some .int) ∈ wG := wG_tb 329 rfl rfl
set_option maxRecDepth 20000 in
theorem wd_330 : Cond.methodLink gC_Ty 25 y_Te_signAt ∈ wG := wG_tb 330 rfl rfl
set_option maxRecDepth 20000 in
theorem wd_331 : Cond.methodLink gC_Ty 29 y_Ty_areBoth ∈ wG := wG_tb 331 rfl rfl
set_option maxRecDepth 20000 in
theorem wd_332 : Cond.static y_Ty_areBoth ∈ wG := wG_tb 332 rfl rfl
set_option maxRecDepth 20000 in
theorem wd_333 : Cond.code y_Ty_areBoth c_Ty_areBoth 6 (some .boolean) ∈ wG := wG_tb 333 rfl rfl
set_option maxRecDepth 20000 in
theorem wd_334 : Cond.methodLink gC_Ty 49 y_Te_endOf ∈ wG := wG_tb 334 rfl rfl
set_option maxRecDepth 20000 in
theorem wd_335 : Cond.instanceMethod y_Te_endOf ∈ wG := wG_tb 335 rfl rfl
set_option maxRecDepth 20000 in
theorem wd_336 : Cond.selects gC_Te y_Te_endOf y_Te_endOf ∈ wG := wG_tb 336 rfl rfl
set_option maxRecDepth 20000 in
theorem wd_337 : Cond.code y_Te_endOf c_Te_endOf 2 (some .int) ∈ wG := wG_tb 337 rfl rfl
set_option maxRecDepth 20000 in
theorem wd_338 : Cond.methodLink gC_Ty 33 y_Ty_ofChoice ∈ wG := wG_tb 338 rfl rfl
set_option maxRecDepth 20000 in
theorem wd_339 : Cond.static y_Ty_ofChoice ∈ wG := wG_tb 339 rfl rfl
set_option maxRecDepth 20000 in
theorem wd_340 : Cond.code y_Ty_ofChoice c_Ty_ofChoice 7 (some .int) ∈ wG := wG_tb 340 rfl rfl
set_option maxRecDepth 20000 in
theorem wd_341 : Cond.methodLink gC_Ty 36 y_Ty_ofBinding ∈ wG := wG_tb 341 rfl rfl
set_option maxRecDepth 20000 in
theorem wd_342 : Cond.static y_Ty_ofBinding ∈ wG := wG_tb 342 rfl rfl
set_option maxRecDepth 20000 in
theorem wd_343 : Cond.code y_Ty_ofBinding c_Ty_ofBinding 5 (some .int) ∈ wG := wG_tb 343 rfl rfl
set_option maxRecDepth 20000 in
theorem wd_344 : Cond.methodLink gC_Ty 39 y_Ty_ofCall ∈ wG := wG_tb 344 rfl rfl
set_option maxRecDepth 20000 in
theorem wd_345 : Cond.static y_Ty_ofCall ∈ wG := wG_tb 345 rfl rfl
set_option maxRecDepth 20000 in
theorem wd_346 : Cond.code y_Ty_ofCall c_Ty_ofCall 5 (some .int) ∈ wG := wG_tb 346 rfl rfl
set_option maxRecDepth 20000 in
theorem wd_348 : Cond.static y_B_definerOf ∈ wG := wG_tb 348 rfl rfl
set_option maxRecDepth 20000 in
theorem wd_349 : Cond.code y_B_definerOf c_B_definerOf 2 (some (.object "CellBook$Cell")) ∈ wG := wG_tb 349 rfl rfl
set_option maxRecDepth 20000 in
theorem wd_350 : Cond.methodLink gC_B 111 y_B_isName ∈ wG := wG_tb 350 rfl rfl
set_option maxRecDepth 20000 in
theorem wd_351 : Cond.methodLink gC_Ty 21 y_Te_isFunction ∈ wG := wG_tb 351 rfl rfl
set_option maxRecDepth 20000 in
theorem wd_352 : Cond.methodLink gC_Ty 42 y_Ty_ofMatch ∈ wG := wG_tb 352 rfl rfl
set_option maxRecDepth 20000 in
theorem wd_353 : Cond.static y_Ty_ofMatch ∈ wG := wG_tb 353 rfl rfl
set_option maxRecDepth 20000 in
theorem wd_354 : Cond.code y_Ty_ofMatch c_Ty_ofMatch 6 (some .int) ∈ wG := wG_tb 354 rfl rfl
set_option maxRecDepth 20000 in
theorem wd_355 : Cond.methodLink gC_Ty 45 y_Ty_ofLeaf ∈ wG := wG_tb 355 rfl rfl
set_option maxRecDepth 20000 in
theorem wd_356 : Cond.static y_Ty_ofLeaf ∈ wG := wG_tb 356 rfl rfl
set_option maxRecDepth 20000 in
theorem wd_357 : Cond.code y_Ty_ofLeaf c_Ty_ofLeaf 3 (some .int) ∈ wG := wG_tb 357 rfl rfl
set_option maxRecDepth 20000 in
theorem wd_359 : Cond.methodLink gC_B 169 y_Ev_run ∈ wG := wG_tb 359 rfl rfl
set_option maxRecDepth 20000 in
theorem wd_360 : Cond.instanceMethod y_Ev_run ∈ wG := wG_tb 360 rfl rfl
set_option maxRecDepth 20000 in
theorem wd_361 : Cond.selects gC_Ev y_Ev_run y_Ev_run ∈ wG := wG_tb 361 rfl rfl
set_option maxRecDepth 20000 in
theorem wd_362 : Cond.code y_Ev_run c_Ev_run 4 none ∈ wG := wG_tb 362 rfl rfl
set_option maxRecDepth 20000 in
theorem wd_363 : Cond.methodLink gC_Ev 46 y_Ev_ofExpression ∈ wG := wG_tb 363 rfl rfl
set_option maxRecDepth 20000 in
theorem wd_365 : Cond.instanceMethod y_Ev_ofExpression ∈ wG := wG_tb 365 rfl rfl
set_option maxRecDepth 20000 in
theorem wd_366 : Cond.code y_Ev_ofExpression c_Ev_ofExpression 4 (some .int) ∈ wG := wG_tb 366 rfl rfl
set_option maxRecDepth 20000 in
theorem wd_367 : Cond.methodLink gC_Ev 66 y_Ev_fail ∈ wG := wG_tb 367 rfl rfl
set_option maxRecDepth 20000 in
theorem wd_369 : Cond.instanceMethod y_Ev_fail ∈ wG := wG_tb 369 rfl rfl
set_option maxRecDepth 20000 in
theorem wd_370 : Cond.code y_Ev_fail c_Ev_fail 2 (some .int) ∈ wG := wG_tb 370 rfl rfl
set_option maxRecDepth 20000 in
theorem wd_371 : Cond.methodLink gC_Ev 70 y_Te_signAt ∈ wG := wG_tb 371 rfl rfl
set_option maxRecDepth 20000 in
theorem wd_372 : Cond.methodLink gC_Ev 74 y_Ev_ofBoth ∈ wG := wG_tb 372 rfl rfl
set_option maxRecDepth 20000 in
theorem wd_374 : Cond.instanceMethod y_Ev_ofBoth ∈ wG := wG_tb 374 rfl rfl
set_option maxRecDepth 20000 in
theorem wd_375 : Cond.code y_Ev_ofBoth c_Ev_ofBoth 5 (some .int) ∈ wG := wG_tb 375 rfl rfl
set_option maxRecDepth 20000 in
theorem wd_376 : Cond.methodLink gC_Ev 56 y_Ev_hasFailed ∈ wG := wG_tb 376 rfl rfl
set_option maxRecDepth 20000 in
theorem wd_378 : Cond.instanceMethod y_Ev_hasFailed ∈ wG := wG_tb 378 rfl rfl
set_option maxRecDepth 20000 in
theorem wd_379 : Cond.code y_Ev_hasFailed c_Ev_hasFailed 1 (some .boolean) ∈ wG := wG_tb 379 rfl rfl
set_option maxRecDepth 20000 in
theorem wd_380 : Cond.methodLink gC_Ev 111 y_Te_endOf ∈ wG := wG_tb 380 rfl rfl
set_option maxRecDepth 20000 in
theorem wd_381 : Cond.methodLink gC_Ev 77 y_Ev_ofChoice ∈ wG := wG_tb 381 rfl rfl
set_option maxRecDepth 20000 in
theorem wd_383 : Cond.instanceMethod y_Ev_ofChoice ∈ wG := wG_tb 383 rfl rfl
set_option maxRecDepth 20000 in
theorem wd_384 : Cond.code y_Ev_ofChoice c_Ev_ofChoice 6 (some .int) ∈ wG := wG_tb 384 rfl rfl
set_option maxRecDepth 20000 in
theorem wd_385 : Cond.methodLink gC_Ev 80 y_Ev_ofBinding ∈ wG := wG_tb 385 rfl rfl
set_option maxRecDepth 20000 in
theorem wd_387 : Cond.instanceMethod y_Ev_ofBinding ∈ wG := wG_tb 387 rfl rfl
set_option maxRecDepth 20000 in
theorem wd_388 : Cond.code y_Ev_ofBinding c_Ev_ofBinding 8 (some .int) ∈ wG := wG_tb 388 rfl rfl
set_option maxRecDepth 20000 in
theorem wd_389 : Cond.methodLink gC_Ev 118 y_Te_localAt ∈ wG := wG_tb 389 rfl rfl
set_option maxRecDepth 20000 in
theorem wd_390 : Cond.methodLink gC_Ev 83 y_Ev_ofCall ∈ wG := wG_tb 390 rfl rfl
set_option maxRecDepth 20000 in
theorem wd_392 : Cond.instanceMethod y_Ev_ofCall ∈ wG := wG_tb 392 rfl rfl
set_option maxRecDepth 20000 in
theorem wd_393 : Cond.code y_Ev_ofCall c_Ev_ofCall 7 (some .int) ∈ wG := wG_tb 393 rfl rfl
set_option maxRecDepth 20000 in
theorem wd_395 : Cond.methodLink gC_Ev 86 y_Ev_ofMatch ∈ wG := wG_tb 395 rfl rfl
set_option maxRecDepth 20000 in
theorem wd_397 : Cond.instanceMethod y_Ev_ofMatch ∈ wG := wG_tb 397 rfl rfl
set_option maxRecDepth 20000 in
theorem wd_398 : Cond.code y_Ev_ofMatch c_Ev_ofMatch 7 (some .int) ∈ wG := wG_tb 398 rfl rfl
set_option maxRecDepth 20000 in
theorem wd_399 : Cond.methodLink gC_Ev 89 y_Ev_ofPair ∈ wG := wG_tb 399 rfl rfl
set_option maxRecDepth 20000 in
theorem wd_401 : Cond.instanceMethod y_Ev_ofPair ∈ wG := wG_tb 401 rfl rfl
set_option maxRecDepth 20000 in
theorem wd_402 : Cond.code y_Ev_ofPair c_Ev_ofPair 6 (some .int) ∈ wG := wG_tb 402 rfl rfl
set_option maxRecDepth 20000 in
theorem wd_403 : Cond.methodLink gC_Ev 114 y_Ev_combine ∈ wG := wG_tb 403 rfl rfl
set_option maxRecDepth 20000 in
theorem wd_405 : Cond.instanceMethod y_Ev_combine ∈ wG := wG_tb 405 rfl rfl
set_option maxRecDepth 20000 in
theorem wd_406 : Cond.code y_Ev_combine c_Ev_combine 4 (some .int) ∈ wG := wG_tb 406 rfl rfl
set_option maxRecDepth 20000 in
theorem wd_407 : Cond.methodLink gC_Ev 92 y_Ev_ofLeaf ∈ wG := wG_tb 407 rfl rfl
set_option maxRecDepth 20000 in
theorem wd_409 : Cond.instanceMethod y_Ev_ofLeaf ∈ wG := wG_tb 409 rfl rfl
set_option maxRecDepth 20000 in
theorem wd_410 : Cond.code y_Ev_ofLeaf c_Ev_ofLeaf 5 (some .int) ∈ wG := wG_tb 410 rfl rfl
set_option maxRecDepth 20000 in
theorem wd_414 : Cond.instanceMethod y_B_cancel ∈ wG := wG_tb 414 rfl rfl
set_option maxRecDepth 20000 in
theorem wd_415 : Cond.selects gC_B y_B_cancel y_B_cancel ∈ wG := wG_tb 415 rfl rfl
set_option maxRecDepth 20000 in
theorem wd_416 : Cond.code y_B_cancel c_B_cancel 2 (some .boolean) ∈ wG := wG_tb 416 rfl rfl
set_option maxRecDepth 20000 in
theorem wd_417 : Cond.methodLink gC_B 84 y_Ce_shown ∈ wG := wG_tb 417 rfl rfl
set_option maxRecDepth 20000 in
theorem wd_419 : Cond.instanceMethod y_B_status ∈ wG := wG_tb 419 rfl rfl
set_option maxRecDepth 20000 in
theorem wd_420 : Cond.selects gC_B y_B_status y_B_status ∈ wG := wG_tb 420 rfl rfl
set_option maxRecDepth 20000 in
theorem wd_421 : Cond.code y_B_status c_B_status 2 (some .int) ∈ wG := wG_tb 421 rfl rfl
set_option maxRecDepth 20000 in
theorem wd_423 : Cond.instanceMethod y_B_value ∈ wG := wG_tb 423 rfl rfl
set_option maxRecDepth 20000 in
theorem wd_424 : Cond.selects gC_B y_B_value y_B_value ∈ wG := wG_tb 424 rfl rfl
set_option maxRecDepth 20000 in
theorem wd_425 : Cond.code y_B_value c_B_value 2 (some .int) ∈ wG := wG_tb 425 rfl rfl
set_option maxRecDepth 20000 in
theorem wd_427 : Cond.instanceMethod y_B_kind ∈ wG := wG_tb 427 rfl rfl
set_option maxRecDepth 20000 in
theorem wd_428 : Cond.selects gC_B y_B_kind y_B_kind ∈ wG := wG_tb 428 rfl rfl
set_option maxRecDepth 20000 in
theorem wd_429 : Cond.code y_B_kind c_B_kind 2 (some .int) ∈ wG := wG_tb 429 rfl rfl
set_option maxRecDepth 20000 in
theorem wd_431 : Cond.instanceMethod y_B_uses ∈ wG := wG_tb 431 rfl rfl
set_option maxRecDepth 20000 in
theorem wd_432 : Cond.selects gC_B y_B_uses y_B_uses ∈ wG := wG_tb 432 rfl rfl
set_option maxRecDepth 20000 in
theorem wd_433 : Cond.code y_B_uses c_B_uses 2 (some .int) ∈ wG := wG_tb 433 rfl rfl
set_option maxRecDepth 20000 in
theorem wd_435 : Cond.instanceMethod y_B_runs ∈ wG := wG_tb 435 rfl rfl
set_option maxRecDepth 20000 in
theorem wd_436 : Cond.selects gC_B y_B_runs y_B_runs ∈ wG := wG_tb 436 rfl rfl
set_option maxRecDepth 20000 in
theorem wd_437 : Cond.code y_B_runs c_B_runs 2 (some .int) ∈ wG := wG_tb 437 rfl rfl
set_option maxRecDepth 20000 in
theorem wd_439 : Cond.instanceMethod y_B_steps ∈ wG := wG_tb 439 rfl rfl
set_option maxRecDepth 20000 in
theorem wd_440 : Cond.selects gC_B y_B_steps y_B_steps ∈ wG := wG_tb 440 rfl rfl
set_option maxRecDepth 20000 in
theorem wd_441 : Cond.code y_B_steps c_B_steps 1 (some .int) ∈ wG := wG_tb 441 rfl rfl
set_option maxRecDepth 20000 in
theorem wd_443 : Cond.instantiable gC_Mo 31 ∈ wG := wG_tb 443 rfl rfl
set_option maxRecDepth 20000 in
theorem wd_445 : Cond.instanceMethod y_Mo_init ∈ wG := wG_tb 445 rfl rfl
set_option maxRecDepth 20000 in
theorem wd_446 : Cond.code y_Mo_init c_Mo_init 2 none ∈ wG := wG_tb 446 rfl rfl
set_option maxRecDepth 20000 in
theorem wd_448 : Cond.fieldLink gC_Mo 7 (gT_Mo 0).1 (gT_Mo 0).2.1 (gT_Mo 0).2.2.1 ∈ wG := wG_tb 448 rfl rfl
set_option maxRecDepth 20000 in
theorem wd_449 : Cond.fieldLink gC_Mo 75 (gT_Mo 1).1 (gT_Mo 1).2.1 (gT_Mo 1).2.2.1 ∈ wG := wG_tb 449 rfl rfl
set_option maxRecDepth 20000 in
theorem wd_450 : Cond.fieldLink gC_Mo 13 (gT_Mo 2).1 (gT_Mo 2).2.1 (gT_Mo 2).2.2.1 ∈ wG := wG_tb 450 rfl rfl
set_option maxRecDepth 20000 in
theorem wd_451 : Cond.fieldLink gC_Mo 16 (gT_Mo 3).1 (gT_Mo 3).2.1 (gT_Mo 3).2.2.1 ∈ wG := wG_tb 451 rfl rfl
set_option maxRecDepth 20000 in
theorem wd_452 : Cond.fieldLink gC_Mo 20 (gT_Mo 4).1 (gT_Mo 4).2.1 (gT_Mo 4).2.2.1 ∈ wG := wG_tb 452 rfl rfl
set_option maxRecDepth 20000 in
theorem wd_453 : Cond.fieldLink gC_Mo 23 (gT_Mo 5).1 (gT_Mo 5).2.1 (gT_Mo 5).2.2.1 ∈ wG := wG_tb 453 rfl rfl
set_option maxRecDepth 20000 in
theorem wd_454 : Cond.fieldLink gC_Mo 26 (gT_Mo 6).1 (gT_Mo 6).2.1 (gT_Mo 6).2.2.1 ∈ wG := wG_tb 454 rfl rfl
set_option maxRecDepth 20000 in
theorem wd_455 : Cond.fieldLink gC_Mo 30 (gT_Mo 7).1 (gT_Mo 7).2.1 (gT_Mo 7).2.2.1 ∈ wG := wG_tb 455 rfl rfl
set_option maxRecDepth 20000 in
theorem wd_456 : Cond.fieldLink gC_Mo 33 (gT_Mo 8).1 (gT_Mo 8).2.1 (gT_Mo 8).2.2.1 ∈ wG := wG_tb 456 rfl rfl
set_option maxRecDepth 20000 in
theorem wd_457 : Cond.fieldLink gC_Mo 36 (gT_Mo 9).1 (gT_Mo 9).2.1 (gT_Mo 9).2.2.1 ∈ wG := wG_tb 457 rfl rfl
set_option maxRecDepth 20000 in
theorem wd_458 : Cond.fieldLink gC_Mo 39 (gT_Mo 10).1 (gT_Mo 10).2.1 (gT_Mo 10).2.2.1 ∈ wG := wG_tb 458 rfl rfl
set_option maxRecDepth 20000 in
theorem wd_459 : Cond.fieldLink gC_Mo 42 (gT_Mo 11).1 (gT_Mo 11).2.1 (gT_Mo 11).2.2.1 ∈ wG := wG_tb 459 rfl rfl
set_option maxRecDepth 20000 in
theorem wd_460 : Cond.fieldLink gC_Mo 45 (gT_Mo 12).1 (gT_Mo 12).2.1 (gT_Mo 12).2.2.1 ∈ wG := wG_tb 460 rfl rfl
set_option maxRecDepth 20000 in
theorem wd_461 : Cond.fieldLink gC_Mo 48 (gT_Mo 13).1 (gT_Mo 13).2.1 (gT_Mo 13).2.2.1 ∈ wG := wG_tb 461 rfl rfl
set_option maxRecDepth 20000 in
theorem wd_462 : Cond.fieldLink gC_Mo 179 (gT_Mo 14).1 (gT_Mo 14).2.1 (gT_Mo 14).2.2.1 ∈ wG := wG_tb 462 rfl rfl
set_option maxRecDepth 20000 in
theorem wd_463 : Cond.fieldLink gC_Mo 51 (gT_Mo 15).1 (gT_Mo 15).2.1 (gT_Mo 15).2.2.1 ∈ wG := wG_tb 463 rfl rfl
set_option maxRecDepth 20000 in
theorem wd_464 : Cond.fieldLink gC_Mo 92 (gT_Mo 16).1 (gT_Mo 16).2.1 (gT_Mo 16).2.2.1 ∈ wG := wG_tb 464 rfl rfl
set_option maxRecDepth 20000 in
theorem wd_465 : Cond.fieldLink gC_Mo 85 (gT_Mo 17).1 (gT_Mo 17).2.1 (gT_Mo 17).2.2.1 ∈ wG := wG_tb 465 rfl rfl
set_option maxRecDepth 20000 in
theorem wd_466 : Cond.fieldLink gC_Mo 54 (gT_Mo 18).1 (gT_Mo 18).2.1 (gT_Mo 18).2.2.1 ∈ wG := wG_tb 466 rfl rfl
set_option maxRecDepth 20000 in
theorem wd_467 : Cond.fieldLink gC_Mo 57 (gT_Mo 19).1 (gT_Mo 19).2.1 (gT_Mo 19).2.2.1 ∈ wG := wG_tb 467 rfl rfl
set_option maxRecDepth 20000 in
theorem wd_468 : Cond.fieldLink gC_Mo 151 (gT_Mo 20).1 (gT_Mo 20).2.1 (gT_Mo 20).2.2.1 ∈ wG := wG_tb 468 rfl rfl
set_option maxRecDepth 20000 in
theorem wd_469 : Cond.fieldLink gC_Mo 60 (gT_Mo 21).1 (gT_Mo 21).2.1 (gT_Mo 21).2.2.1 ∈ wG := wG_tb 469 rfl rfl
set_option maxRecDepth 20000 in
theorem wd_470 : Cond.fieldLink gC_Mo 63 (gT_Mo 22).1 (gT_Mo 22).2.1 (gT_Mo 22).2.2.1 ∈ wG := wG_tb 470 rfl rfl
set_option maxRecDepth 20000 in
theorem wd_471 : Cond.fieldLink gC_Mo 66 (gT_Mo 23).1 (gT_Mo 23).2.1 (gT_Mo 23).2.2.1 ∈ wG := wG_tb 471 rfl rfl
set_option maxRecDepth 20000 in
theorem wd_472 : Cond.fieldLink gC_Mo 69 (gT_Mo 24).1 (gT_Mo 24).2.1 (gT_Mo 24).2.2.1 ∈ wG := wG_tb 472 rfl rfl
set_option maxRecDepth 20000 in
theorem wd_473 : Cond.fieldLink gC_Mo 182 (gT_Mo 25).1 (gT_Mo 25).2.1 (gT_Mo 25).2.2.1 ∈ wG := wG_tb 473 rfl rfl
set_option maxRecDepth 20000 in
theorem wd_474 : Cond.fieldLink gC_Mo 72 (gT_Mo 26).1 (gT_Mo 26).2.1 (gT_Mo 26).2.2.1 ∈ wG := wG_tb 474 rfl rfl
set_option maxRecDepth 20000 in
theorem wd_475 : Cond.fieldLink gC_Mo 191 (gT_Mo 27).1 (gT_Mo 27).2.1 (gT_Mo 27).2.2.1 ∈ wG := wG_tb 475 rfl rfl
set_option maxRecDepth 20000 in
theorem wd_476 : Cond.fieldLink gC_Mo 173 (gT_Mo 28).1 (gT_Mo 28).2.1 (gT_Mo 28).2.2.1 ∈ wG := wG_tb 476 rfl rfl
set_option maxRecDepth 20000 in
theorem wd_477 : Cond.fieldLink gC_Mo 185 (gT_Mo 29).1 (gT_Mo 29).2.1 (gT_Mo 29).2.2.1 ∈ wG := wG_tb 477 rfl rfl
set_option maxRecDepth 20000 in
theorem wd_478 : Cond.fieldLink gC_Mo 176 (gT_Mo 30).1 (gT_Mo 30).2.1 (gT_Mo 30).2.2.1 ∈ wG := wG_tb 478 rfl rfl
set_option maxRecDepth 20000 in
theorem wd_544 : Cond.instanceMethod y_Mo_type ∈ wG := wG_tb 544 rfl rfl
set_option maxRecDepth 20000 in
theorem wd_545 : Cond.selects gC_Mo y_Mo_type y_Mo_type ∈ wG := wG_tb 545 rfl rfl
set_option maxRecDepth 20000 in
theorem wd_546 : Cond.code y_Mo_type c_Mo_type 7 (some .int) ∈ wG := wG_tb 546 rfl rfl
set_option maxRecDepth 20000 in
theorem wd_547 : Cond.constantLong "CellBookModel" (79 : Nat) (255 : Int64) ∈ wG := wG_tb 547 rfl rfl
set_option maxRecDepth 20000 in
theorem wd_548 : Cond.constantLong "CellBookModel" (81 : Nat) (33 : Int64) ∈ wG := wG_tb 548 rfl rfl
set_option maxRecDepth 20000 in
theorem wd_549 : Cond.constantLong "CellBookModel" (83 : Nat) (126 : Int64) ∈ wG := wG_tb 549 rfl rfl
set_option maxRecDepth 20000 in
theorem wd_551 : Cond.instanceMethod y_Mo_set ∈ wG := wG_tb 551 rfl rfl
set_option maxRecDepth 20000 in
theorem wd_552 : Cond.selects gC_Mo y_Mo_set y_Mo_set ∈ wG := wG_tb 552 rfl rfl
set_option maxRecDepth 20000 in
theorem wd_553 : Cond.code y_Mo_set c_Mo_set 5 (some .boolean) ∈ wG := wG_tb 553 rfl rfl
set_option maxRecDepth 20000 in
theorem wd_554 : Cond.methodLink gC_Mo 138 y_Mo_isCell ∈ wG := wG_tb 554 rfl rfl
set_option maxRecDepth 20000 in
theorem wd_555 : Cond.static y_Mo_isCell ∈ wG := wG_tb 555 rfl rfl
set_option maxRecDepth 20000 in
theorem wd_556 : Cond.code y_Mo_isCell c_Mo_isCell 1 (some .boolean) ∈ wG := wG_tb 556 rfl rfl
set_option maxRecDepth 20000 in
theorem wd_557 : Cond.methodLink gC_Mo 141 y_Mo_reads ∈ wG := wG_tb 557 rfl rfl
set_option maxRecDepth 20000 in
theorem wd_559 : Cond.instanceMethod y_Mo_reads ∈ wG := wG_tb 559 rfl rfl
set_option maxRecDepth 20000 in
theorem wd_560 : Cond.code y_Mo_reads c_Mo_reads 4 (some .boolean) ∈ wG := wG_tb 560 rfl rfl
set_option maxRecDepth 20000 in
theorem wd_561 : Cond.methodLink gC_Mo 88 y_Mo_charAt ∈ wG := wG_tb 561 rfl rfl
set_option maxRecDepth 20000 in
theorem wd_563 : Cond.instanceMethod y_Mo_charAt ∈ wG := wG_tb 563 rfl rfl
set_option maxRecDepth 20000 in
theorem wd_564 : Cond.code y_Mo_charAt c_Mo_charAt 3 (some .char) ∈ wG := wG_tb 564 rfl rfl
set_option maxRecDepth 20000 in
theorem wd_565 : Cond.methodLink gC_Mo 102 y_Mo_isLocal ∈ wG := wG_tb 565 rfl rfl
set_option maxRecDepth 20000 in
theorem wd_566 : Cond.static y_Mo_isLocal ∈ wG := wG_tb 566 rfl rfl
set_option maxRecDepth 20000 in
theorem wd_567 : Cond.code y_Mo_isLocal c_Mo_isLocal 1 (some .boolean) ∈ wG := wG_tb 567 rfl rfl
set_option maxRecDepth 20000 in
theorem wd_568 : Cond.methodLink gC_Mo 105 y_Mo_come ∈ wG := wG_tb 568 rfl rfl
set_option maxRecDepth 20000 in
theorem wd_570 : Cond.instanceMethod y_Mo_come ∈ wG := wG_tb 570 rfl rfl
set_option maxRecDepth 20000 in
theorem wd_571 : Cond.code y_Mo_come c_Mo_come 2 none ∈ wG := wG_tb 571 rfl rfl
set_option maxRecDepth 20000 in
theorem wd_572 : Cond.methodLink gC_Mo 95 y_Mo_isDigit ∈ wG := wG_tb 572 rfl rfl
set_option maxRecDepth 20000 in
theorem wd_573 : Cond.static y_Mo_isDigit ∈ wG := wG_tb 573 rfl rfl
set_option maxRecDepth 20000 in
theorem wd_574 : Cond.code y_Mo_isDigit c_Mo_isDigit 1 (some .boolean) ∈ wG := wG_tb 574 rfl rfl
set_option maxRecDepth 20000 in
theorem wd_575 : Cond.methodLink gC_Mo 112 y_Mo_readOne ∈ wG := wG_tb 575 rfl rfl
set_option maxRecDepth 20000 in
theorem wd_577 : Cond.instanceMethod y_Mo_readOne ∈ wG := wG_tb 577 rfl rfl
set_option maxRecDepth 20000 in
theorem wd_578 : Cond.code y_Mo_readOne c_Mo_readOne 7 (some .int) ∈ wG := wG_tb 578 rfl rfl
set_option maxRecDepth 20000 in
theorem wd_579 : Cond.methodLink gC_Mo 99 y_Mo_isName ∈ wG := wG_tb 579 rfl rfl
set_option maxRecDepth 20000 in
theorem wd_580 : Cond.static y_Mo_isName ∈ wG := wG_tb 580 rfl rfl
set_option maxRecDepth 20000 in
theorem wd_581 : Cond.code y_Mo_isName c_Mo_isName 1 (some .boolean) ∈ wG := wG_tb 581 rfl rfl
set_option maxRecDepth 20000 in
theorem wd_582 : Cond.methodLink gC_Mo 109 y_Mo_isBinary ∈ wG := wG_tb 582 rfl rfl
set_option maxRecDepth 20000 in
theorem wd_583 : Cond.static y_Mo_isBinary ∈ wG := wG_tb 583 rfl rfl
set_option maxRecDepth 20000 in
theorem wd_584 : Cond.code y_Mo_isBinary c_Mo_isBinary 1 (some .boolean) ∈ wG := wG_tb 584 rfl rfl
set_option maxRecDepth 20000 in
theorem wd_585 : Cond.methodLink gC_Mo 144 y_Mo_findEnds ∈ wG := wG_tb 585 rfl rfl
set_option maxRecDepth 20000 in
theorem wd_587 : Cond.instanceMethod y_Mo_findEnds ∈ wG := wG_tb 587 rfl rfl
set_option maxRecDepth 20000 in
theorem wd_588 : Cond.code y_Mo_findEnds c_Mo_findEnds 7 none ∈ wG := wG_tb 588 rfl rfl
set_option maxRecDepth 20000 in
theorem wd_589 : Cond.methodLink gC_Mo 116 y_Mo_isFunction ∈ wG := wG_tb 589 rfl rfl
set_option maxRecDepth 20000 in
theorem wd_591 : Cond.instanceMethod y_Mo_isFunction ∈ wG := wG_tb 591 rfl rfl
set_option maxRecDepth 20000 in
theorem wd_592 : Cond.code y_Mo_isFunction c_Mo_isFunction 2 (some .boolean) ∈ wG := wG_tb 592 rfl rfl
set_option maxRecDepth 20000 in
theorem wd_593 : Cond.methodLink gC_Mo 120 y_Mo_operands ∈ wG := wG_tb 593 rfl rfl
set_option maxRecDepth 20000 in
theorem wd_594 : Cond.static y_Mo_operands ∈ wG := wG_tb 594 rfl rfl
set_option maxRecDepth 20000 in
theorem wd_595 : Cond.code y_Mo_operands c_Mo_operands 1 (some .int) ∈ wG := wG_tb 595 rfl rfl
set_option maxRecDepth 20000 in
theorem wd_596 : Cond.methodLink gC_Mo 147 y_Mo_becomes ∈ wG := wG_tb 596 rfl rfl
set_option maxRecDepth 20000 in
theorem wd_598 : Cond.instanceMethod y_Mo_becomes ∈ wG := wG_tb 598 rfl rfl
set_option maxRecDepth 20000 in
theorem wd_599 : Cond.code y_Mo_becomes c_Mo_becomes 8 none ∈ wG := wG_tb 599 rfl rfl
set_option maxRecDepth 20000 in
theorem wd_600 : Cond.methodLink gC_Mo 124 y_Mo_isThere ∈ wG := wG_tb 600 rfl rfl
set_option maxRecDepth 20000 in
theorem wd_602 : Cond.instanceMethod y_Mo_isThere ∈ wG := wG_tb 602 rfl rfl
set_option maxRecDepth 20000 in
theorem wd_603 : Cond.code y_Mo_isThere c_Mo_isThere 2 (some .boolean) ∈ wG := wG_tb 603 rfl rfl
set_option maxRecDepth 20000 in
theorem wd_604 : Cond.methodLink gC_Mo 127 y_Mo_needs ∈ wG := wG_tb 604 rfl rfl
set_option maxRecDepth 20000 in
theorem wd_606 : Cond.instanceMethod y_Mo_needs ∈ wG := wG_tb 606 rfl rfl
set_option maxRecDepth 20000 in
theorem wd_607 : Cond.code y_Mo_needs c_Mo_needs 3 (some .boolean) ∈ wG := wG_tb 607 rfl rfl
set_option maxRecDepth 20000 in
theorem wd_609 : Cond.instanceMethod y_Mo_remove ∈ wG := wG_tb 609 rfl rfl
set_option maxRecDepth 20000 in
theorem wd_610 : Cond.selects gC_Mo y_Mo_remove y_Mo_remove ∈ wG := wG_tb 610 rfl rfl
set_option maxRecDepth 20000 in
theorem wd_611 : Cond.code y_Mo_remove c_Mo_remove 3 (some .boolean) ∈ wG := wG_tb 611 rfl rfl
set_option maxRecDepth 20000 in
theorem wd_613 : Cond.instanceMethod y_Mo_work ∈ wG := wG_tb 613 rfl rfl
set_option maxRecDepth 20000 in
theorem wd_614 : Cond.selects gC_Mo y_Mo_work y_Mo_work ∈ wG := wG_tb 614 rfl rfl
set_option maxRecDepth 20000 in
theorem wd_615 : Cond.code y_Mo_work c_Mo_work 3 (some .int) ∈ wG := wG_tb 615 rfl rfl
set_option maxRecDepth 20000 in
theorem wd_616 : Cond.methodLink gC_Mo 236 y_Mo_workOnce ∈ wG := wG_tb 616 rfl rfl
set_option maxRecDepth 20000 in
theorem wd_618 : Cond.instanceMethod y_Mo_workOnce ∈ wG := wG_tb 618 rfl rfl
set_option maxRecDepth 20000 in
theorem wd_619 : Cond.code y_Mo_workOnce c_Mo_workOnce 2 (some .boolean) ∈ wG := wG_tb 619 rfl rfl
set_option maxRecDepth 20000 in
theorem wd_620 : Cond.methodLink gC_Mo 230 y_Mo_isReady ∈ wG := wG_tb 620 rfl rfl
set_option maxRecDepth 20000 in
theorem wd_622 : Cond.instanceMethod y_Mo_isReady ∈ wG := wG_tb 622 rfl rfl
set_option maxRecDepth 20000 in
theorem wd_623 : Cond.code y_Mo_isReady c_Mo_isReady 4 (some .boolean) ∈ wG := wG_tb 623 rfl rfl
set_option maxRecDepth 20000 in
theorem wd_624 : Cond.methodLink gC_Mo 218 y_Mo_fault ∈ wG := wG_tb 624 rfl rfl
set_option maxRecDepth 20000 in
theorem wd_626 : Cond.instanceMethod y_Mo_fault ∈ wG := wG_tb 626 rfl rfl
set_option maxRecDepth 20000 in
theorem wd_627 : Cond.code y_Mo_fault c_Mo_fault 4 (some .int) ∈ wG := wG_tb 627 rfl rfl
set_option maxRecDepth 20000 in
theorem wd_628 : Cond.methodLink gC_Mo 131 y_Mo_definer ∈ wG := wG_tb 628 rfl rfl
set_option maxRecDepth 20000 in
theorem wd_630 : Cond.instanceMethod y_Mo_definer ∈ wG := wG_tb 630 rfl rfl
set_option maxRecDepth 20000 in
theorem wd_631 : Cond.code y_Mo_definer c_Mo_definer 4 (some .int) ∈ wG := wG_tb 631 rfl rfl
set_option maxRecDepth 20000 in
theorem wd_632 : Cond.methodLink gC_Mo 135 y_Mo_cycles ∈ wG := wG_tb 632 rfl rfl
set_option maxRecDepth 20000 in
theorem wd_634 : Cond.instanceMethod y_Mo_cycles ∈ wG := wG_tb 634 rfl rfl
set_option maxRecDepth 20000 in
theorem wd_635 : Cond.code y_Mo_cycles c_Mo_cycles 6 (some .boolean) ∈ wG := wG_tb 635 rfl rfl
set_option maxRecDepth 20000 in
theorem wd_636 : Cond.methodLink gC_Mo 233 y_Mo_workOut ∈ wG := wG_tb 636 rfl rfl
set_option maxRecDepth 20000 in
theorem wd_638 : Cond.instanceMethod y_Mo_workOut ∈ wG := wG_tb 638 rfl rfl
set_option maxRecDepth 20000 in
theorem wd_639 : Cond.code y_Mo_workOut c_Mo_workOut 5 none ∈ wG := wG_tb 639 rfl rfl
set_option maxRecDepth 20000 in
theorem wd_640 : Cond.methodLink gC_Mo 221 y_Mo_blocks ∈ wG := wG_tb 640 rfl rfl
set_option maxRecDepth 20000 in
theorem wd_642 : Cond.instanceMethod y_Mo_blocks ∈ wG := wG_tb 642 rfl rfl
set_option maxRecDepth 20000 in
theorem wd_643 : Cond.code y_Mo_blocks c_Mo_blocks 2 (some .boolean) ∈ wG := wG_tb 643 rfl rfl
set_option maxRecDepth 20000 in
theorem wd_644 : Cond.methodLink gC_Mo 224 y_Mo_typeOf ∈ wG := wG_tb 644 rfl rfl
set_option maxRecDepth 20000 in
theorem wd_646 : Cond.instanceMethod y_Mo_typeOf ∈ wG := wG_tb 646 rfl rfl
set_option maxRecDepth 20000 in
theorem wd_647 : Cond.code y_Mo_typeOf c_Mo_typeOf 7 (some .int) ∈ wG := wG_tb 647 rfl rfl
set_option maxRecDepth 20000 in
theorem wd_648 : Cond.methodLink gC_Mo 161 y_Mo_ownName ∈ wG := wG_tb 648 rfl rfl
set_option maxRecDepth 20000 in
theorem wd_650 : Cond.instanceMethod y_Mo_ownName ∈ wG := wG_tb 650 rfl rfl
set_option maxRecDepth 20000 in
theorem wd_651 : Cond.code y_Mo_ownName c_Mo_ownName 3 (some .boolean) ∈ wG := wG_tb 651 rfl rfl
set_option maxRecDepth 20000 in
theorem wd_652 : Cond.methodLink gC_Mo 164 y_Mo_typeOfName ∈ wG := wG_tb 652 rfl rfl
set_option maxRecDepth 20000 in
theorem wd_654 : Cond.instanceMethod y_Mo_typeOfName ∈ wG := wG_tb 654 rfl rfl
set_option maxRecDepth 20000 in
theorem wd_655 : Cond.code y_Mo_typeOfName c_Mo_typeOfName 3 (some .int) ∈ wG := wG_tb 655 rfl rfl
set_option maxRecDepth 20000 in
theorem wd_656 : Cond.methodLink gC_Mo 167 y_Mo_typeOver ∈ wG := wG_tb 656 rfl rfl
set_option maxRecDepth 20000 in
theorem wd_658 : Cond.instanceMethod y_Mo_typeOver ∈ wG := wG_tb 658 rfl rfl
set_option maxRecDepth 20000 in
theorem wd_659 : Cond.code y_Mo_typeOver c_Mo_typeOver 7 (some .int) ∈ wG := wG_tb 659 rfl rfl
set_option maxRecDepth 20000 in
theorem wd_660 : Cond.methodLink gC_Mo 154 y_Mo_popType ∈ wG := wG_tb 660 rfl rfl
set_option maxRecDepth 20000 in
theorem wd_662 : Cond.instanceMethod y_Mo_popType ∈ wG := wG_tb 662 rfl rfl
set_option maxRecDepth 20000 in
theorem wd_663 : Cond.code y_Mo_popType c_Mo_popType 1 (some .int) ∈ wG := wG_tb 663 rfl rfl
set_option maxRecDepth 20000 in
theorem wd_664 : Cond.methodLink gC_Mo 158 y_Mo_isFunctionName ∈ wG := wG_tb 664 rfl rfl
set_option maxRecDepth 20000 in
theorem wd_666 : Cond.instanceMethod y_Mo_isFunctionName ∈ wG := wG_tb 666 rfl rfl
set_option maxRecDepth 20000 in
theorem wd_667 : Cond.code y_Mo_isFunctionName c_Mo_isFunctionName 4 (some .boolean) ∈ wG := wG_tb 667 rfl rfl
set_option maxRecDepth 20000 in
theorem wd_668 : Cond.methodLink gC_Mo 170 y_Mo_pushType ∈ wG := wG_tb 668 rfl rfl
set_option maxRecDepth 20000 in
theorem wd_670 : Cond.instanceMethod y_Mo_pushType ∈ wG := wG_tb 670 rfl rfl
set_option maxRecDepth 20000 in
theorem wd_671 : Cond.code y_Mo_pushType c_Mo_pushType 2 none ∈ wG := wG_tb 671 rfl rfl
set_option maxRecDepth 20000 in
theorem wd_672 : Cond.methodLink gC_Mo 227 y_Mo_evaluate ∈ wG := wG_tb 672 rfl rfl
set_option maxRecDepth 20000 in
theorem wd_674 : Cond.instanceMethod y_Mo_evaluate ∈ wG := wG_tb 674 rfl rfl
set_option maxRecDepth 20000 in
theorem wd_675 : Cond.code y_Mo_evaluate c_Mo_evaluate 3 none ∈ wG := wG_tb 675 rfl rfl
set_option maxRecDepth 20000 in
theorem wd_676 : Cond.methodLink gC_Mo 194 y_Mo_enter ∈ wG := wG_tb 676 rfl rfl
set_option maxRecDepth 20000 in
theorem wd_678 : Cond.instanceMethod y_Mo_enter ∈ wG := wG_tb 678 rfl rfl
set_option maxRecDepth 20000 in
theorem wd_679 : Cond.code y_Mo_enter c_Mo_enter 3 none ∈ wG := wG_tb 679 rfl rfl
set_option maxRecDepth 20000 in
theorem wd_680 : Cond.methodLink gC_Mo 215 y_Mo_goOn ∈ wG := wG_tb 680 rfl rfl
set_option maxRecDepth 20000 in
theorem wd_682 : Cond.instanceMethod y_Mo_goOn ∈ wG := wG_tb 682 rfl rfl
set_option maxRecDepth 20000 in
theorem wd_683 : Cond.code y_Mo_goOn c_Mo_goOn 6 none ∈ wG := wG_tb 683 rfl rfl
set_option maxRecDepth 20000 in
theorem wd_684 : Cond.methodLink gC_Mo 188 y_Mo_leave ∈ wG := wG_tb 684 rfl rfl
set_option maxRecDepth 20000 in
theorem wd_686 : Cond.instanceMethod y_Mo_leave ∈ wG := wG_tb 686 rfl rfl
set_option maxRecDepth 20000 in
theorem wd_687 : Cond.code y_Mo_leave c_Mo_leave 2 none ∈ wG := wG_tb 687 rfl rfl
set_option maxRecDepth 20000 in
theorem wd_688 : Cond.methodLink gC_Mo 197 y_Mo_branch ∈ wG := wG_tb 688 rfl rfl
set_option maxRecDepth 20000 in
theorem wd_690 : Cond.instanceMethod y_Mo_branch ∈ wG := wG_tb 690 rfl rfl
set_option maxRecDepth 20000 in
theorem wd_691 : Cond.code y_Mo_branch c_Mo_branch 7 none ∈ wG := wG_tb 691 rfl rfl
set_option maxRecDepth 20000 in
theorem wd_692 : Cond.methodLink gC_Mo 201 y_Mo_let ∈ wG := wG_tb 692 rfl rfl
set_option maxRecDepth 20000 in
theorem wd_694 : Cond.instanceMethod y_Mo_let ∈ wG := wG_tb 694 rfl rfl
set_option maxRecDepth 20000 in
theorem wd_695 : Cond.code y_Mo_let c_Mo_let 6 none ∈ wG := wG_tb 695 rfl rfl
set_option maxRecDepth 20000 in
theorem wd_696 : Cond.methodLink gC_Mo 204 y_Mo_call ∈ wG := wG_tb 696 rfl rfl
set_option maxRecDepth 20000 in
theorem wd_698 : Cond.instanceMethod y_Mo_call ∈ wG := wG_tb 698 rfl rfl
set_option maxRecDepth 20000 in
theorem wd_699 : Cond.code y_Mo_call c_Mo_call 5 none ∈ wG := wG_tb 699 rfl rfl
set_option maxRecDepth 20000 in
theorem wd_700 : Cond.methodLink gC_Mo 208 y_Mo_match ∈ wG := wG_tb 700 rfl rfl
set_option maxRecDepth 20000 in
theorem wd_702 : Cond.instanceMethod y_Mo_match ∈ wG := wG_tb 702 rfl rfl
set_option maxRecDepth 20000 in
theorem wd_703 : Cond.code y_Mo_match c_Mo_match 7 none ∈ wG := wG_tb 703 rfl rfl
set_option maxRecDepth 20000 in
theorem wd_704 : Cond.methodLink gC_Mo 211 y_Mo_joined ∈ wG := wG_tb 704 rfl rfl
set_option maxRecDepth 20000 in
theorem wd_706 : Cond.instanceMethod y_Mo_joined ∈ wG := wG_tb 706 rfl rfl
set_option maxRecDepth 20000 in
theorem wd_707 : Cond.code y_Mo_joined c_Mo_joined 4 (some .int) ∈ wG := wG_tb 707 rfl rfl
set_option maxRecDepth 20000 in
theorem wd_709 : Cond.instanceMethod y_Mo_cancel ∈ wG := wG_tb 709 rfl rfl
set_option maxRecDepth 20000 in
theorem wd_710 : Cond.selects gC_Mo y_Mo_cancel y_Mo_cancel ∈ wG := wG_tb 710 rfl rfl
set_option maxRecDepth 20000 in
theorem wd_711 : Cond.code y_Mo_cancel c_Mo_cancel 2 (some .boolean) ∈ wG := wG_tb 711 rfl rfl
set_option maxRecDepth 20000 in
theorem wd_713 : Cond.instanceMethod y_Mo_status ∈ wG := wG_tb 713 rfl rfl
set_option maxRecDepth 20000 in
theorem wd_714 : Cond.selects gC_Mo y_Mo_status y_Mo_status ∈ wG := wG_tb 714 rfl rfl
set_option maxRecDepth 20000 in
theorem wd_715 : Cond.code y_Mo_status c_Mo_status 3 (some .int) ∈ wG := wG_tb 715 rfl rfl
set_option maxRecDepth 20000 in
theorem wd_717 : Cond.instanceMethod y_Mo_value ∈ wG := wG_tb 717 rfl rfl
set_option maxRecDepth 20000 in
theorem wd_718 : Cond.selects gC_Mo y_Mo_value y_Mo_value ∈ wG := wG_tb 718 rfl rfl
set_option maxRecDepth 20000 in
theorem wd_719 : Cond.code y_Mo_value c_Mo_value 2 (some .int) ∈ wG := wG_tb 719 rfl rfl
set_option maxRecDepth 20000 in
theorem wd_720 : Cond.methodLink gC_Mo 240 y_Mo_status ∈ wG := wG_tb 720 rfl rfl
set_option maxRecDepth 20000 in
theorem wd_722 : Cond.instanceMethod y_Mo_kind ∈ wG := wG_tb 722 rfl rfl
set_option maxRecDepth 20000 in
theorem wd_723 : Cond.selects gC_Mo y_Mo_kind y_Mo_kind ∈ wG := wG_tb 723 rfl rfl
set_option maxRecDepth 20000 in
theorem wd_724 : Cond.code y_Mo_kind c_Mo_kind 2 (some .int) ∈ wG := wG_tb 724 rfl rfl
set_option maxRecDepth 20000 in
theorem wd_726 : Cond.instanceMethod y_Mo_uses ∈ wG := wG_tb 726 rfl rfl
set_option maxRecDepth 20000 in
theorem wd_727 : Cond.selects gC_Mo y_Mo_uses y_Mo_uses ∈ wG := wG_tb 727 rfl rfl
set_option maxRecDepth 20000 in
theorem wd_728 : Cond.code y_Mo_uses c_Mo_uses 2 (some .int) ∈ wG := wG_tb 728 rfl rfl
set_option maxRecDepth 20000 in
theorem wd_730 : Cond.instanceMethod y_Mo_runs ∈ wG := wG_tb 730 rfl rfl
set_option maxRecDepth 20000 in
theorem wd_731 : Cond.selects gC_Mo y_Mo_runs y_Mo_runs ∈ wG := wG_tb 731 rfl rfl
set_option maxRecDepth 20000 in
theorem wd_732 : Cond.code y_Mo_runs c_Mo_runs 2 (some .int) ∈ wG := wG_tb 732 rfl rfl
set_option maxRecDepth 20000 in
theorem wd_734 : Cond.instanceMethod y_Mo_steps ∈ wG := wG_tb 734 rfl rfl
set_option maxRecDepth 20000 in
theorem wd_735 : Cond.selects gC_Mo y_Mo_steps y_Mo_steps ∈ wG := wG_tb 735 rfl rfl
set_option maxRecDepth 20000 in
theorem wd_736 : Cond.code y_Mo_steps c_Mo_steps 1 (some .int) ∈ wG := wG_tb 736 rfl rfl
theorem ws_0 : Cond.selects gC_Te y_Te_readExpression y_Te_readExpression ∈ wG := wG_in (List.mem_append_left _ (List.mem_map.mpr ⟨(y_Te_readExpression, 6), List.mem_of_getElem? (i := 0) rfl, rfl⟩)) rfl
theorem ws_1 : Cond.selects gC_Te y_Te_readSign y_Te_readSign ∈ wG := wG_in (List.mem_append_left _ (List.mem_map.mpr ⟨(y_Te_readSign, 6), List.mem_of_getElem? (i := 1) rfl, rfl⟩)) rfl
theorem ws_2 : Cond.selects gC_Te y_Te_readExpressions y_Te_readExpressions ∈ wG := wG_in (List.mem_append_left _ (List.mem_map.mpr ⟨(y_Te_readExpressions, 6), List.mem_of_getElem? (i := 2) rfl, rfl⟩)) rfl
theorem ws_3 : Cond.selects gC_Te y_Te_readBinding y_Te_readBinding ∈ wG := wG_in (List.mem_append_left _ (List.mem_map.mpr ⟨(y_Te_readBinding, 6), List.mem_of_getElem? (i := 3) rfl, rfl⟩)) rfl
theorem ws_4 : Cond.selects gC_Te y_Te_readName y_Te_readName ∈ wG := wG_in (List.mem_append_left _ (List.mem_map.mpr ⟨(y_Te_readName, 6), List.mem_of_getElem? (i := 4) rfl, rfl⟩)) rfl
theorem ws_5 : Cond.selects gC_Te y_Te_readMatch y_Te_readMatch ∈ wG := wG_in (List.mem_append_left _ (List.mem_map.mpr ⟨(y_Te_readMatch, 6), List.mem_of_getElem? (i := 5) rfl, rfl⟩)) rfl
theorem ws_6 : Cond.selects gC_Te y_Te_readLeaf y_Te_readLeaf ∈ wG := wG_in (List.mem_append_left _ (List.mem_map.mpr ⟨(y_Te_readLeaf, 6), List.mem_of_getElem? (i := 6) rfl, rfl⟩)) rfl
theorem ws_7 : Cond.selects gC_B y_B_follow y_B_follow ∈ wG := wG_in (List.mem_append_left _ (List.mem_map.mpr ⟨(y_B_follow, 6), List.mem_of_getElem? (i := 7) rfl, rfl⟩)) rfl
theorem ws_8 : Cond.selects gC_B y_B_findDefiners y_B_findDefiners ∈ wG := wG_in (List.mem_append_left _ (List.mem_map.mpr ⟨(y_B_findDefiners, 6), List.mem_of_getElem? (i := 8) rfl, rfl⟩)) rfl
theorem ws_9 : Cond.selects gC_B y_B_findWays y_B_findWays ∈ wG := wG_in (List.mem_append_left _ (List.mem_map.mpr ⟨(y_B_findWays, 6), List.mem_of_getElem? (i := 9) rfl, rfl⟩)) rfl
theorem ws_10 : Cond.selects gC_B y_B_othersUsedBy y_B_othersUsedBy ∈ wG := wG_in (List.mem_append_left _ (List.mem_map.mpr ⟨(y_B_othersUsedBy, 6), List.mem_of_getElem? (i := 10) rfl, rfl⟩)) rfl
theorem ws_11 : Cond.selects gC_B y_B_cellsDefining y_B_cellsDefining ∈ wG := wG_in (List.mem_append_left _ (List.mem_map.mpr ⟨(y_B_cellsDefining, 6), List.mem_of_getElem? (i := 11) rfl, rfl⟩)) rfl
theorem ws_12 : Cond.selects gC_B y_B_faultOf y_B_faultOf ∈ wG := wG_in (List.mem_append_left _ (List.mem_map.mpr ⟨(y_B_faultOf, 6), List.mem_of_getElem? (i := 12) rfl, rfl⟩)) rfl
theorem ws_13 : Cond.selects gC_B y_B_usesMissingName y_B_usesMissingName ∈ wG := wG_in (List.mem_append_left _ (List.mem_map.mpr ⟨(y_B_usesMissingName, 6), List.mem_of_getElem? (i := 13) rfl, rfl⟩)) rfl
theorem ws_14 : Cond.selects gC_B y_B_spreadStale y_B_spreadStale ∈ wG := wG_in (List.mem_append_left _ (List.mem_map.mpr ⟨(y_B_spreadStale, 6), List.mem_of_getElem? (i := 14) rfl, rfl⟩)) rfl
theorem ws_15 : Cond.selects gC_B y_B_makeUsersStale y_B_makeUsersStale ∈ wG := wG_in (List.mem_append_left _ (List.mem_map.mpr ⟨(y_B_makeUsersStale, 6), List.mem_of_getElem? (i := 15) rfl, rfl⟩)) rfl
theorem ws_16 : Cond.selects gC_B y_B_nextToWorkOn y_B_nextToWorkOn ∈ wG := wG_in (List.mem_append_left _ (List.mem_map.mpr ⟨(y_B_nextToWorkOn, 6), List.mem_of_getElem? (i := 16) rfl, rfl⟩)) rfl
theorem ws_17 : Cond.selects gC_B y_B_staleCells y_B_staleCells ∈ wG := wG_in (List.mem_append_left _ (List.mem_map.mpr ⟨(y_B_staleCells, 6), List.mem_of_getElem? (i := 17) rfl, rfl⟩)) rfl
theorem ws_18 : Cond.selects gC_B y_B_workOn y_B_workOn ∈ wG := wG_in (List.mem_append_left _ (List.mem_map.mpr ⟨(y_B_workOn, 6), List.mem_of_getElem? (i := 18) rfl, rfl⟩)) rfl
theorem ws_19 : Cond.selects gC_B y_B_usableCells y_B_usableCells ∈ wG := wG_in (List.mem_append_left _ (List.mem_map.mpr ⟨(y_B_usableCells, 6), List.mem_of_getElem? (i := 19) rfl, rfl⟩)) rfl
theorem ws_20 : Cond.selects gC_Ev y_Ev_ofExpression y_Ev_ofExpression ∈ wG := wG_in (List.mem_append_left _ (List.mem_map.mpr ⟨(y_Ev_ofExpression, 5), List.mem_of_getElem? (i := 20) rfl, rfl⟩)) rfl
theorem ws_21 : Cond.selects gC_Ev y_Ev_fail y_Ev_fail ∈ wG := wG_in (List.mem_append_left _ (List.mem_map.mpr ⟨(y_Ev_fail, 5), List.mem_of_getElem? (i := 21) rfl, rfl⟩)) rfl
theorem ws_22 : Cond.selects gC_Ev y_Ev_ofBoth y_Ev_ofBoth ∈ wG := wG_in (List.mem_append_left _ (List.mem_map.mpr ⟨(y_Ev_ofBoth, 5), List.mem_of_getElem? (i := 22) rfl, rfl⟩)) rfl
theorem ws_23 : Cond.selects gC_Ev y_Ev_hasFailed y_Ev_hasFailed ∈ wG := wG_in (List.mem_append_left _ (List.mem_map.mpr ⟨(y_Ev_hasFailed, 5), List.mem_of_getElem? (i := 23) rfl, rfl⟩)) rfl
theorem ws_24 : Cond.selects gC_Ev y_Ev_ofChoice y_Ev_ofChoice ∈ wG := wG_in (List.mem_append_left _ (List.mem_map.mpr ⟨(y_Ev_ofChoice, 5), List.mem_of_getElem? (i := 24) rfl, rfl⟩)) rfl
theorem ws_25 : Cond.selects gC_Ev y_Ev_ofBinding y_Ev_ofBinding ∈ wG := wG_in (List.mem_append_left _ (List.mem_map.mpr ⟨(y_Ev_ofBinding, 5), List.mem_of_getElem? (i := 25) rfl, rfl⟩)) rfl
theorem ws_26 : Cond.selects gC_Ev y_Ev_ofCall y_Ev_ofCall ∈ wG := wG_in (List.mem_append_left _ (List.mem_map.mpr ⟨(y_Ev_ofCall, 5), List.mem_of_getElem? (i := 26) rfl, rfl⟩)) rfl
theorem ws_27 : Cond.selects gC_Ev y_Ev_ofMatch y_Ev_ofMatch ∈ wG := wG_in (List.mem_append_left _ (List.mem_map.mpr ⟨(y_Ev_ofMatch, 5), List.mem_of_getElem? (i := 27) rfl, rfl⟩)) rfl
theorem ws_28 : Cond.selects gC_Ev y_Ev_ofPair y_Ev_ofPair ∈ wG := wG_in (List.mem_append_left _ (List.mem_map.mpr ⟨(y_Ev_ofPair, 5), List.mem_of_getElem? (i := 28) rfl, rfl⟩)) rfl
theorem ws_29 : Cond.selects gC_Ev y_Ev_combine y_Ev_combine ∈ wG := wG_in (List.mem_append_left _ (List.mem_map.mpr ⟨(y_Ev_combine, 5), List.mem_of_getElem? (i := 29) rfl, rfl⟩)) rfl
theorem ws_30 : Cond.selects gC_Ev y_Ev_ofLeaf y_Ev_ofLeaf ∈ wG := wG_in (List.mem_append_left _ (List.mem_map.mpr ⟨(y_Ev_ofLeaf, 5), List.mem_of_getElem? (i := 30) rfl, rfl⟩)) rfl
theorem ws_31 : Cond.selects gC_Mo y_Mo_reads y_Mo_reads ∈ wG := wG_in (List.mem_append_left _ (List.mem_map.mpr ⟨(y_Mo_reads, 31), List.mem_of_getElem? (i := 31) rfl, rfl⟩)) rfl
theorem ws_32 : Cond.selects gC_Mo y_Mo_charAt y_Mo_charAt ∈ wG := wG_in (List.mem_append_left _ (List.mem_map.mpr ⟨(y_Mo_charAt, 31), List.mem_of_getElem? (i := 32) rfl, rfl⟩)) rfl
theorem ws_33 : Cond.selects gC_Mo y_Mo_come y_Mo_come ∈ wG := wG_in (List.mem_append_left _ (List.mem_map.mpr ⟨(y_Mo_come, 31), List.mem_of_getElem? (i := 33) rfl, rfl⟩)) rfl
theorem ws_34 : Cond.selects gC_Mo y_Mo_readOne y_Mo_readOne ∈ wG := wG_in (List.mem_append_left _ (List.mem_map.mpr ⟨(y_Mo_readOne, 31), List.mem_of_getElem? (i := 34) rfl, rfl⟩)) rfl
theorem ws_35 : Cond.selects gC_Mo y_Mo_findEnds y_Mo_findEnds ∈ wG := wG_in (List.mem_append_left _ (List.mem_map.mpr ⟨(y_Mo_findEnds, 31), List.mem_of_getElem? (i := 35) rfl, rfl⟩)) rfl
theorem ws_36 : Cond.selects gC_Mo y_Mo_isFunction y_Mo_isFunction ∈ wG := wG_in (List.mem_append_left _ (List.mem_map.mpr ⟨(y_Mo_isFunction, 31), List.mem_of_getElem? (i := 36) rfl, rfl⟩)) rfl
theorem ws_37 : Cond.selects gC_Mo y_Mo_becomes y_Mo_becomes ∈ wG := wG_in (List.mem_append_left _ (List.mem_map.mpr ⟨(y_Mo_becomes, 31), List.mem_of_getElem? (i := 37) rfl, rfl⟩)) rfl
theorem ws_38 : Cond.selects gC_Mo y_Mo_isThere y_Mo_isThere ∈ wG := wG_in (List.mem_append_left _ (List.mem_map.mpr ⟨(y_Mo_isThere, 31), List.mem_of_getElem? (i := 38) rfl, rfl⟩)) rfl
theorem ws_39 : Cond.selects gC_Mo y_Mo_needs y_Mo_needs ∈ wG := wG_in (List.mem_append_left _ (List.mem_map.mpr ⟨(y_Mo_needs, 31), List.mem_of_getElem? (i := 39) rfl, rfl⟩)) rfl
theorem ws_40 : Cond.selects gC_Mo y_Mo_workOnce y_Mo_workOnce ∈ wG := wG_in (List.mem_append_left _ (List.mem_map.mpr ⟨(y_Mo_workOnce, 31), List.mem_of_getElem? (i := 40) rfl, rfl⟩)) rfl
theorem ws_41 : Cond.selects gC_Mo y_Mo_isReady y_Mo_isReady ∈ wG := wG_in (List.mem_append_left _ (List.mem_map.mpr ⟨(y_Mo_isReady, 31), List.mem_of_getElem? (i := 41) rfl, rfl⟩)) rfl
theorem ws_42 : Cond.selects gC_Mo y_Mo_fault y_Mo_fault ∈ wG := wG_in (List.mem_append_left _ (List.mem_map.mpr ⟨(y_Mo_fault, 31), List.mem_of_getElem? (i := 42) rfl, rfl⟩)) rfl
theorem ws_43 : Cond.selects gC_Mo y_Mo_definer y_Mo_definer ∈ wG := wG_in (List.mem_append_left _ (List.mem_map.mpr ⟨(y_Mo_definer, 31), List.mem_of_getElem? (i := 43) rfl, rfl⟩)) rfl
theorem ws_44 : Cond.selects gC_Mo y_Mo_cycles y_Mo_cycles ∈ wG := wG_in (List.mem_append_left _ (List.mem_map.mpr ⟨(y_Mo_cycles, 31), List.mem_of_getElem? (i := 44) rfl, rfl⟩)) rfl
theorem ws_45 : Cond.selects gC_Mo y_Mo_workOut y_Mo_workOut ∈ wG := wG_in (List.mem_append_left _ (List.mem_map.mpr ⟨(y_Mo_workOut, 31), List.mem_of_getElem? (i := 45) rfl, rfl⟩)) rfl
theorem ws_46 : Cond.selects gC_Mo y_Mo_blocks y_Mo_blocks ∈ wG := wG_in (List.mem_append_left _ (List.mem_map.mpr ⟨(y_Mo_blocks, 31), List.mem_of_getElem? (i := 46) rfl, rfl⟩)) rfl
theorem ws_47 : Cond.selects gC_Mo y_Mo_typeOf y_Mo_typeOf ∈ wG := wG_in (List.mem_append_left _ (List.mem_map.mpr ⟨(y_Mo_typeOf, 31), List.mem_of_getElem? (i := 47) rfl, rfl⟩)) rfl
theorem ws_48 : Cond.selects gC_Mo y_Mo_ownName y_Mo_ownName ∈ wG := wG_in (List.mem_append_left _ (List.mem_map.mpr ⟨(y_Mo_ownName, 31), List.mem_of_getElem? (i := 48) rfl, rfl⟩)) rfl
theorem ws_49 : Cond.selects gC_Mo y_Mo_typeOfName y_Mo_typeOfName ∈ wG := wG_in (List.mem_append_left _ (List.mem_map.mpr ⟨(y_Mo_typeOfName, 31), List.mem_of_getElem? (i := 49) rfl, rfl⟩)) rfl
theorem ws_50 : Cond.selects gC_Mo y_Mo_typeOver y_Mo_typeOver ∈ wG := wG_in (List.mem_append_left _ (List.mem_map.mpr ⟨(y_Mo_typeOver, 31), List.mem_of_getElem? (i := 50) rfl, rfl⟩)) rfl
theorem ws_51 : Cond.selects gC_Mo y_Mo_popType y_Mo_popType ∈ wG := wG_in (List.mem_append_left _ (List.mem_map.mpr ⟨(y_Mo_popType, 31), List.mem_of_getElem? (i := 51) rfl, rfl⟩)) rfl
theorem ws_52 : Cond.selects gC_Mo y_Mo_isFunctionName y_Mo_isFunctionName ∈ wG := wG_in (List.mem_append_left _ (List.mem_map.mpr ⟨(y_Mo_isFunctionName, 31), List.mem_of_getElem? (i := 52) rfl, rfl⟩)) rfl
theorem ws_53 : Cond.selects gC_Mo y_Mo_pushType y_Mo_pushType ∈ wG := wG_in (List.mem_append_left _ (List.mem_map.mpr ⟨(y_Mo_pushType, 31), List.mem_of_getElem? (i := 53) rfl, rfl⟩)) rfl
theorem ws_54 : Cond.selects gC_Mo y_Mo_evaluate y_Mo_evaluate ∈ wG := wG_in (List.mem_append_left _ (List.mem_map.mpr ⟨(y_Mo_evaluate, 31), List.mem_of_getElem? (i := 54) rfl, rfl⟩)) rfl
theorem ws_55 : Cond.selects gC_Mo y_Mo_enter y_Mo_enter ∈ wG := wG_in (List.mem_append_left _ (List.mem_map.mpr ⟨(y_Mo_enter, 31), List.mem_of_getElem? (i := 55) rfl, rfl⟩)) rfl
theorem ws_56 : Cond.selects gC_Mo y_Mo_goOn y_Mo_goOn ∈ wG := wG_in (List.mem_append_left _ (List.mem_map.mpr ⟨(y_Mo_goOn, 31), List.mem_of_getElem? (i := 56) rfl, rfl⟩)) rfl
theorem ws_57 : Cond.selects gC_Mo y_Mo_leave y_Mo_leave ∈ wG := wG_in (List.mem_append_left _ (List.mem_map.mpr ⟨(y_Mo_leave, 31), List.mem_of_getElem? (i := 57) rfl, rfl⟩)) rfl
theorem ws_58 : Cond.selects gC_Mo y_Mo_branch y_Mo_branch ∈ wG := wG_in (List.mem_append_left _ (List.mem_map.mpr ⟨(y_Mo_branch, 31), List.mem_of_getElem? (i := 58) rfl, rfl⟩)) rfl
theorem ws_59 : Cond.selects gC_Mo y_Mo_let y_Mo_let ∈ wG := wG_in (List.mem_append_left _ (List.mem_map.mpr ⟨(y_Mo_let, 31), List.mem_of_getElem? (i := 59) rfl, rfl⟩)) rfl
theorem ws_60 : Cond.selects gC_Mo y_Mo_call y_Mo_call ∈ wG := wG_in (List.mem_append_left _ (List.mem_map.mpr ⟨(y_Mo_call, 31), List.mem_of_getElem? (i := 60) rfl, rfl⟩)) rfl
theorem ws_61 : Cond.selects gC_Mo y_Mo_match y_Mo_match ∈ wG := wG_in (List.mem_append_left _ (List.mem_map.mpr ⟨(y_Mo_match, 31), List.mem_of_getElem? (i := 61) rfl, rfl⟩)) rfl
theorem ws_62 : Cond.selects gC_Mo y_Mo_joined y_Mo_joined ∈ wG := wG_in (List.mem_append_left _ (List.mem_map.mpr ⟨(y_Mo_joined, 31), List.mem_of_getElem? (i := 62) rfl, rfl⟩)) rfl
theorem gW_B : ∀ w ∈ u_ws gC_B gT_B 6, w ∈ wG := fun w h => wG_in (List.all_eq_true.mp (show (u_ws gC_B gT_B 6).all (fun w => decide (w ∈ lw_tbl)) = true by decide +kernel) w h |> of_decide_eq_true) (List.all_eq_true.mp (show (u_ws gC_B gT_B 6).all goodWord = true by decide +kernel) w h)
theorem gW_Ce : ∀ w ∈ u_ws gC_Ce gT_Ce 8, w ∈ wG := fun w h => wG_in (List.all_eq_true.mp (show (u_ws gC_Ce gT_Ce 8).all (fun w => decide (w ∈ lw_tbl)) = true by decide +kernel) w h |> of_decide_eq_true) (List.all_eq_true.mp (show (u_ws gC_Ce gT_Ce 8).all goodWord = true by decide +kernel) w h)
theorem gW_Te : ∀ w ∈ u_ws gC_Te gT_Te 6, w ∈ wG := fun w h => wG_in (List.all_eq_true.mp (show (u_ws gC_Te gT_Te 6).all (fun w => decide (w ∈ lw_tbl)) = true by decide +kernel) w h |> of_decide_eq_true) (List.all_eq_true.mp (show (u_ws gC_Te gT_Te 6).all goodWord = true by decide +kernel) w h)
theorem gW_Fr : ∀ w ∈ u_ws gC_Fr gT_Fr 3, w ∈ wG := fun w h => wG_in (List.all_eq_true.mp (show (u_ws gC_Fr gT_Fr 3).all (fun w => decide (w ∈ lw_tbl)) = true by decide +kernel) w h |> of_decide_eq_true) (List.all_eq_true.mp (show (u_ws gC_Fr gT_Fr 3).all goodWord = true by decide +kernel) w h)
theorem gW_Ev : ∀ w ∈ u_ws gC_Ev gT_Ev 5, w ∈ wG := fun w h => wG_in (List.all_eq_true.mp (show (u_ws gC_Ev gT_Ev 5).all (fun w => decide (w ∈ lw_tbl)) = true by decide +kernel) w h |> of_decide_eq_true) (List.all_eq_true.mp (show (u_ws gC_Ev gT_Ev 5).all goodWord = true by decide +kernel) w h)
theorem gW_Mo : ∀ w ∈ u_ws gC_Mo gT_Mo 31, w ∈ wG := fun w h => wG_in (List.all_eq_true.mp (show (u_ws gC_Mo gT_Mo 31).all (fun w => decide (w ∈ lw_tbl)) = true by decide +kernel) w h |> of_decide_eq_true) (List.all_eq_true.mp (show (u_ws gC_Mo gT_Mo 31).all goodWord = true by decide +kernel) w h)
/-- the words of nest mates -/
def nestB : List Cond := [Cond.fieldLinkNest gC_Ty 9 (gT_Te 3).1 (gT_Te 3).2.1 (gT_Te 3).2.2.1 gC_B, Cond.fieldLinkNest gC_Ev 41 (gT_Te 3).1 (gT_Te 3).2.1 (gT_Te 3).2.2.1 gC_B, Cond.fieldLinkNest gC_B 144 (gT_Te 4).1 (gT_Te 4).2.1 (gT_Te 4).2.2.1 gC_B, Cond.fieldLinkNest gC_B 100 (gT_Te 5).1 (gT_Te 5).2.1 (gT_Te 5).2.2.1 gC_B, Cond.fieldLinkNest gC_Ev 34 (gT_Ce 0).1 (gT_Ce 0).2.1 (gT_Ce 0).2.2.1 gC_B, Cond.fieldLinkNest gC_B 57 (gT_Ce 0).1 (gT_Ce 0).2.1 (gT_Ce 0).2.2.1 gC_B, Cond.fieldLinkNest gC_Ty 57 (gT_Ce 0).1 (gT_Ce 0).2.1 (gT_Ce 0).2.2.1 gC_B, Cond.fieldLinkNest gC_B 54 (gT_Ce 1).1 (gT_Ce 1).2.1 (gT_Ce 1).2.2.1 gC_B, Cond.fieldLinkNest gC_B 125 (gT_Ce 2).1 (gT_Ce 2).2.1 (gT_Ce 2).2.2.1 gC_B, Cond.fieldLinkNest gC_B 87 (gT_Ce 3).1 (gT_Ce 3).2.1 (gT_Ce 3).2.2.1 gC_B, Cond.fieldLinkNest gC_Ev 60 (gT_Ce 4).1 (gT_Ce 4).2.1 (gT_Ce 4).2.2.1 gC_B, Cond.fieldLinkNest gC_B 91 (gT_Ce 4).1 (gT_Ce 4).2.1 (gT_Ce 4).2.2.1 gC_B, Cond.fieldLinkNest gC_Ev 50 (gT_Ce 5).1 (gT_Ce 5).2.1 (gT_Ce 5).2.2.1 gC_B, Cond.fieldLinkNest gC_B 94 (gT_Ce 5).1 (gT_Ce 5).2.1 (gT_Ce 5).2.2.1 gC_B, Cond.fieldLinkNest gC_Ev 53 (gT_Ce 6).1 (gT_Ce 6).2.1 (gT_Ce 6).2.2.1 gC_B, Cond.fieldLinkNest gC_B 97 (gT_Ce 6).1 (gT_Ce 6).2.1 (gT_Ce 6).2.2.1 gC_B, Cond.fieldLinkNest gC_Ty 67 (gT_Ce 6).1 (gT_Ce 6).2.1 (gT_Ce 6).2.2.1 gC_B, Cond.fieldLinkNest gC_Ev 63 (gT_Ce 7).1 (gT_Ce 7).2.1 (gT_Ce 7).2.2.1 gC_B, Cond.fieldLinkNest gC_B 103 (gT_Ce 7).1 (gT_Ce 7).2.1 (gT_Ce 7).2.2.1 gC_B, Cond.fieldLinkNest gC_Ev 121 (gT_Fr 0).1 (gT_Fr 0).2.1 (gT_Fr 0).2.2.1 gC_B, Cond.fieldLinkNest gC_Ev 100 (gT_Fr 1).1 (gT_Fr 1).2.1 (gT_Fr 1).2.2.1 gC_B, Cond.fieldLinkNest gC_Ev 40 (gT_Fr 2).1 (gT_Fr 2).2.1 (gT_Fr 2).2.2.1 gC_B, Cond.fieldLinkNest gC_B 106 (gT_Ev 3).1 (gT_Ev 3).2.1 (gT_Ev 3).2.2.1 gC_B, Cond.methodLinkNest gC_Te 49 y_B_isLocal gC_B, Cond.methodLinkNest gC_Te 87 y_B_isName gC_B, Cond.methodLinkNest gC_Te 80 y_B_isDigit gC_B, Cond.methodLinkNest gC_Te 83 y_B_hasBit gC_B, Cond.methodLinkNest gC_Ty 53 y_B_definerOf gC_B, Cond.methodLinkNest gC_Ty 63 y_B_isName gC_B, Cond.methodLinkNest gC_Ev 107 y_B_definerOf gC_B, Cond.methodLinkNest gC_Ev 96 y_B_isLocal gC_B, Cond.methodLinkNest gC_Ev 104 y_B_isDigit gC_B]
theorem nestB_ok : ∀ w ∈ nestB, nestW w = true := by simp [nestB, nestW]
set_option maxRecDepth 20000 in
theorem nestB_tb : ∀ w ∈ nestB, w ∈ lw_tbl := by
  intro w hw
  refine List.mem_append_right _ ?_
  simp only [nestB, List.mem_cons, List.not_mem_nil, or_false] at hw
  rcases hw with rfl | rfl | rfl | rfl | rfl | rfl | rfl | rfl | rfl | rfl | rfl | rfl | rfl | rfl | rfl | rfl | rfl | rfl | rfl | rfl | rfl | rfl | rfl | rfl | rfl | rfl | rfl | rfl | rfl | rfl | rfl | rfl
  · exact List.mem_of_getElem? (i := 35) rfl
  · exact List.mem_of_getElem? (i := 36) rfl
  · exact List.mem_of_getElem? (i := 38) rfl
  · exact List.mem_of_getElem? (i := 40) rfl
  · exact List.mem_of_getElem? (i := 57) rfl
  · exact List.mem_of_getElem? (i := 58) rfl
  · exact List.mem_of_getElem? (i := 59) rfl
  · exact List.mem_of_getElem? (i := 61) rfl
  · exact List.mem_of_getElem? (i := 63) rfl
  · exact List.mem_of_getElem? (i := 65) rfl
  · exact List.mem_of_getElem? (i := 67) rfl
  · exact List.mem_of_getElem? (i := 68) rfl
  · exact List.mem_of_getElem? (i := 70) rfl
  · exact List.mem_of_getElem? (i := 71) rfl
  · exact List.mem_of_getElem? (i := 73) rfl
  · exact List.mem_of_getElem? (i := 74) rfl
  · exact List.mem_of_getElem? (i := 75) rfl
  · exact List.mem_of_getElem? (i := 77) rfl
  · exact List.mem_of_getElem? (i := 78) rfl
  · exact List.mem_of_getElem? (i := 110) rfl
  · exact List.mem_of_getElem? (i := 112) rfl
  · exact List.mem_of_getElem? (i := 114) rfl
  · exact List.mem_of_getElem? (i := 126) rfl
  · exact List.mem_of_getElem? (i := 198) rfl
  · exact List.mem_of_getElem? (i := 225) rfl
  · exact List.mem_of_getElem? (i := 232) rfl
  · exact List.mem_of_getElem? (i := 239) rfl
  · exact List.mem_of_getElem? (i := 347) rfl
  · exact List.mem_of_getElem? (i := 358) rfl
  · exact List.mem_of_getElem? (i := 394) rfl
  · exact List.mem_of_getElem? (i := 411) rfl
  · exact List.mem_of_getElem? (i := 412) rfl
theorem wn_0 : Cond.fieldLinkNest gC_Ty 9 (gT_Te 3).1 (gT_Te 3).2.1 (gT_Te 3).2.2.1 gC_B ∈ nestB := List.mem_of_getElem? (i := 0) rfl
theorem wn_1 : Cond.fieldLinkNest gC_Ev 41 (gT_Te 3).1 (gT_Te 3).2.1 (gT_Te 3).2.2.1 gC_B ∈ nestB := List.mem_of_getElem? (i := 1) rfl
theorem wn_2 : Cond.fieldLinkNest gC_B 144 (gT_Te 4).1 (gT_Te 4).2.1 (gT_Te 4).2.2.1 gC_B ∈ nestB := List.mem_of_getElem? (i := 2) rfl
theorem wn_3 : Cond.fieldLinkNest gC_B 100 (gT_Te 5).1 (gT_Te 5).2.1 (gT_Te 5).2.2.1 gC_B ∈ nestB := List.mem_of_getElem? (i := 3) rfl
theorem wn_4 : Cond.fieldLinkNest gC_Ev 34 (gT_Ce 0).1 (gT_Ce 0).2.1 (gT_Ce 0).2.2.1 gC_B ∈ nestB := List.mem_of_getElem? (i := 4) rfl
theorem wn_5 : Cond.fieldLinkNest gC_B 57 (gT_Ce 0).1 (gT_Ce 0).2.1 (gT_Ce 0).2.2.1 gC_B ∈ nestB := List.mem_of_getElem? (i := 5) rfl
theorem wn_6 : Cond.fieldLinkNest gC_Ty 57 (gT_Ce 0).1 (gT_Ce 0).2.1 (gT_Ce 0).2.2.1 gC_B ∈ nestB := List.mem_of_getElem? (i := 6) rfl
theorem wn_7 : Cond.fieldLinkNest gC_B 54 (gT_Ce 1).1 (gT_Ce 1).2.1 (gT_Ce 1).2.2.1 gC_B ∈ nestB := List.mem_of_getElem? (i := 7) rfl
theorem wn_8 : Cond.fieldLinkNest gC_B 125 (gT_Ce 2).1 (gT_Ce 2).2.1 (gT_Ce 2).2.2.1 gC_B ∈ nestB := List.mem_of_getElem? (i := 8) rfl
theorem wn_9 : Cond.fieldLinkNest gC_B 87 (gT_Ce 3).1 (gT_Ce 3).2.1 (gT_Ce 3).2.2.1 gC_B ∈ nestB := List.mem_of_getElem? (i := 9) rfl
theorem wn_10 : Cond.fieldLinkNest gC_Ev 60 (gT_Ce 4).1 (gT_Ce 4).2.1 (gT_Ce 4).2.2.1 gC_B ∈ nestB := List.mem_of_getElem? (i := 10) rfl
theorem wn_11 : Cond.fieldLinkNest gC_B 91 (gT_Ce 4).1 (gT_Ce 4).2.1 (gT_Ce 4).2.2.1 gC_B ∈ nestB := List.mem_of_getElem? (i := 11) rfl
theorem wn_12 : Cond.fieldLinkNest gC_Ev 50 (gT_Ce 5).1 (gT_Ce 5).2.1 (gT_Ce 5).2.2.1 gC_B ∈ nestB := List.mem_of_getElem? (i := 12) rfl
theorem wn_13 : Cond.fieldLinkNest gC_B 94 (gT_Ce 5).1 (gT_Ce 5).2.1 (gT_Ce 5).2.2.1 gC_B ∈ nestB := List.mem_of_getElem? (i := 13) rfl
theorem wn_14 : Cond.fieldLinkNest gC_Ev 53 (gT_Ce 6).1 (gT_Ce 6).2.1 (gT_Ce 6).2.2.1 gC_B ∈ nestB := List.mem_of_getElem? (i := 14) rfl
theorem wn_15 : Cond.fieldLinkNest gC_B 97 (gT_Ce 6).1 (gT_Ce 6).2.1 (gT_Ce 6).2.2.1 gC_B ∈ nestB := List.mem_of_getElem? (i := 15) rfl
theorem wn_16 : Cond.fieldLinkNest gC_Ty 67 (gT_Ce 6).1 (gT_Ce 6).2.1 (gT_Ce 6).2.2.1 gC_B ∈ nestB := List.mem_of_getElem? (i := 16) rfl
theorem wn_17 : Cond.fieldLinkNest gC_Ev 63 (gT_Ce 7).1 (gT_Ce 7).2.1 (gT_Ce 7).2.2.1 gC_B ∈ nestB := List.mem_of_getElem? (i := 17) rfl
theorem wn_18 : Cond.fieldLinkNest gC_B 103 (gT_Ce 7).1 (gT_Ce 7).2.1 (gT_Ce 7).2.2.1 gC_B ∈ nestB := List.mem_of_getElem? (i := 18) rfl
theorem wn_19 : Cond.fieldLinkNest gC_Ev 121 (gT_Fr 0).1 (gT_Fr 0).2.1 (gT_Fr 0).2.2.1 gC_B ∈ nestB := List.mem_of_getElem? (i := 19) rfl
theorem wn_20 : Cond.fieldLinkNest gC_Ev 100 (gT_Fr 1).1 (gT_Fr 1).2.1 (gT_Fr 1).2.2.1 gC_B ∈ nestB := List.mem_of_getElem? (i := 20) rfl
theorem wn_21 : Cond.fieldLinkNest gC_Ev 40 (gT_Fr 2).1 (gT_Fr 2).2.1 (gT_Fr 2).2.2.1 gC_B ∈ nestB := List.mem_of_getElem? (i := 21) rfl
theorem wn_22 : Cond.fieldLinkNest gC_B 106 (gT_Ev 3).1 (gT_Ev 3).2.1 (gT_Ev 3).2.2.1 gC_B ∈ nestB := List.mem_of_getElem? (i := 22) rfl
theorem wn_23 : Cond.methodLinkNest gC_Te 49 y_B_isLocal gC_B ∈ nestB := List.mem_of_getElem? (i := 23) rfl
theorem wn_24 : Cond.methodLinkNest gC_Te 87 y_B_isName gC_B ∈ nestB := List.mem_of_getElem? (i := 24) rfl
theorem wn_25 : Cond.methodLinkNest gC_Te 80 y_B_isDigit gC_B ∈ nestB := List.mem_of_getElem? (i := 25) rfl
theorem wn_26 : Cond.methodLinkNest gC_Te 83 y_B_hasBit gC_B ∈ nestB := List.mem_of_getElem? (i := 26) rfl
theorem wn_27 : Cond.methodLinkNest gC_Ty 53 y_B_definerOf gC_B ∈ nestB := List.mem_of_getElem? (i := 27) rfl
theorem wn_28 : Cond.methodLinkNest gC_Ty 63 y_B_isName gC_B ∈ nestB := List.mem_of_getElem? (i := 28) rfl
theorem wn_29 : Cond.methodLinkNest gC_Ev 107 y_B_definerOf gC_B ∈ nestB := List.mem_of_getElem? (i := 29) rfl
theorem wn_30 : Cond.methodLinkNest gC_Ev 96 y_B_isLocal gC_B ∈ nestB := List.mem_of_getElem? (i := 30) rfl
theorem wn_31 : Cond.methodLinkNest gC_Ev 104 y_B_isDigit gC_B ∈ nestB := List.mem_of_getElem? (i := 31) rfl
