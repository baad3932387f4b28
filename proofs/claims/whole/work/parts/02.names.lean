/-! ===== BEGIN printed: names, fields, word lists, decode rows ===== -/
def RX0 : String := "GraphSearch"
def TX0 : u_T := fun k => match k with
  | 0 => ("GraphSearch", "worths", "[I", true)
  | 1 => ("GraphSearch", "losts", "[Z", true)
  | 2 => ("GraphSearch", "moveCounts", "[I", true)
  | 3 => ("GraphSearch", "targets", "[I", true)
  | 4 => ("GraphSearch", "nodeCount", "I", false)
  | 5 => ("GraphSearch", "allMoves", "I", false)
  | 6 => ("GraphSearch", "table", "[[I", true)
  | 7 => ("GraphSearch", "rowsFound", "I", false)
  | 8 => ("GraphSearch", "met", "[I", true)
  | 9 => ("GraphSearch", "isMet", "[Z", true)
  | _ => ("GraphSearch", "metCount", "I", false)
def tyX0 : Nat → FieldType := fun k => match k with
  | 0 => .array .int
  | 1 => .array .boolean
  | 2 => .array .int
  | 3 => .array .int
  | 4 => .int
  | 5 => .int
  | 6 => .array (.array .int)
  | 7 => .int
  | 8 => .array .int
  | 9 => .array .boolean
  | _ => .int
abbrev wsX00 : List Cond := u_ws RX0 TX0 11
theorem nmX0 : ∀ a, a < 11 → ∀ b, b < 11 → a ≠ b → (TX0 a).2.1 ≠ (TX0 b).2.1 := by decide +kernel
theorem tyX0_ok : ∀ k, k < 11 → parseFieldDescriptor (TX0 k).2.2.1 = some (tyX0 k) := by decide +kernel
abbrev cX0_init : ByteArray := prog_1_method_1_code
def yX0_init : MethodName := ⟨RX0, "<init>", "(I)V"⟩
abbrev cX0_node : ByteArray := prog_1_method_2_code
def yX0_node : MethodName := ⟨RX0, "node", "(IZ)I"⟩
abbrev cX0_move : ByteArray := prog_1_method_3_code
def yX0_move : MethodName := ⟨RX0, "move", "(II)I"⟩
abbrev cX0_drop : ByteArray := prog_1_method_4_code
def yX0_drop : MethodName := ⟨RX0, "drop", "(I)Z"⟩
abbrev cX0_change : ByteArray := prog_1_method_5_code
def yX0_change : MethodName := ⟨RX0, "change", "(IIZ)Z"⟩
abbrev cX0_value : ByteArray := prog_1_method_6_code
def yX0_value : MethodName := ⟨RX0, "value", "(II)I"⟩
abbrev cX0_best : ByteArray := prog_1_method_7_code
def yX0_best : MethodName := ⟨RX0, "best", "(II)I"⟩
abbrev cX0_reaches : ByteArray := prog_1_method_8_code
def yX0_reaches : MethodName := ⟨RX0, "reaches", "(III)Z"⟩
abbrev cX0_line : ByteArray := prog_1_method_9_code
def yX0_line : MethodName := ⟨RX0, "line", "(III)I"⟩
abbrev cX0_ties : ByteArray := prog_1_method_10_code
def yX0_ties : MethodName := ⟨RX0, "ties", "(II)I"⟩
abbrev cX0_settled : ByteArray := prog_1_method_11_code
def yX0_settled : MethodName := ⟨RX0, "settled", "(II)I"⟩
abbrev cX0_of : ByteArray := prog_1_method_12_code
def yX0_of : MethodName := ⟨RX0, "of", "(II)I"⟩
abbrev cX0_around : ByteArray := prog_1_method_13_code
def yX0_around : MethodName := ⟨RX0, "around", "(II)I"⟩
abbrev cX0_look : ByteArray := prog_1_method_14_code
def yX0_look : MethodName := ⟨RX0, "look", "(I)I"⟩
abbrev cX0_isWorth : ByteArray := prog_1_method_15_code
def yX0_isWorth : MethodName := ⟨RX0, "isWorth", "(I)Z"⟩
abbrev cX0_isNode : ByteArray := prog_1_method_16_code
def yX0_isNode : MethodName := ⟨RX0, "isNode", "(I)Z"⟩
abbrev cX0_refuseWrongQuestion : ByteArray := prog_1_method_17_code
def yX0_refuseWrongQuestion : MethodName := ⟨RX0, "refuseWrongQuestion", "(II)V"⟩
abbrev cX0_place : ByteArray := prog_1_method_18_code
def yX0_place : MethodName := ⟨RX0, "place", "(II)I"⟩
abbrev cX0_targetOrNone : ByteArray := prog_1_method_19_code
def yX0_targetOrNone : MethodName := ⟨RX0, "targetOrNone", "(II)I"⟩
abbrev cX0_forgetTable : ByteArray := prog_1_method_20_code
def yX0_forgetTable : MethodName := ⟨RX0, "forgetTable", "()V"⟩
abbrev cX0_deepenTo : ByteArray := prog_1_method_21_code
def yX0_deepenTo : MethodName := ⟨RX0, "deepenTo", "(I)V"⟩
abbrev cX0_findRow : ByteArray := prog_1_method_22_code
def yX0_findRow : MethodName := ⟨RX0, "findRow", "(I)V"⟩
abbrev cX0_findValue : ByteArray := prog_1_method_23_code
def yX0_findValue : MethodName := ⟨RX0, "findValue", "(II)I"⟩
abbrev cX0_moveValue : ByteArray := prog_1_method_24_code
def yX0_moveValue : MethodName := ⟨RX0, "moveValue", "(III)I"⟩
abbrev cX0_halfMoveBack : ByteArray := prog_1_method_25_code
def yX0_halfMoveBack : MethodName := ⟨RX0, "halfMoveBack", "(I)I"⟩
abbrev cX0_bestMove : ByteArray := prog_1_method_26_code
def yX0_bestMove : MethodName := ⟨RX0, "bestMove", "(II)I"⟩
abbrev cX0_forgetMet : ByteArray := prog_1_method_27_code
def yX0_forgetMet : MethodName := ⟨RX0, "forgetMet", "()V"⟩
abbrev cX0_meet : ByteArray := prog_1_method_28_code
def yX0_meet : MethodName := ⟨RX0, "meet", "(I)V"⟩
abbrev cX0_meetTargets : ByteArray := prog_1_method_29_code
def yX0_meetTargets : MethodName := ⟨RX0, "meetTargets", "(I)V"⟩
def RX1 : String := "GraphSearchModel"
def TX1 : u_T := fun k => match k with
  | 0 => ("GraphSearchModel", "thrown", "I", false)
  | 1 => ("GraphSearchModel", "nodes", "I", false)
  | 2 => ("GraphSearchModel", "worth", "[I", true)
  | 3 => ("GraphSearchModel", "lost", "[Z", true)
  | 4 => ("GraphSearchModel", "many", "[I", true)
  | 5 => ("GraphSearchModel", "to", "[I", true)
  | 6 => ("GraphSearchModel", "values", "[I", true)
  | _ => ("GraphSearchModel", "near", "[I", true)
def tyX1 : Nat → FieldType := fun k => match k with
  | 0 => .int
  | 1 => .int
  | 2 => .array .int
  | 3 => .array .boolean
  | 4 => .array .int
  | 5 => .array .int
  | 6 => .array .int
  | _ => .array .int
abbrev wsX10 : List Cond := u_ws RX1 TX1 8
theorem nmX1 : ∀ a, a < 8 → ∀ b, b < 8 → a ≠ b → (TX1 a).2.1 ≠ (TX1 b).2.1 := by decide +kernel
theorem tyX1_ok : ∀ k, k < 8 → parseFieldDescriptor (TX1 k).2.2.1 = some (tyX1 k) := by decide +kernel
abbrev cX1_init : ByteArray := prog_3_method_1_code
def yX1_init : MethodName := ⟨RX1, "<init>", "(I)V"⟩
abbrev cX1_thrown : ByteArray := prog_3_method_2_code
def yX1_thrown : MethodName := ⟨RX1, "thrown", "()I"⟩
abbrev cX1_isNode : ByteArray := prog_3_method_3_code
def yX1_isNode : MethodName := ⟨RX1, "isNode", "(I)Z"⟩
abbrev cX1_isWorth : ByteArray := prog_3_method_4_code
def yX1_isWorth : MethodName := ⟨RX1, "isWorth", "(I)Z"⟩
abbrev cX1_node : ByteArray := prog_3_method_5_code
def yX1_node : MethodName := ⟨RX1, "node", "(IZ)I"⟩
abbrev cX1_move : ByteArray := prog_3_method_6_code
def yX1_move : MethodName := ⟨RX1, "move", "(II)I"⟩
abbrev cX1_drop : ByteArray := prog_3_method_7_code
def yX1_drop : MethodName := ⟨RX1, "drop", "(I)Z"⟩
abbrev cX1_change : ByteArray := prog_3_method_8_code
def yX1_change : MethodName := ⟨RX1, "change", "(IIZ)Z"⟩
abbrev cX1_behind : ByteArray := prog_3_method_9_code
def yX1_behind : MethodName := ⟨RX1, "behind", "(I)I"⟩
abbrev cX1_given : ByteArray := prog_3_method_10_code
def yX1_given : MethodName := ⟨RX1, "given", "(III)I"⟩
abbrev cX1_greatest : ByteArray := prog_3_method_11_code
def yX1_greatest : MethodName := ⟨RX1, "greatest", "(II)I"⟩
abbrev cX1_work : ByteArray := prog_3_method_12_code
def yX1_work : MethodName := ⟨RX1, "work", "(I)V"⟩
abbrev cX1_asked : ByteArray := prog_3_method_13_code
def yX1_asked : MethodName := ⟨RX1, "asked", "(II)Z"⟩
abbrev cX1_valueOf : ByteArray := prog_3_method_14_code
def yX1_valueOf : MethodName := ⟨RX1, "valueOf", "(II)I"⟩
abbrev cX1_value : ByteArray := prog_3_method_15_code
def yX1_value : MethodName := ⟨RX1, "value", "(II)I"⟩
abbrev cX1_bestOf : ByteArray := prog_3_method_16_code
def yX1_bestOf : MethodName := ⟨RX1, "bestOf", "(II)I"⟩
abbrev cX1_best : ByteArray := prog_3_method_17_code
def yX1_best : MethodName := ⟨RX1, "best", "(II)I"⟩
abbrev cX1_reaches : ByteArray := prog_3_method_18_code
def yX1_reaches : MethodName := ⟨RX1, "reaches", "(III)Z"⟩
abbrev cX1_line : ByteArray := prog_3_method_19_code
def yX1_line : MethodName := ⟨RX1, "line", "(III)I"⟩
abbrev cX1_ties : ByteArray := prog_3_method_20_code
def yX1_ties : MethodName := ⟨RX1, "ties", "(II)I"⟩
abbrev cX1_settled : ByteArray := prog_3_method_21_code
def yX1_settled : MethodName := ⟨RX1, "settled", "(II)I"⟩
abbrev cX1_of : ByteArray := prog_3_method_22_code
def yX1_of : MethodName := ⟨RX1, "of", "(II)I"⟩
abbrev cX1_around : ByteArray := prog_3_method_23_code
def yX1_around : MethodName := ⟨RX1, "around", "(II)I"⟩
abbrev cX1_look : ByteArray := prog_3_method_24_code
def yX1_look : MethodName := ⟨RX1, "look", "(I)I"⟩
def RJ9 : String := "java/lang/Math"
def TJ9 : u_T := fun k => match k with
  | _ => ("", "", "", false)
def tyJ9 : Nat → FieldType := fun k => match k with
  | _ => .int
abbrev wsJ90 : List Cond := u_ws RJ9 TJ9 0
theorem nmJ9 : ∀ a, a < 0 → ∀ b, b < 0 → a ≠ b → (TJ9 a).2.1 ≠ (TJ9 b).2.1 := by decide +kernel
theorem tyJ9_ok : ∀ k, k < 0 → parseFieldDescriptor (TJ9 k).2.2.1 = some (tyJ9 k) := by decide +kernel
abbrev cJ9_max_7cf53 : ByteArray := prog_7_method_65_code
def yJ9_max_7cf53 : MethodName := ⟨RJ9, "max", "(II)I"⟩
def RJ0 : String := "java/lang/String"
def TJ0 : u_T := fun k => match k with
  | _ => ("", "", "", false)
def tyJ0 : Nat → FieldType := fun k => match k with
  | _ => .int
abbrev wsJ00 : List Cond := u_ws RJ0 TJ0 0
theorem nmJ0 : ∀ a, a < 0 → ∀ b, b < 0 → a ≠ b → (TJ0 a).2.1 ≠ (TJ0 b).2.1 := by decide +kernel
theorem tyJ0_ok : ∀ k, k < 0 → parseFieldDescriptor (TJ0 k).2.2.1 = some (tyJ0 k) := by decide +kernel
def RL : String := "GraphSearchLaw"
abbrev cL_cell : ByteArray := method_2_code
def yL_cell : MethodName := ⟨RL, "cell", "([II)I"⟩
abbrev cL_node : ByteArray := method_3_code
def yL_node : MethodName := ⟨RL, "node", "(LGraphSearch;IZ[J)I"⟩
abbrev cL_move : ByteArray := method_4_code
def yL_move : MethodName := ⟨RL, "move", "(LGraphSearch;II[J)I"⟩
abbrev cL_value : ByteArray := method_5_code
def yL_value : MethodName := ⟨RL, "value", "(LGraphSearch;II[J)I"⟩
abbrev cL_best : ByteArray := method_6_code
def yL_best : MethodName := ⟨RL, "best", "(LGraphSearch;II[J)I"⟩
abbrev cL_reaches : ByteArray := method_7_code
def yL_reaches : MethodName := ⟨RL, "reaches", "(LGraphSearch;III[J)I"⟩
abbrev cL_line : ByteArray := method_8_code
def yL_line : MethodName := ⟨RL, "line", "(LGraphSearch;III[J)I"⟩
abbrev cL_ties : ByteArray := method_9_code
def yL_ties : MethodName := ⟨RL, "ties", "(LGraphSearch;II[J)I"⟩
abbrev cL_settled : ByteArray := method_10_code
def yL_settled : MethodName := ⟨RL, "settled", "(LGraphSearch;II[J)I"⟩
abbrev cL_around : ByteArray := method_11_code
def yL_around : MethodName := ⟨RL, "around", "(LGraphSearch;II[J)I"⟩
abbrev cL_law : ByteArray := code
def yL_law : MethodName := ⟨RL, "law", "([I)Z"⟩
def wsX0_init : List Cond := .code yX0_init cX0_init 2 none :: ([.methodLink RX0 1 objectInit, .instanceMethod objectInit, .code objectInit ⟨#[0xb1]⟩ 1 none, .arrayClass .int, .fieldLink RX0 9 "GraphSearch" "worths" "[I", .arrayClass .boolean, .fieldLink RX0 13 "GraphSearch" "losts" "[Z", .fieldLink RX0 17 "GraphSearch" "moveCounts" "[I", .fieldLink RX0 20 "GraphSearch" "targets" "[I", .fieldLink RX0 23 "GraphSearch" "nodeCount" "I", .fieldLink RX0 27 "GraphSearch" "allMoves" "I", .classLink RX0 30 "[[I", .fieldLink RX0 32 "GraphSearch" "table" "[[I", .fieldLink RX0 35 "GraphSearch" "rowsFound" "I", .fieldLink RX0 38 "GraphSearch" "met" "[I", .fieldLink RX0 41 "GraphSearch" "isMet" "[Z", .fieldLink RX0 44 "GraphSearch" "metCount" "I"] ++ wsX00)
def wsX0_isWorth : List Cond := .code yX0_isWorth cX0_isWorth 1 (some .boolean) :: ([])
def wsX0_forgetTable : List Cond := .code yX0_forgetTable cX0_forgetTable 1 none :: ([.fieldLink RX0 35 "GraphSearch" "rowsFound" "I"] ++ wsX00)
def wsX0_node : List Cond := .code yX0_node cX0_node 4 (some .int) :: ([.classLink RX0 51 "java/lang/IllegalArgumentException", .initialized "java/lang/IllegalArgumentException", .classLink RX0 58 "java/lang/IllegalStateException", .initialized "java/lang/IllegalStateException", .fieldLink RX0 23 "GraphSearch" "nodeCount" "I", .fieldLink RX0 9 "GraphSearch" "worths" "[I", .fieldLink RX0 13 "GraphSearch" "losts" "[Z", .methodLink RX0 47 yX0_isWorth, .static yX0_isWorth, .initialized RX0, .code yX0_isWorth cX0_isWorth 1 (some .boolean), .methodLink RX0 63 yX0_forgetTable, .instanceMethod yX0_forgetTable, .selects RX0 yX0_forgetTable yX0_forgetTable, .code yX0_forgetTable cX0_forgetTable 1 none, .fieldLink RX0 35 "GraphSearch" "rowsFound" "I"] ++ wsX00 ++ (vx_atS RX0 55 "java/lang/IllegalArgumentException" ["java/lang/RuntimeException", "java/lang/Exception"]).filter goodWord ++ (vx_atS RX0 62 "java/lang/IllegalStateException" ["java/lang/RuntimeException", "java/lang/Exception"]).filter goodWord)
def wsX0_isNode : List Cond := .code yX0_isNode cX0_isNode 2 (some .boolean) :: ([.fieldLink RX0 23 "GraphSearch" "nodeCount" "I"] ++ wsX00)
def wsX0_place : List Cond := .code yX0_place cX0_place 2 (some .int) :: ([])
def wsX0_move : List Cond := .code yX0_move cX0_move 4 (some .int) :: ([.classLink RX0 51 "java/lang/IllegalArgumentException", .initialized "java/lang/IllegalArgumentException", .classLink RX0 58 "java/lang/IllegalStateException", .initialized "java/lang/IllegalStateException", .fieldLink RX0 17 "GraphSearch" "moveCounts" "[I", .fieldLink RX0 20 "GraphSearch" "targets" "[I", .fieldLink RX0 27 "GraphSearch" "allMoves" "I", .methodLink RX0 66 yX0_isNode, .instanceMethod yX0_isNode, .selects RX0 yX0_isNode yX0_isNode, .initialized RX0, .code yX0_isNode cX0_isNode 2 (some .boolean), .fieldLink RX0 23 "GraphSearch" "nodeCount" "I", .methodLink RX0 73 yX0_place, .static yX0_place, .code yX0_place cX0_place 2 (some .int), .methodLink RX0 63 yX0_forgetTable, .instanceMethod yX0_forgetTable, .selects RX0 yX0_forgetTable yX0_forgetTable, .code yX0_forgetTable cX0_forgetTable 1 none, .fieldLink RX0 35 "GraphSearch" "rowsFound" "I"] ++ wsX00 ++ (vx_atS RX0 55 "java/lang/IllegalArgumentException" ["java/lang/RuntimeException", "java/lang/Exception"]).filter goodWord ++ (vx_atS RX0 62 "java/lang/IllegalStateException" ["java/lang/RuntimeException", "java/lang/Exception"]).filter goodWord)
def wsX0_drop : List Cond := .code yX0_drop cX0_drop 2 (some .boolean) :: ([.fieldLink RX0 17 "GraphSearch" "moveCounts" "[I", .fieldLink RX0 27 "GraphSearch" "allMoves" "I", .methodLink RX0 66 yX0_isNode, .instanceMethod yX0_isNode, .selects RX0 yX0_isNode yX0_isNode, .initialized RX0, .code yX0_isNode cX0_isNode 2 (some .boolean), .fieldLink RX0 23 "GraphSearch" "nodeCount" "I", .methodLink RX0 63 yX0_forgetTable, .instanceMethod yX0_forgetTable, .selects RX0 yX0_forgetTable yX0_forgetTable, .code yX0_forgetTable cX0_forgetTable 1 none, .fieldLink RX0 35 "GraphSearch" "rowsFound" "I"] ++ wsX00)
def wsX0_change : List Cond := .code yX0_change cX0_change 4 (some .boolean) :: ([.fieldLink RX0 9 "GraphSearch" "worths" "[I", .fieldLink RX0 13 "GraphSearch" "losts" "[Z", .methodLink RX0 66 yX0_isNode, .instanceMethod yX0_isNode, .selects RX0 yX0_isNode yX0_isNode, .initialized RX0, .code yX0_isNode cX0_isNode 2 (some .boolean), .fieldLink RX0 23 "GraphSearch" "nodeCount" "I", .methodLink RX0 47 yX0_isWorth, .static yX0_isWorth, .code yX0_isWorth cX0_isWorth 1 (some .boolean), .methodLink RX0 63 yX0_forgetTable, .instanceMethod yX0_forgetTable, .selects RX0 yX0_forgetTable yX0_forgetTable, .code yX0_forgetTable cX0_forgetTable 1 none, .fieldLink RX0 35 "GraphSearch" "rowsFound" "I"] ++ wsX00)
def wsX0_refuseWrongQuestion : List Cond := .code yX0_refuseWrongQuestion cX0_refuseWrongQuestion 3 none :: ([.classLink RX0 51 "java/lang/IllegalArgumentException", .initialized "java/lang/IllegalArgumentException", .methodLink RX0 66 yX0_isNode, .instanceMethod yX0_isNode, .selects RX0 yX0_isNode yX0_isNode, .initialized RX0, .code yX0_isNode cX0_isNode 2 (some .boolean), .fieldLink RX0 23 "GraphSearch" "nodeCount" "I"] ++ wsX00 ++ (vx_atS RX0 55 "java/lang/IllegalArgumentException" ["java/lang/RuntimeException", "java/lang/Exception"]).filter goodWord)
def wsX0_halfMoveBack : List Cond := .code yX0_halfMoveBack cX0_halfMoveBack 2 (some .int) :: ([])
def wsX0_moveValue : List Cond := .code yX0_moveValue cX0_moveValue 4 (some .int) :: ([.fieldLink RX0 32 "GraphSearch" "table" "[[I", .fieldLink RX0 20 "GraphSearch" "targets" "[I", .methodLink RX0 73 yX0_place, .static yX0_place, .initialized RX0, .code yX0_place cX0_place 2 (some .int), .methodLink RX0 117 yX0_halfMoveBack, .static yX0_halfMoveBack, .code yX0_halfMoveBack cX0_halfMoveBack 2 (some .int)] ++ wsX00)
def wsX0_findValue : List Cond := .code yX0_findValue cX0_findValue 5 (some .int) :: ([.fieldLink RX0 17 "GraphSearch" "moveCounts" "[I", .fieldLink RX0 13 "GraphSearch" "losts" "[Z", .fieldLink RX0 9 "GraphSearch" "worths" "[I", .methodLink RX0 112 Lib.Math.max.name, .static Lib.Math.max.name, .initialized "java/lang/Math", .code Lib.Math.max.name Lib.Math.max.code 2 (some .int), .methodLink RX0 88 yX0_moveValue, .instanceMethod yX0_moveValue, .selects RX0 yX0_moveValue yX0_moveValue, .initialized RX0, .code yX0_moveValue cX0_moveValue 4 (some .int), .fieldLink RX0 32 "GraphSearch" "table" "[[I", .fieldLink RX0 20 "GraphSearch" "targets" "[I", .methodLink RX0 73 yX0_place, .static yX0_place, .code yX0_place cX0_place 2 (some .int), .methodLink RX0 117 yX0_halfMoveBack, .static yX0_halfMoveBack, .code yX0_halfMoveBack cX0_halfMoveBack 2 (some .int)] ++ wsX00)
def wsX0_findRow_r1 : List Cond := [Cond.fieldLink RX0 23 "GraphSearch" "nodeCount" "I", Cond.fieldLink RX0 32 "GraphSearch" "table" "[[I", Cond.methodLink RX0 109 yX0_findValue, Cond.instanceMethod yX0_findValue, Cond.selects RX0 yX0_findValue yX0_findValue, Cond.initialized RX0, Cond.code yX0_findValue cX0_findValue 5 (some .int), Cond.fieldLink RX0 17 "GraphSearch" "moveCounts" "[I", Cond.fieldLink RX0 13 "GraphSearch" "losts" "[Z", Cond.fieldLink RX0 9 "GraphSearch" "worths" "[I", Cond.methodLink RX0 112 Lib.Math.max.name, Cond.static Lib.Math.max.name, Cond.initialized "java/lang/Math", Cond.code Lib.Math.max.name Lib.Math.max.code 2 (some .int), Cond.methodLink RX0 88 yX0_moveValue, Cond.instanceMethod yX0_moveValue, Cond.selects RX0 yX0_moveValue yX0_moveValue, Cond.code yX0_moveValue cX0_moveValue 4 (some .int), Cond.fieldLink RX0 20 "GraphSearch" "targets" "[I", Cond.methodLink RX0 73 yX0_place, Cond.static yX0_place, Cond.code yX0_place cX0_place 2 (some .int), Cond.methodLink RX0 117 yX0_halfMoveBack, Cond.static yX0_halfMoveBack]
def wsX0_findRow_r2 : List Cond := [Cond.code yX0_halfMoveBack cX0_halfMoveBack 2 (some .int)]
def wsX0_findRow : List Cond := .code yX0_findRow cX0_findRow 3 none :: ((wsX0_findRow_r1 ++ wsX0_findRow_r2) ++ wsX00)
def wsX0_deepenTo_r1 : List Cond := [Cond.fieldLink RX0 35 "GraphSearch" "rowsFound" "I", Cond.methodLink RX0 106 yX0_findRow, Cond.instanceMethod yX0_findRow, Cond.selects RX0 yX0_findRow yX0_findRow, Cond.initialized RX0, Cond.code yX0_findRow cX0_findRow 3 none, Cond.fieldLink RX0 23 "GraphSearch" "nodeCount" "I", Cond.fieldLink RX0 32 "GraphSearch" "table" "[[I", Cond.methodLink RX0 109 yX0_findValue, Cond.instanceMethod yX0_findValue, Cond.selects RX0 yX0_findValue yX0_findValue, Cond.code yX0_findValue cX0_findValue 5 (some .int), Cond.fieldLink RX0 17 "GraphSearch" "moveCounts" "[I", Cond.fieldLink RX0 13 "GraphSearch" "losts" "[Z", Cond.fieldLink RX0 9 "GraphSearch" "worths" "[I", Cond.methodLink RX0 112 Lib.Math.max.name, Cond.static Lib.Math.max.name, Cond.initialized "java/lang/Math", Cond.code Lib.Math.max.name Lib.Math.max.code 2 (some .int), Cond.methodLink RX0 88 yX0_moveValue, Cond.instanceMethod yX0_moveValue, Cond.selects RX0 yX0_moveValue yX0_moveValue, Cond.code yX0_moveValue cX0_moveValue 4 (some .int), Cond.fieldLink RX0 20 "GraphSearch" "targets" "[I"]
def wsX0_deepenTo_r2 : List Cond := [Cond.methodLink RX0 73 yX0_place, Cond.static yX0_place, Cond.code yX0_place cX0_place 2 (some .int), Cond.methodLink RX0 117 yX0_halfMoveBack, Cond.static yX0_halfMoveBack, Cond.code yX0_halfMoveBack cX0_halfMoveBack 2 (some .int)]
def wsX0_deepenTo : List Cond := .code yX0_deepenTo cX0_deepenTo 3 none :: ((wsX0_deepenTo_r1 ++ wsX0_deepenTo_r2) ++ wsX00)
def wsX0_value_r1 : List Cond := [Cond.fieldLink RX0 32 "GraphSearch" "table" "[[I", Cond.methodLink RX0 77 yX0_refuseWrongQuestion, Cond.instanceMethod yX0_refuseWrongQuestion, Cond.selects RX0 yX0_refuseWrongQuestion yX0_refuseWrongQuestion, Cond.initialized RX0, Cond.code yX0_refuseWrongQuestion cX0_refuseWrongQuestion 3 none, Cond.classLink RX0 51 "java/lang/IllegalArgumentException", Cond.initialized "java/lang/IllegalArgumentException", Cond.methodLink RX0 66 yX0_isNode, Cond.instanceMethod yX0_isNode, Cond.selects RX0 yX0_isNode yX0_isNode, Cond.code yX0_isNode cX0_isNode 2 (some .boolean), Cond.fieldLink RX0 23 "GraphSearch" "nodeCount" "I", Cond.methodLink RX0 81 yX0_deepenTo, Cond.instanceMethod yX0_deepenTo, Cond.selects RX0 yX0_deepenTo yX0_deepenTo, Cond.code yX0_deepenTo cX0_deepenTo 3 none, Cond.fieldLink RX0 35 "GraphSearch" "rowsFound" "I", Cond.methodLink RX0 106 yX0_findRow, Cond.instanceMethod yX0_findRow, Cond.selects RX0 yX0_findRow yX0_findRow, Cond.code yX0_findRow cX0_findRow 3 none, Cond.methodLink RX0 109 yX0_findValue, Cond.instanceMethod yX0_findValue]
def wsX0_value_r2 : List Cond := [Cond.selects RX0 yX0_findValue yX0_findValue, Cond.code yX0_findValue cX0_findValue 5 (some .int), Cond.fieldLink RX0 17 "GraphSearch" "moveCounts" "[I", Cond.fieldLink RX0 13 "GraphSearch" "losts" "[Z", Cond.fieldLink RX0 9 "GraphSearch" "worths" "[I", Cond.methodLink RX0 112 Lib.Math.max.name, Cond.static Lib.Math.max.name, Cond.initialized "java/lang/Math", Cond.code Lib.Math.max.name Lib.Math.max.code 2 (some .int), Cond.methodLink RX0 88 yX0_moveValue, Cond.instanceMethod yX0_moveValue, Cond.selects RX0 yX0_moveValue yX0_moveValue, Cond.code yX0_moveValue cX0_moveValue 4 (some .int), Cond.fieldLink RX0 20 "GraphSearch" "targets" "[I", Cond.methodLink RX0 73 yX0_place, Cond.static yX0_place, Cond.code yX0_place cX0_place 2 (some .int), Cond.methodLink RX0 117 yX0_halfMoveBack, Cond.static yX0_halfMoveBack, Cond.code yX0_halfMoveBack cX0_halfMoveBack 2 (some .int)]
def wsX0_value : List Cond := .code yX0_value cX0_value 3 (some .int) :: ((wsX0_value_r1 ++ wsX0_value_r2) ++ wsX00 ++ (vx_atS RX0 55 "java/lang/IllegalArgumentException" ["java/lang/RuntimeException", "java/lang/Exception"]).filter goodWord)
def wsX0_bestMove : List Cond := .code yX0_bestMove cX0_bestMove 4 (some .int) :: ([.fieldLink RX0 17 "GraphSearch" "moveCounts" "[I", .fieldLink RX0 32 "GraphSearch" "table" "[[I", .methodLink RX0 88 yX0_moveValue, .instanceMethod yX0_moveValue, .selects RX0 yX0_moveValue yX0_moveValue, .initialized RX0, .code yX0_moveValue cX0_moveValue 4 (some .int), .fieldLink RX0 20 "GraphSearch" "targets" "[I", .methodLink RX0 73 yX0_place, .static yX0_place, .code yX0_place cX0_place 2 (some .int), .methodLink RX0 117 yX0_halfMoveBack, .static yX0_halfMoveBack, .code yX0_halfMoveBack cX0_halfMoveBack 2 (some .int)] ++ wsX00)
def wsX0_best_r1 : List Cond := [Cond.methodLink RX0 77 yX0_refuseWrongQuestion, Cond.instanceMethod yX0_refuseWrongQuestion, Cond.selects RX0 yX0_refuseWrongQuestion yX0_refuseWrongQuestion, Cond.initialized RX0, Cond.code yX0_refuseWrongQuestion cX0_refuseWrongQuestion 3 none, Cond.classLink RX0 51 "java/lang/IllegalArgumentException", Cond.initialized "java/lang/IllegalArgumentException", Cond.methodLink RX0 66 yX0_isNode, Cond.instanceMethod yX0_isNode, Cond.selects RX0 yX0_isNode yX0_isNode, Cond.code yX0_isNode cX0_isNode 2 (some .boolean), Cond.fieldLink RX0 23 "GraphSearch" "nodeCount" "I", Cond.methodLink RX0 81 yX0_deepenTo, Cond.instanceMethod yX0_deepenTo, Cond.selects RX0 yX0_deepenTo yX0_deepenTo, Cond.code yX0_deepenTo cX0_deepenTo 3 none, Cond.fieldLink RX0 35 "GraphSearch" "rowsFound" "I", Cond.methodLink RX0 106 yX0_findRow, Cond.instanceMethod yX0_findRow, Cond.selects RX0 yX0_findRow yX0_findRow, Cond.code yX0_findRow cX0_findRow 3 none, Cond.fieldLink RX0 32 "GraphSearch" "table" "[[I", Cond.methodLink RX0 109 yX0_findValue, Cond.instanceMethod yX0_findValue]
def wsX0_best_r2 : List Cond := [Cond.selects RX0 yX0_findValue yX0_findValue, Cond.code yX0_findValue cX0_findValue 5 (some .int), Cond.fieldLink RX0 17 "GraphSearch" "moveCounts" "[I", Cond.fieldLink RX0 13 "GraphSearch" "losts" "[Z", Cond.fieldLink RX0 9 "GraphSearch" "worths" "[I", Cond.methodLink RX0 112 Lib.Math.max.name, Cond.static Lib.Math.max.name, Cond.initialized "java/lang/Math", Cond.code Lib.Math.max.name Lib.Math.max.code 2 (some .int), Cond.methodLink RX0 88 yX0_moveValue, Cond.instanceMethod yX0_moveValue, Cond.selects RX0 yX0_moveValue yX0_moveValue, Cond.code yX0_moveValue cX0_moveValue 4 (some .int), Cond.fieldLink RX0 20 "GraphSearch" "targets" "[I", Cond.methodLink RX0 73 yX0_place, Cond.static yX0_place, Cond.code yX0_place cX0_place 2 (some .int), Cond.methodLink RX0 117 yX0_halfMoveBack, Cond.static yX0_halfMoveBack, Cond.code yX0_halfMoveBack cX0_halfMoveBack 2 (some .int), Cond.methodLink RX0 85 yX0_bestMove, Cond.instanceMethod yX0_bestMove, Cond.selects RX0 yX0_bestMove yX0_bestMove, Cond.code yX0_bestMove cX0_bestMove 4 (some .int)]
def wsX0_best : List Cond := .code yX0_best cX0_best 3 (some .int) :: ((wsX0_best_r1 ++ wsX0_best_r2) ++ wsX00 ++ (vx_atS RX0 55 "java/lang/IllegalArgumentException" ["java/lang/RuntimeException", "java/lang/Exception"]).filter goodWord)
def wsX0_reaches_r1 : List Cond := [Cond.fieldLink RX0 32 "GraphSearch" "table" "[[I", Cond.methodLink RX0 77 yX0_refuseWrongQuestion, Cond.instanceMethod yX0_refuseWrongQuestion, Cond.selects RX0 yX0_refuseWrongQuestion yX0_refuseWrongQuestion, Cond.initialized RX0, Cond.code yX0_refuseWrongQuestion cX0_refuseWrongQuestion 3 none, Cond.classLink RX0 51 "java/lang/IllegalArgumentException", Cond.initialized "java/lang/IllegalArgumentException", Cond.methodLink RX0 66 yX0_isNode, Cond.instanceMethod yX0_isNode, Cond.selects RX0 yX0_isNode yX0_isNode, Cond.code yX0_isNode cX0_isNode 2 (some .boolean), Cond.fieldLink RX0 23 "GraphSearch" "nodeCount" "I", Cond.methodLink RX0 81 yX0_deepenTo, Cond.instanceMethod yX0_deepenTo, Cond.selects RX0 yX0_deepenTo yX0_deepenTo, Cond.code yX0_deepenTo cX0_deepenTo 3 none, Cond.fieldLink RX0 35 "GraphSearch" "rowsFound" "I", Cond.methodLink RX0 106 yX0_findRow, Cond.instanceMethod yX0_findRow, Cond.selects RX0 yX0_findRow yX0_findRow, Cond.code yX0_findRow cX0_findRow 3 none, Cond.methodLink RX0 109 yX0_findValue, Cond.instanceMethod yX0_findValue]
def wsX0_reaches_r2 : List Cond := [Cond.selects RX0 yX0_findValue yX0_findValue, Cond.code yX0_findValue cX0_findValue 5 (some .int), Cond.fieldLink RX0 17 "GraphSearch" "moveCounts" "[I", Cond.fieldLink RX0 13 "GraphSearch" "losts" "[Z", Cond.fieldLink RX0 9 "GraphSearch" "worths" "[I", Cond.methodLink RX0 112 Lib.Math.max.name, Cond.static Lib.Math.max.name, Cond.initialized "java/lang/Math", Cond.code Lib.Math.max.name Lib.Math.max.code 2 (some .int), Cond.methodLink RX0 88 yX0_moveValue, Cond.instanceMethod yX0_moveValue, Cond.selects RX0 yX0_moveValue yX0_moveValue, Cond.code yX0_moveValue cX0_moveValue 4 (some .int), Cond.fieldLink RX0 20 "GraphSearch" "targets" "[I", Cond.methodLink RX0 73 yX0_place, Cond.static yX0_place, Cond.code yX0_place cX0_place 2 (some .int), Cond.methodLink RX0 117 yX0_halfMoveBack, Cond.static yX0_halfMoveBack, Cond.code yX0_halfMoveBack cX0_halfMoveBack 2 (some .int)]
def wsX0_reaches : List Cond := .code yX0_reaches cX0_reaches 4 (some .boolean) :: ((wsX0_reaches_r1 ++ wsX0_reaches_r2) ++ wsX00 ++ (vx_atS RX0 55 "java/lang/IllegalArgumentException" ["java/lang/RuntimeException", "java/lang/Exception"]).filter goodWord)
def wsX0_line_r1 : List Cond := [Cond.fieldLink RX0 20 "GraphSearch" "targets" "[I", Cond.methodLink RX0 77 yX0_refuseWrongQuestion, Cond.instanceMethod yX0_refuseWrongQuestion, Cond.selects RX0 yX0_refuseWrongQuestion yX0_refuseWrongQuestion, Cond.initialized RX0, Cond.code yX0_refuseWrongQuestion cX0_refuseWrongQuestion 3 none, Cond.classLink RX0 51 "java/lang/IllegalArgumentException", Cond.initialized "java/lang/IllegalArgumentException", Cond.methodLink RX0 66 yX0_isNode, Cond.instanceMethod yX0_isNode, Cond.selects RX0 yX0_isNode yX0_isNode, Cond.code yX0_isNode cX0_isNode 2 (some .boolean), Cond.fieldLink RX0 23 "GraphSearch" "nodeCount" "I", Cond.methodLink RX0 81 yX0_deepenTo, Cond.instanceMethod yX0_deepenTo, Cond.selects RX0 yX0_deepenTo yX0_deepenTo, Cond.code yX0_deepenTo cX0_deepenTo 3 none, Cond.fieldLink RX0 35 "GraphSearch" "rowsFound" "I", Cond.methodLink RX0 106 yX0_findRow, Cond.instanceMethod yX0_findRow, Cond.selects RX0 yX0_findRow yX0_findRow, Cond.code yX0_findRow cX0_findRow 3 none, Cond.fieldLink RX0 32 "GraphSearch" "table" "[[I", Cond.methodLink RX0 109 yX0_findValue]
def wsX0_line_r2 : List Cond := [Cond.instanceMethod yX0_findValue, Cond.selects RX0 yX0_findValue yX0_findValue, Cond.code yX0_findValue cX0_findValue 5 (some .int), Cond.fieldLink RX0 17 "GraphSearch" "moveCounts" "[I", Cond.fieldLink RX0 13 "GraphSearch" "losts" "[Z", Cond.fieldLink RX0 9 "GraphSearch" "worths" "[I", Cond.methodLink RX0 112 Lib.Math.max.name, Cond.static Lib.Math.max.name, Cond.initialized "java/lang/Math", Cond.code Lib.Math.max.name Lib.Math.max.code 2 (some .int), Cond.methodLink RX0 88 yX0_moveValue, Cond.instanceMethod yX0_moveValue, Cond.selects RX0 yX0_moveValue yX0_moveValue, Cond.code yX0_moveValue cX0_moveValue 4 (some .int), Cond.methodLink RX0 73 yX0_place, Cond.static yX0_place, Cond.code yX0_place cX0_place 2 (some .int), Cond.methodLink RX0 117 yX0_halfMoveBack, Cond.static yX0_halfMoveBack, Cond.code yX0_halfMoveBack cX0_halfMoveBack 2 (some .int), Cond.methodLink RX0 85 yX0_bestMove, Cond.instanceMethod yX0_bestMove, Cond.selects RX0 yX0_bestMove yX0_bestMove, Cond.code yX0_bestMove cX0_bestMove 4 (some .int)]
def wsX0_line : List Cond := .code yX0_line cX0_line 7 (some .int) :: ((wsX0_line_r1 ++ wsX0_line_r2) ++ wsX00 ++ (vx_atS RX0 55 "java/lang/IllegalArgumentException" ["java/lang/RuntimeException", "java/lang/Exception"]).filter goodWord)
def wsX0_ties_r1 : List Cond := [Cond.fieldLink RX0 17 "GraphSearch" "moveCounts" "[I", Cond.fieldLink RX0 32 "GraphSearch" "table" "[[I", Cond.methodLink RX0 77 yX0_refuseWrongQuestion, Cond.instanceMethod yX0_refuseWrongQuestion, Cond.selects RX0 yX0_refuseWrongQuestion yX0_refuseWrongQuestion, Cond.initialized RX0, Cond.code yX0_refuseWrongQuestion cX0_refuseWrongQuestion 3 none, Cond.classLink RX0 51 "java/lang/IllegalArgumentException", Cond.initialized "java/lang/IllegalArgumentException", Cond.methodLink RX0 66 yX0_isNode, Cond.instanceMethod yX0_isNode, Cond.selects RX0 yX0_isNode yX0_isNode, Cond.code yX0_isNode cX0_isNode 2 (some .boolean), Cond.fieldLink RX0 23 "GraphSearch" "nodeCount" "I", Cond.methodLink RX0 81 yX0_deepenTo, Cond.instanceMethod yX0_deepenTo, Cond.selects RX0 yX0_deepenTo yX0_deepenTo, Cond.code yX0_deepenTo cX0_deepenTo 3 none, Cond.fieldLink RX0 35 "GraphSearch" "rowsFound" "I", Cond.methodLink RX0 106 yX0_findRow, Cond.instanceMethod yX0_findRow, Cond.selects RX0 yX0_findRow yX0_findRow, Cond.code yX0_findRow cX0_findRow 3 none, Cond.methodLink RX0 109 yX0_findValue]
def wsX0_ties_r2 : List Cond := [Cond.instanceMethod yX0_findValue, Cond.selects RX0 yX0_findValue yX0_findValue, Cond.code yX0_findValue cX0_findValue 5 (some .int), Cond.fieldLink RX0 13 "GraphSearch" "losts" "[Z", Cond.fieldLink RX0 9 "GraphSearch" "worths" "[I", Cond.methodLink RX0 112 Lib.Math.max.name, Cond.static Lib.Math.max.name, Cond.initialized "java/lang/Math", Cond.code Lib.Math.max.name Lib.Math.max.code 2 (some .int), Cond.methodLink RX0 88 yX0_moveValue, Cond.instanceMethod yX0_moveValue, Cond.selects RX0 yX0_moveValue yX0_moveValue, Cond.code yX0_moveValue cX0_moveValue 4 (some .int), Cond.fieldLink RX0 20 "GraphSearch" "targets" "[I", Cond.methodLink RX0 73 yX0_place, Cond.static yX0_place, Cond.code yX0_place cX0_place 2 (some .int), Cond.methodLink RX0 117 yX0_halfMoveBack, Cond.static yX0_halfMoveBack, Cond.code yX0_halfMoveBack cX0_halfMoveBack 2 (some .int)]
def wsX0_ties : List Cond := .code yX0_ties cX0_ties 5 (some .int) :: ((wsX0_ties_r1 ++ wsX0_ties_r2) ++ wsX00 ++ (vx_atS RX0 55 "java/lang/IllegalArgumentException" ["java/lang/RuntimeException", "java/lang/Exception"]).filter goodWord)
def wsX0_settled_r1 : List Cond := [Cond.fieldLink RX0 32 "GraphSearch" "table" "[[I", Cond.methodLink RX0 77 yX0_refuseWrongQuestion, Cond.instanceMethod yX0_refuseWrongQuestion, Cond.selects RX0 yX0_refuseWrongQuestion yX0_refuseWrongQuestion, Cond.initialized RX0, Cond.code yX0_refuseWrongQuestion cX0_refuseWrongQuestion 3 none, Cond.classLink RX0 51 "java/lang/IllegalArgumentException", Cond.initialized "java/lang/IllegalArgumentException", Cond.methodLink RX0 66 yX0_isNode, Cond.instanceMethod yX0_isNode, Cond.selects RX0 yX0_isNode yX0_isNode, Cond.code yX0_isNode cX0_isNode 2 (some .boolean), Cond.fieldLink RX0 23 "GraphSearch" "nodeCount" "I", Cond.methodLink RX0 81 yX0_deepenTo, Cond.instanceMethod yX0_deepenTo, Cond.selects RX0 yX0_deepenTo yX0_deepenTo, Cond.code yX0_deepenTo cX0_deepenTo 3 none, Cond.fieldLink RX0 35 "GraphSearch" "rowsFound" "I", Cond.methodLink RX0 106 yX0_findRow, Cond.instanceMethod yX0_findRow, Cond.selects RX0 yX0_findRow yX0_findRow, Cond.code yX0_findRow cX0_findRow 3 none, Cond.methodLink RX0 109 yX0_findValue, Cond.instanceMethod yX0_findValue]
def wsX0_settled_r2 : List Cond := [Cond.selects RX0 yX0_findValue yX0_findValue, Cond.code yX0_findValue cX0_findValue 5 (some .int), Cond.fieldLink RX0 17 "GraphSearch" "moveCounts" "[I", Cond.fieldLink RX0 13 "GraphSearch" "losts" "[Z", Cond.fieldLink RX0 9 "GraphSearch" "worths" "[I", Cond.methodLink RX0 112 Lib.Math.max.name, Cond.static Lib.Math.max.name, Cond.initialized "java/lang/Math", Cond.code Lib.Math.max.name Lib.Math.max.code 2 (some .int), Cond.methodLink RX0 88 yX0_moveValue, Cond.instanceMethod yX0_moveValue, Cond.selects RX0 yX0_moveValue yX0_moveValue, Cond.code yX0_moveValue cX0_moveValue 4 (some .int), Cond.fieldLink RX0 20 "GraphSearch" "targets" "[I", Cond.methodLink RX0 73 yX0_place, Cond.static yX0_place, Cond.code yX0_place cX0_place 2 (some .int), Cond.methodLink RX0 117 yX0_halfMoveBack, Cond.static yX0_halfMoveBack, Cond.code yX0_halfMoveBack cX0_halfMoveBack 2 (some .int)]
def wsX0_settled : List Cond := .code yX0_settled cX0_settled 4 (some .int) :: ((wsX0_settled_r1 ++ wsX0_settled_r2) ++ wsX00 ++ (vx_atS RX0 55 "java/lang/IllegalArgumentException" ["java/lang/RuntimeException", "java/lang/Exception"]).filter goodWord)
def wsX0_targetOrNone : List Cond := .code yX0_targetOrNone cX0_targetOrNone 3 (some .int) :: ([.fieldLink RX0 17 "GraphSearch" "moveCounts" "[I", .fieldLink RX0 20 "GraphSearch" "targets" "[I", .methodLink RX0 73 yX0_place, .static yX0_place, .initialized RX0, .code yX0_place cX0_place 2 (some .int)] ++ wsX00)
def wsX0_of : List Cond := .code yX0_of cX0_of 3 (some .int) :: ([.fieldLink RX0 9 "GraphSearch" "worths" "[I", .fieldLink RX0 13 "GraphSearch" "losts" "[Z", .fieldLink RX0 17 "GraphSearch" "moveCounts" "[I", .methodLink RX0 66 yX0_isNode, .instanceMethod yX0_isNode, .selects RX0 yX0_isNode yX0_isNode, .initialized RX0, .code yX0_isNode cX0_isNode 2 (some .boolean), .fieldLink RX0 23 "GraphSearch" "nodeCount" "I", .methodLink RX0 92 yX0_targetOrNone, .instanceMethod yX0_targetOrNone, .selects RX0 yX0_targetOrNone yX0_targetOrNone, .code yX0_targetOrNone cX0_targetOrNone 3 (some .int), .fieldLink RX0 20 "GraphSearch" "targets" "[I", .methodLink RX0 73 yX0_place, .static yX0_place, .code yX0_place cX0_place 2 (some .int)] ++ wsX00)
def wsX0_forgetMet : List Cond := .code yX0_forgetMet cX0_forgetMet 2 none :: ([.fieldLink RX0 44 "GraphSearch" "metCount" "I", .fieldLink RX0 41 "GraphSearch" "isMet" "[Z", .fieldLink RX0 38 "GraphSearch" "met" "[I"] ++ wsX00)
def wsX0_meet : List Cond := .code yX0_meet cX0_meet 2 none :: ([.fieldLink RX0 41 "GraphSearch" "isMet" "[Z", .fieldLink RX0 38 "GraphSearch" "met" "[I", .fieldLink RX0 44 "GraphSearch" "metCount" "I"] ++ wsX00)
def wsX0_meetTargets : List Cond := .code yX0_meetTargets cX0_meetTargets 3 none :: ([.fieldLink RX0 17 "GraphSearch" "moveCounts" "[I", .fieldLink RX0 20 "GraphSearch" "targets" "[I", .methodLink RX0 73 yX0_place, .static yX0_place, .initialized RX0, .code yX0_place cX0_place 2 (some .int), .methodLink RX0 98 yX0_meet, .instanceMethod yX0_meet, .selects RX0 yX0_meet yX0_meet, .code yX0_meet cX0_meet 2 none, .fieldLink RX0 41 "GraphSearch" "isMet" "[Z", .fieldLink RX0 38 "GraphSearch" "met" "[I", .fieldLink RX0 44 "GraphSearch" "metCount" "I"] ++ wsX00)
def wsX0_around_r1 : List Cond := [Cond.fieldLink RX0 44 "GraphSearch" "metCount" "I", Cond.fieldLink RX0 38 "GraphSearch" "met" "[I", Cond.methodLink RX0 77 yX0_refuseWrongQuestion, Cond.instanceMethod yX0_refuseWrongQuestion, Cond.selects RX0 yX0_refuseWrongQuestion yX0_refuseWrongQuestion, Cond.initialized RX0, Cond.code yX0_refuseWrongQuestion cX0_refuseWrongQuestion 3 none, Cond.classLink RX0 51 "java/lang/IllegalArgumentException", Cond.initialized "java/lang/IllegalArgumentException", Cond.methodLink RX0 66 yX0_isNode, Cond.instanceMethod yX0_isNode, Cond.selects RX0 yX0_isNode yX0_isNode, Cond.code yX0_isNode cX0_isNode 2 (some .boolean), Cond.fieldLink RX0 23 "GraphSearch" "nodeCount" "I", Cond.methodLink RX0 95 yX0_forgetMet, Cond.instanceMethod yX0_forgetMet, Cond.selects RX0 yX0_forgetMet yX0_forgetMet, Cond.code yX0_forgetMet cX0_forgetMet 2 none, Cond.fieldLink RX0 41 "GraphSearch" "isMet" "[Z", Cond.methodLink RX0 98 yX0_meet, Cond.instanceMethod yX0_meet, Cond.selects RX0 yX0_meet yX0_meet, Cond.code yX0_meet cX0_meet 2 none, Cond.methodLink RX0 101 yX0_meetTargets]
def wsX0_around_r2 : List Cond := [Cond.instanceMethod yX0_meetTargets, Cond.selects RX0 yX0_meetTargets yX0_meetTargets, Cond.code yX0_meetTargets cX0_meetTargets 3 none, Cond.fieldLink RX0 17 "GraphSearch" "moveCounts" "[I", Cond.fieldLink RX0 20 "GraphSearch" "targets" "[I", Cond.methodLink RX0 73 yX0_place, Cond.static yX0_place, Cond.code yX0_place cX0_place 2 (some .int)]
def wsX0_around : List Cond := .code yX0_around cX0_around 6 (some .int) :: ((wsX0_around_r1 ++ wsX0_around_r2) ++ wsX00 ++ (vx_atS RX0 55 "java/lang/IllegalArgumentException" ["java/lang/RuntimeException", "java/lang/Exception"]).filter goodWord)
def wsX0_look : List Cond := .code yX0_look cX0_look 2 (some .int) :: ([.fieldLink RX0 23 "GraphSearch" "nodeCount" "I", .fieldLink RX0 27 "GraphSearch" "allMoves" "I"] ++ wsX00)
def wsX1_init : List Cond := .code yX1_init cX1_init 2 none :: ([.methodLink RX1 1 objectInit, .instanceMethod objectInit, .code objectInit ⟨#[0xb1]⟩ 1 none, .arrayClass .int, .fieldLink RX1 7 "GraphSearchModel" "worth" "[I", .arrayClass .boolean, .fieldLink RX1 13 "GraphSearchModel" "lost" "[Z", .fieldLink RX1 17 "GraphSearchModel" "many" "[I", .fieldLink RX1 20 "GraphSearchModel" "to" "[I", .fieldLink RX1 23 "GraphSearchModel" "values" "[I", .fieldLink RX1 26 "GraphSearchModel" "near" "[I"] ++ wsX10)
def wsX1_thrown : List Cond := .code yX1_thrown cX1_thrown 1 (some .int) :: ([.fieldLink RX1 29 "GraphSearchModel" "thrown" "I"] ++ wsX10)
def wsX1_isNode : List Cond := .code yX1_isNode cX1_isNode 2 (some .boolean) :: ([.fieldLink RX1 33 "GraphSearchModel" "nodes" "I"] ++ wsX10)
def wsX1_isWorth : List Cond := .code yX1_isWorth cX1_isWorth 1 (some .boolean) :: ([])
def wsX1_node : List Cond := .code yX1_node cX1_node 3 (some .int) :: ([.fieldLink RX1 33 "GraphSearchModel" "nodes" "I", .fieldLink RX1 29 "GraphSearchModel" "thrown" "I", .fieldLink RX1 7 "GraphSearchModel" "worth" "[I", .fieldLink RX1 13 "GraphSearchModel" "lost" "[Z", .fieldLink RX1 17 "GraphSearchModel" "many" "[I", .methodLink RX1 36 yX1_isWorth, .static yX1_isWorth, .initialized RX1, .code yX1_isWorth cX1_isWorth 1 (some .boolean)] ++ wsX10)
def wsX1_move : List Cond := .code yX1_move cX1_move 3 (some .int) :: ([.fieldLink RX1 29 "GraphSearchModel" "thrown" "I", .fieldLink RX1 17 "GraphSearchModel" "many" "[I", .fieldLink RX1 20 "GraphSearchModel" "to" "[I", .methodLink RX1 40 yX1_isNode, .instanceMethod yX1_isNode, .selects RX1 yX1_isNode yX1_isNode, .initialized RX1, .code yX1_isNode cX1_isNode 2 (some .boolean), .fieldLink RX1 33 "GraphSearchModel" "nodes" "I"] ++ wsX10)
def wsX1_drop : List Cond := .code yX1_drop cX1_drop 2 (some .boolean) :: ([.fieldLink RX1 29 "GraphSearchModel" "thrown" "I", .fieldLink RX1 17 "GraphSearchModel" "many" "[I", .methodLink RX1 40 yX1_isNode, .instanceMethod yX1_isNode, .selects RX1 yX1_isNode yX1_isNode, .initialized RX1, .code yX1_isNode cX1_isNode 2 (some .boolean), .fieldLink RX1 33 "GraphSearchModel" "nodes" "I"] ++ wsX10)
def wsX1_change : List Cond := .code yX1_change cX1_change 4 (some .boolean) :: ([.fieldLink RX1 29 "GraphSearchModel" "thrown" "I", .fieldLink RX1 7 "GraphSearchModel" "worth" "[I", .fieldLink RX1 13 "GraphSearchModel" "lost" "[Z", .methodLink RX1 40 yX1_isNode, .instanceMethod yX1_isNode, .selects RX1 yX1_isNode yX1_isNode, .initialized RX1, .code yX1_isNode cX1_isNode 2 (some .boolean), .fieldLink RX1 33 "GraphSearchModel" "nodes" "I", .methodLink RX1 36 yX1_isWorth, .static yX1_isWorth, .code yX1_isWorth cX1_isWorth 1 (some .boolean)] ++ wsX10)
def wsX1_behind : List Cond := .code yX1_behind cX1_behind 1 (some .int) :: ([])
def wsX1_given : List Cond := .code yX1_given cX1_given 4 (some .int) :: ([.fieldLink RX1 23 "GraphSearchModel" "values" "[I", .fieldLink RX1 20 "GraphSearchModel" "to" "[I", .methodLink RX1 43 yX1_behind, .static yX1_behind, .initialized RX1, .code yX1_behind cX1_behind 1 (some .int)] ++ wsX10)
def wsX1_greatest : List Cond := .code yX1_greatest cX1_greatest 5 (some .int) :: ([.fieldLink RX1 17 "GraphSearchModel" "many" "[I", .methodLink RX1 47 yX1_given, .instanceMethod yX1_given, .selects RX1 yX1_given yX1_given, .initialized RX1, .code yX1_given cX1_given 4 (some .int), .fieldLink RX1 23 "GraphSearchModel" "values" "[I", .fieldLink RX1 20 "GraphSearchModel" "to" "[I", .methodLink RX1 43 yX1_behind, .static yX1_behind, .code yX1_behind cX1_behind 1 (some .int)] ++ wsX10)
def wsX1_work : List Cond := .code yX1_work cX1_work 5 none :: ([.fieldLink RX1 33 "GraphSearchModel" "nodes" "I", .fieldLink RX1 13 "GraphSearchModel" "lost" "[Z", .fieldLink RX1 23 "GraphSearchModel" "values" "[I", .fieldLink RX1 17 "GraphSearchModel" "many" "[I", .fieldLink RX1 7 "GraphSearchModel" "worth" "[I", .methodLink RX1 51 yX1_greatest, .instanceMethod yX1_greatest, .selects RX1 yX1_greatest yX1_greatest, .initialized RX1, .code yX1_greatest cX1_greatest 5 (some .int), .methodLink RX1 47 yX1_given, .instanceMethod yX1_given, .selects RX1 yX1_given yX1_given, .code yX1_given cX1_given 4 (some .int), .fieldLink RX1 20 "GraphSearchModel" "to" "[I", .methodLink RX1 43 yX1_behind, .static yX1_behind, .code yX1_behind cX1_behind 1 (some .int)] ++ wsX10)
def wsX1_asked_r1 : List Cond := [Cond.fieldLink RX1 29 "GraphSearchModel" "thrown" "I", Cond.methodLink RX1 40 yX1_isNode, Cond.instanceMethod yX1_isNode, Cond.selects RX1 yX1_isNode yX1_isNode, Cond.initialized RX1, Cond.code yX1_isNode cX1_isNode 2 (some .boolean), Cond.fieldLink RX1 33 "GraphSearchModel" "nodes" "I", Cond.methodLink RX1 55 yX1_work, Cond.instanceMethod yX1_work, Cond.selects RX1 yX1_work yX1_work, Cond.code yX1_work cX1_work 5 none, Cond.fieldLink RX1 13 "GraphSearchModel" "lost" "[Z", Cond.fieldLink RX1 23 "GraphSearchModel" "values" "[I", Cond.fieldLink RX1 17 "GraphSearchModel" "many" "[I", Cond.fieldLink RX1 7 "GraphSearchModel" "worth" "[I", Cond.methodLink RX1 51 yX1_greatest, Cond.instanceMethod yX1_greatest, Cond.selects RX1 yX1_greatest yX1_greatest, Cond.code yX1_greatest cX1_greatest 5 (some .int), Cond.methodLink RX1 47 yX1_given, Cond.instanceMethod yX1_given, Cond.selects RX1 yX1_given yX1_given, Cond.code yX1_given cX1_given 4 (some .int), Cond.fieldLink RX1 20 "GraphSearchModel" "to" "[I"]
def wsX1_asked_r2 : List Cond := [Cond.methodLink RX1 43 yX1_behind, Cond.static yX1_behind, Cond.code yX1_behind cX1_behind 1 (some .int)]
def wsX1_asked : List Cond := .code yX1_asked cX1_asked 3 (some .boolean) :: ((wsX1_asked_r1 ++ wsX1_asked_r2) ++ wsX10)
def wsX1_valueOf : List Cond := .code yX1_valueOf cX1_valueOf 3 (some .int) :: ([.fieldLink RX1 23 "GraphSearchModel" "values" "[I"] ++ wsX10)
def wsX1_value_r1 : List Cond := [Cond.methodLink RX1 59 yX1_asked, Cond.instanceMethod yX1_asked, Cond.selects RX1 yX1_asked yX1_asked, Cond.initialized RX1, Cond.code yX1_asked cX1_asked 3 (some .boolean), Cond.fieldLink RX1 29 "GraphSearchModel" "thrown" "I", Cond.methodLink RX1 40 yX1_isNode, Cond.instanceMethod yX1_isNode, Cond.selects RX1 yX1_isNode yX1_isNode, Cond.code yX1_isNode cX1_isNode 2 (some .boolean), Cond.fieldLink RX1 33 "GraphSearchModel" "nodes" "I", Cond.methodLink RX1 55 yX1_work, Cond.instanceMethod yX1_work, Cond.selects RX1 yX1_work yX1_work, Cond.code yX1_work cX1_work 5 none, Cond.fieldLink RX1 13 "GraphSearchModel" "lost" "[Z", Cond.fieldLink RX1 23 "GraphSearchModel" "values" "[I", Cond.fieldLink RX1 17 "GraphSearchModel" "many" "[I", Cond.fieldLink RX1 7 "GraphSearchModel" "worth" "[I", Cond.methodLink RX1 51 yX1_greatest, Cond.instanceMethod yX1_greatest, Cond.selects RX1 yX1_greatest yX1_greatest, Cond.code yX1_greatest cX1_greatest 5 (some .int), Cond.methodLink RX1 47 yX1_given]
def wsX1_value_r2 : List Cond := [Cond.instanceMethod yX1_given, Cond.selects RX1 yX1_given yX1_given, Cond.code yX1_given cX1_given 4 (some .int), Cond.fieldLink RX1 20 "GraphSearchModel" "to" "[I", Cond.methodLink RX1 43 yX1_behind, Cond.static yX1_behind, Cond.code yX1_behind cX1_behind 1 (some .int), Cond.methodLink RX1 63 yX1_valueOf, Cond.instanceMethod yX1_valueOf, Cond.selects RX1 yX1_valueOf yX1_valueOf, Cond.code yX1_valueOf cX1_valueOf 3 (some .int)]
def wsX1_value : List Cond := .code yX1_value cX1_value 3 (some .int) :: ((wsX1_value_r1 ++ wsX1_value_r2) ++ wsX10)
def wsX1_bestOf : List Cond := .code yX1_bestOf cX1_bestOf 4 (some .int) :: ([.fieldLink RX1 17 "GraphSearchModel" "many" "[I", .methodLink RX1 47 yX1_given, .instanceMethod yX1_given, .selects RX1 yX1_given yX1_given, .initialized RX1, .code yX1_given cX1_given 4 (some .int), .fieldLink RX1 23 "GraphSearchModel" "values" "[I", .fieldLink RX1 20 "GraphSearchModel" "to" "[I", .methodLink RX1 43 yX1_behind, .static yX1_behind, .code yX1_behind cX1_behind 1 (some .int), .methodLink RX1 63 yX1_valueOf, .instanceMethod yX1_valueOf, .selects RX1 yX1_valueOf yX1_valueOf, .code yX1_valueOf cX1_valueOf 3 (some .int)] ++ wsX10)
def wsX1_best_r1 : List Cond := [Cond.methodLink RX1 59 yX1_asked, Cond.instanceMethod yX1_asked, Cond.selects RX1 yX1_asked yX1_asked, Cond.initialized RX1, Cond.code yX1_asked cX1_asked 3 (some .boolean), Cond.fieldLink RX1 29 "GraphSearchModel" "thrown" "I", Cond.methodLink RX1 40 yX1_isNode, Cond.instanceMethod yX1_isNode, Cond.selects RX1 yX1_isNode yX1_isNode, Cond.code yX1_isNode cX1_isNode 2 (some .boolean), Cond.fieldLink RX1 33 "GraphSearchModel" "nodes" "I", Cond.methodLink RX1 55 yX1_work, Cond.instanceMethod yX1_work, Cond.selects RX1 yX1_work yX1_work, Cond.code yX1_work cX1_work 5 none, Cond.fieldLink RX1 13 "GraphSearchModel" "lost" "[Z", Cond.fieldLink RX1 23 "GraphSearchModel" "values" "[I", Cond.fieldLink RX1 17 "GraphSearchModel" "many" "[I", Cond.fieldLink RX1 7 "GraphSearchModel" "worth" "[I", Cond.methodLink RX1 51 yX1_greatest, Cond.instanceMethod yX1_greatest, Cond.selects RX1 yX1_greatest yX1_greatest, Cond.code yX1_greatest cX1_greatest 5 (some .int), Cond.methodLink RX1 47 yX1_given]
def wsX1_best_r2 : List Cond := [Cond.instanceMethod yX1_given, Cond.selects RX1 yX1_given yX1_given, Cond.code yX1_given cX1_given 4 (some .int), Cond.fieldLink RX1 20 "GraphSearchModel" "to" "[I", Cond.methodLink RX1 43 yX1_behind, Cond.static yX1_behind, Cond.code yX1_behind cX1_behind 1 (some .int), Cond.methodLink RX1 66 yX1_bestOf, Cond.instanceMethod yX1_bestOf, Cond.selects RX1 yX1_bestOf yX1_bestOf, Cond.code yX1_bestOf cX1_bestOf 4 (some .int), Cond.methodLink RX1 63 yX1_valueOf, Cond.instanceMethod yX1_valueOf, Cond.selects RX1 yX1_valueOf yX1_valueOf, Cond.code yX1_valueOf cX1_valueOf 3 (some .int)]
def wsX1_best : List Cond := .code yX1_best cX1_best 3 (some .int) :: ((wsX1_best_r1 ++ wsX1_best_r2) ++ wsX10)
def wsX1_reaches_r1 : List Cond := [Cond.methodLink RX1 59 yX1_asked, Cond.instanceMethod yX1_asked, Cond.selects RX1 yX1_asked yX1_asked, Cond.initialized RX1, Cond.code yX1_asked cX1_asked 3 (some .boolean), Cond.fieldLink RX1 29 "GraphSearchModel" "thrown" "I", Cond.methodLink RX1 40 yX1_isNode, Cond.instanceMethod yX1_isNode, Cond.selects RX1 yX1_isNode yX1_isNode, Cond.code yX1_isNode cX1_isNode 2 (some .boolean), Cond.fieldLink RX1 33 "GraphSearchModel" "nodes" "I", Cond.methodLink RX1 55 yX1_work, Cond.instanceMethod yX1_work, Cond.selects RX1 yX1_work yX1_work, Cond.code yX1_work cX1_work 5 none, Cond.fieldLink RX1 13 "GraphSearchModel" "lost" "[Z", Cond.fieldLink RX1 23 "GraphSearchModel" "values" "[I", Cond.fieldLink RX1 17 "GraphSearchModel" "many" "[I", Cond.fieldLink RX1 7 "GraphSearchModel" "worth" "[I", Cond.methodLink RX1 51 yX1_greatest, Cond.instanceMethod yX1_greatest, Cond.selects RX1 yX1_greatest yX1_greatest, Cond.code yX1_greatest cX1_greatest 5 (some .int), Cond.methodLink RX1 47 yX1_given]
def wsX1_reaches_r2 : List Cond := [Cond.instanceMethod yX1_given, Cond.selects RX1 yX1_given yX1_given, Cond.code yX1_given cX1_given 4 (some .int), Cond.fieldLink RX1 20 "GraphSearchModel" "to" "[I", Cond.methodLink RX1 43 yX1_behind, Cond.static yX1_behind, Cond.code yX1_behind cX1_behind 1 (some .int), Cond.methodLink RX1 63 yX1_valueOf, Cond.instanceMethod yX1_valueOf, Cond.selects RX1 yX1_valueOf yX1_valueOf, Cond.code yX1_valueOf cX1_valueOf 3 (some .int)]
def wsX1_reaches : List Cond := .code yX1_reaches cX1_reaches 4 (some .boolean) :: ((wsX1_reaches_r1 ++ wsX1_reaches_r2) ++ wsX10)
def wsX1_line_r1 : List Cond := [Cond.fieldLink RX1 20 "GraphSearchModel" "to" "[I", Cond.methodLink RX1 59 yX1_asked, Cond.instanceMethod yX1_asked, Cond.selects RX1 yX1_asked yX1_asked, Cond.initialized RX1, Cond.code yX1_asked cX1_asked 3 (some .boolean), Cond.fieldLink RX1 29 "GraphSearchModel" "thrown" "I", Cond.methodLink RX1 40 yX1_isNode, Cond.instanceMethod yX1_isNode, Cond.selects RX1 yX1_isNode yX1_isNode, Cond.code yX1_isNode cX1_isNode 2 (some .boolean), Cond.fieldLink RX1 33 "GraphSearchModel" "nodes" "I", Cond.methodLink RX1 55 yX1_work, Cond.instanceMethod yX1_work, Cond.selects RX1 yX1_work yX1_work, Cond.code yX1_work cX1_work 5 none, Cond.fieldLink RX1 13 "GraphSearchModel" "lost" "[Z", Cond.fieldLink RX1 23 "GraphSearchModel" "values" "[I", Cond.fieldLink RX1 17 "GraphSearchModel" "many" "[I", Cond.fieldLink RX1 7 "GraphSearchModel" "worth" "[I", Cond.methodLink RX1 51 yX1_greatest, Cond.instanceMethod yX1_greatest, Cond.selects RX1 yX1_greatest yX1_greatest, Cond.code yX1_greatest cX1_greatest 5 (some .int)]
def wsX1_line_r2 : List Cond := [Cond.methodLink RX1 47 yX1_given, Cond.instanceMethod yX1_given, Cond.selects RX1 yX1_given yX1_given, Cond.code yX1_given cX1_given 4 (some .int), Cond.methodLink RX1 43 yX1_behind, Cond.static yX1_behind, Cond.code yX1_behind cX1_behind 1 (some .int), Cond.methodLink RX1 66 yX1_bestOf, Cond.instanceMethod yX1_bestOf, Cond.selects RX1 yX1_bestOf yX1_bestOf, Cond.code yX1_bestOf cX1_bestOf 4 (some .int), Cond.methodLink RX1 63 yX1_valueOf, Cond.instanceMethod yX1_valueOf, Cond.selects RX1 yX1_valueOf yX1_valueOf, Cond.code yX1_valueOf cX1_valueOf 3 (some .int)]
def wsX1_line : List Cond := .code yX1_line cX1_line 7 (some .int) :: ((wsX1_line_r1 ++ wsX1_line_r2) ++ wsX10)
def wsX1_ties_r1 : List Cond := [Cond.fieldLink RX1 17 "GraphSearchModel" "many" "[I", Cond.methodLink RX1 59 yX1_asked, Cond.instanceMethod yX1_asked, Cond.selects RX1 yX1_asked yX1_asked, Cond.initialized RX1, Cond.code yX1_asked cX1_asked 3 (some .boolean), Cond.fieldLink RX1 29 "GraphSearchModel" "thrown" "I", Cond.methodLink RX1 40 yX1_isNode, Cond.instanceMethod yX1_isNode, Cond.selects RX1 yX1_isNode yX1_isNode, Cond.code yX1_isNode cX1_isNode 2 (some .boolean), Cond.fieldLink RX1 33 "GraphSearchModel" "nodes" "I", Cond.methodLink RX1 55 yX1_work, Cond.instanceMethod yX1_work, Cond.selects RX1 yX1_work yX1_work, Cond.code yX1_work cX1_work 5 none, Cond.fieldLink RX1 13 "GraphSearchModel" "lost" "[Z", Cond.fieldLink RX1 23 "GraphSearchModel" "values" "[I", Cond.fieldLink RX1 7 "GraphSearchModel" "worth" "[I", Cond.methodLink RX1 51 yX1_greatest, Cond.instanceMethod yX1_greatest, Cond.selects RX1 yX1_greatest yX1_greatest, Cond.code yX1_greatest cX1_greatest 5 (some .int), Cond.methodLink RX1 47 yX1_given]
def wsX1_ties_r2 : List Cond := [Cond.instanceMethod yX1_given, Cond.selects RX1 yX1_given yX1_given, Cond.code yX1_given cX1_given 4 (some .int), Cond.fieldLink RX1 20 "GraphSearchModel" "to" "[I", Cond.methodLink RX1 43 yX1_behind, Cond.static yX1_behind, Cond.code yX1_behind cX1_behind 1 (some .int), Cond.methodLink RX1 63 yX1_valueOf, Cond.instanceMethod yX1_valueOf, Cond.selects RX1 yX1_valueOf yX1_valueOf, Cond.code yX1_valueOf cX1_valueOf 3 (some .int)]
def wsX1_ties : List Cond := .code yX1_ties cX1_ties 5 (some .int) :: ((wsX1_ties_r1 ++ wsX1_ties_r2) ++ wsX10)
def wsX1_settled_r1 : List Cond := [Cond.methodLink RX1 59 yX1_asked, Cond.instanceMethod yX1_asked, Cond.selects RX1 yX1_asked yX1_asked, Cond.initialized RX1, Cond.code yX1_asked cX1_asked 3 (some .boolean), Cond.fieldLink RX1 29 "GraphSearchModel" "thrown" "I", Cond.methodLink RX1 40 yX1_isNode, Cond.instanceMethod yX1_isNode, Cond.selects RX1 yX1_isNode yX1_isNode, Cond.code yX1_isNode cX1_isNode 2 (some .boolean), Cond.fieldLink RX1 33 "GraphSearchModel" "nodes" "I", Cond.methodLink RX1 55 yX1_work, Cond.instanceMethod yX1_work, Cond.selects RX1 yX1_work yX1_work, Cond.code yX1_work cX1_work 5 none, Cond.fieldLink RX1 13 "GraphSearchModel" "lost" "[Z", Cond.fieldLink RX1 23 "GraphSearchModel" "values" "[I", Cond.fieldLink RX1 17 "GraphSearchModel" "many" "[I", Cond.fieldLink RX1 7 "GraphSearchModel" "worth" "[I", Cond.methodLink RX1 51 yX1_greatest, Cond.instanceMethod yX1_greatest, Cond.selects RX1 yX1_greatest yX1_greatest, Cond.code yX1_greatest cX1_greatest 5 (some .int), Cond.methodLink RX1 47 yX1_given]
def wsX1_settled_r2 : List Cond := [Cond.instanceMethod yX1_given, Cond.selects RX1 yX1_given yX1_given, Cond.code yX1_given cX1_given 4 (some .int), Cond.fieldLink RX1 20 "GraphSearchModel" "to" "[I", Cond.methodLink RX1 43 yX1_behind, Cond.static yX1_behind, Cond.code yX1_behind cX1_behind 1 (some .int), Cond.methodLink RX1 63 yX1_valueOf, Cond.instanceMethod yX1_valueOf, Cond.selects RX1 yX1_valueOf yX1_valueOf, Cond.code yX1_valueOf cX1_valueOf 3 (some .int)]
def wsX1_settled : List Cond := .code yX1_settled cX1_settled 5 (some .int) :: ((wsX1_settled_r1 ++ wsX1_settled_r2) ++ wsX10)
def wsX1_of : List Cond := .code yX1_of cX1_of 3 (some .int) :: ([.fieldLink RX1 29 "GraphSearchModel" "thrown" "I", .fieldLink RX1 7 "GraphSearchModel" "worth" "[I", .fieldLink RX1 13 "GraphSearchModel" "lost" "[Z", .fieldLink RX1 17 "GraphSearchModel" "many" "[I", .fieldLink RX1 20 "GraphSearchModel" "to" "[I", .methodLink RX1 40 yX1_isNode, .instanceMethod yX1_isNode, .selects RX1 yX1_isNode yX1_isNode, .initialized RX1, .code yX1_isNode cX1_isNode 2 (some .boolean), .fieldLink RX1 33 "GraphSearchModel" "nodes" "I"] ++ wsX10)
def wsX1_around : List Cond := .code yX1_around cX1_around 7 (some .int) :: ([.fieldLink RX1 29 "GraphSearchModel" "thrown" "I", .fieldLink RX1 33 "GraphSearchModel" "nodes" "I", .fieldLink RX1 26 "GraphSearchModel" "near" "[I", .fieldLink RX1 17 "GraphSearchModel" "many" "[I", .fieldLink RX1 20 "GraphSearchModel" "to" "[I", .methodLink RX1 40 yX1_isNode, .instanceMethod yX1_isNode, .selects RX1 yX1_isNode yX1_isNode, .initialized RX1, .code yX1_isNode cX1_isNode 2 (some .boolean)] ++ wsX10)
def wsX1_look : List Cond := .code yX1_look cX1_look 4 (some .int) :: ([.fieldLink RX1 29 "GraphSearchModel" "thrown" "I", .fieldLink RX1 33 "GraphSearchModel" "nodes" "I", .fieldLink RX1 17 "GraphSearchModel" "many" "[I"] ++ wsX10)
def wsJ9_max_7cf53 : List Cond := .code yJ9_max_7cf53 cJ9_max_7cf53 2 (some .int) :: ([])
def wsL_cell : List Cond := .code yL_cell cL_cell 2 (some .int) :: ([])
def wsL_node : List Cond := .codeWith yL_node cL_node 5 (some .int) [(0, 10, 13, 13), (0, 10, 17, 15)] :: ([.classLink RL 13 "java/lang/IllegalArgumentException", .classLink RL 15 "java/lang/IllegalStateException", .methodLink RL 7 yX0_node, .instanceMethod yX0_node, .selects RX0 yX0_node yX0_node, .initialized RX0, .code yX0_node cX0_node 4 (some .int), .classLink RX0 51 "java/lang/IllegalArgumentException", .initialized "java/lang/IllegalArgumentException", .classLink RX0 58 "java/lang/IllegalStateException", .initialized "java/lang/IllegalStateException", .fieldLink RX0 23 "GraphSearch" "nodeCount" "I", .fieldLink RX0 9 "GraphSearch" "worths" "[I", .fieldLink RX0 13 "GraphSearch" "losts" "[Z", .methodLink RX0 47 yX0_isWorth, .static yX0_isWorth, .code yX0_isWorth cX0_isWorth 1 (some .boolean), .methodLink RX0 63 yX0_forgetTable, .instanceMethod yX0_forgetTable, .selects RX0 yX0_forgetTable yX0_forgetTable, .code yX0_forgetTable cX0_forgetTable 1 none, .fieldLink RX0 35 "GraphSearch" "rowsFound" "I"] ++ wsX00 ++ (vx_atS RX0 55 "java/lang/IllegalArgumentException" ["java/lang/RuntimeException", "java/lang/Exception"]).filter goodWord ++ (vx_atS RX0 62 "java/lang/IllegalStateException" ["java/lang/RuntimeException", "java/lang/Exception"]).filter goodWord)
def wsL_move_r1 : List Cond := [Cond.classLink RL 13 "java/lang/IllegalArgumentException", Cond.classLink RL 15 "java/lang/IllegalStateException", Cond.methodLink RL 17 yX0_move, Cond.instanceMethod yX0_move, Cond.selects RX0 yX0_move yX0_move, Cond.initialized RX0, Cond.code yX0_move cX0_move 4 (some .int), Cond.classLink RX0 51 "java/lang/IllegalArgumentException", Cond.initialized "java/lang/IllegalArgumentException", Cond.classLink RX0 58 "java/lang/IllegalStateException", Cond.initialized "java/lang/IllegalStateException", Cond.fieldLink RX0 17 "GraphSearch" "moveCounts" "[I", Cond.fieldLink RX0 20 "GraphSearch" "targets" "[I", Cond.fieldLink RX0 27 "GraphSearch" "allMoves" "I", Cond.methodLink RX0 66 yX0_isNode, Cond.instanceMethod yX0_isNode, Cond.selects RX0 yX0_isNode yX0_isNode, Cond.code yX0_isNode cX0_isNode 2 (some .boolean), Cond.fieldLink RX0 23 "GraphSearch" "nodeCount" "I", Cond.methodLink RX0 73 yX0_place, Cond.static yX0_place, Cond.code yX0_place cX0_place 2 (some .int), Cond.methodLink RX0 63 yX0_forgetTable, Cond.instanceMethod yX0_forgetTable]
def wsL_move_r2 : List Cond := [Cond.selects RX0 yX0_forgetTable yX0_forgetTable, Cond.code yX0_forgetTable cX0_forgetTable 1 none, Cond.fieldLink RX0 35 "GraphSearch" "rowsFound" "I"]
def wsL_move : List Cond := .codeWith yL_move cL_move 5 (some .int) [(0, 10, 13, 13), (0, 10, 17, 15)] :: ((wsL_move_r1 ++ wsL_move_r2) ++ wsX00 ++ (vx_atS RX0 55 "java/lang/IllegalArgumentException" ["java/lang/RuntimeException", "java/lang/Exception"]).filter goodWord ++ (vx_atS RX0 62 "java/lang/IllegalStateException" ["java/lang/RuntimeException", "java/lang/Exception"]).filter goodWord)
def wsL_value_r1 : List Cond := [Cond.classLink RL 13 "java/lang/IllegalArgumentException", Cond.methodLink RL 21 yX0_value, Cond.instanceMethod yX0_value, Cond.selects RX0 yX0_value yX0_value, Cond.initialized RX0, Cond.code yX0_value cX0_value 3 (some .int), Cond.fieldLink RX0 32 "GraphSearch" "table" "[[I", Cond.methodLink RX0 77 yX0_refuseWrongQuestion, Cond.instanceMethod yX0_refuseWrongQuestion, Cond.selects RX0 yX0_refuseWrongQuestion yX0_refuseWrongQuestion, Cond.code yX0_refuseWrongQuestion cX0_refuseWrongQuestion 3 none, Cond.classLink RX0 51 "java/lang/IllegalArgumentException", Cond.initialized "java/lang/IllegalArgumentException", Cond.methodLink RX0 66 yX0_isNode, Cond.instanceMethod yX0_isNode, Cond.selects RX0 yX0_isNode yX0_isNode, Cond.code yX0_isNode cX0_isNode 2 (some .boolean), Cond.fieldLink RX0 23 "GraphSearch" "nodeCount" "I", Cond.methodLink RX0 81 yX0_deepenTo, Cond.instanceMethod yX0_deepenTo, Cond.selects RX0 yX0_deepenTo yX0_deepenTo, Cond.code yX0_deepenTo cX0_deepenTo 3 none, Cond.fieldLink RX0 35 "GraphSearch" "rowsFound" "I", Cond.methodLink RX0 106 yX0_findRow]
def wsL_value_r2 : List Cond := [Cond.instanceMethod yX0_findRow, Cond.selects RX0 yX0_findRow yX0_findRow, Cond.code yX0_findRow cX0_findRow 3 none, Cond.methodLink RX0 109 yX0_findValue, Cond.instanceMethod yX0_findValue, Cond.selects RX0 yX0_findValue yX0_findValue, Cond.code yX0_findValue cX0_findValue 5 (some .int), Cond.fieldLink RX0 17 "GraphSearch" "moveCounts" "[I", Cond.fieldLink RX0 13 "GraphSearch" "losts" "[Z", Cond.fieldLink RX0 9 "GraphSearch" "worths" "[I", Cond.methodLink RX0 112 Lib.Math.max.name, Cond.static Lib.Math.max.name, Cond.initialized "java/lang/Math", Cond.code Lib.Math.max.name Lib.Math.max.code 2 (some .int), Cond.methodLink RX0 88 yX0_moveValue, Cond.instanceMethod yX0_moveValue, Cond.selects RX0 yX0_moveValue yX0_moveValue, Cond.code yX0_moveValue cX0_moveValue 4 (some .int), Cond.fieldLink RX0 20 "GraphSearch" "targets" "[I", Cond.methodLink RX0 73 yX0_place, Cond.static yX0_place, Cond.code yX0_place cX0_place 2 (some .int), Cond.methodLink RX0 117 yX0_halfMoveBack, Cond.static yX0_halfMoveBack]
def wsL_value_r3 : List Cond := [Cond.code yX0_halfMoveBack cX0_halfMoveBack 2 (some .int)]
def wsL_value : List Cond := .codeWith yL_value cL_value 5 (some .int) [(0, 10, 13, 13)] :: ((wsL_value_r1 ++ (wsL_value_r2 ++ wsL_value_r3)) ++ wsX00 ++ (vx_atS RX0 55 "java/lang/IllegalArgumentException" ["java/lang/RuntimeException", "java/lang/Exception"]).filter goodWord)
def wsL_best_r1 : List Cond := [Cond.classLink RL 13 "java/lang/IllegalArgumentException", Cond.methodLink RL 24 yX0_best, Cond.instanceMethod yX0_best, Cond.selects RX0 yX0_best yX0_best, Cond.initialized RX0, Cond.code yX0_best cX0_best 3 (some .int), Cond.methodLink RX0 77 yX0_refuseWrongQuestion, Cond.instanceMethod yX0_refuseWrongQuestion, Cond.selects RX0 yX0_refuseWrongQuestion yX0_refuseWrongQuestion, Cond.code yX0_refuseWrongQuestion cX0_refuseWrongQuestion 3 none, Cond.classLink RX0 51 "java/lang/IllegalArgumentException", Cond.initialized "java/lang/IllegalArgumentException", Cond.methodLink RX0 66 yX0_isNode, Cond.instanceMethod yX0_isNode, Cond.selects RX0 yX0_isNode yX0_isNode, Cond.code yX0_isNode cX0_isNode 2 (some .boolean), Cond.fieldLink RX0 23 "GraphSearch" "nodeCount" "I", Cond.methodLink RX0 81 yX0_deepenTo, Cond.instanceMethod yX0_deepenTo, Cond.selects RX0 yX0_deepenTo yX0_deepenTo, Cond.code yX0_deepenTo cX0_deepenTo 3 none, Cond.fieldLink RX0 35 "GraphSearch" "rowsFound" "I", Cond.methodLink RX0 106 yX0_findRow, Cond.instanceMethod yX0_findRow]
def wsL_best_r2 : List Cond := [Cond.selects RX0 yX0_findRow yX0_findRow, Cond.code yX0_findRow cX0_findRow 3 none, Cond.fieldLink RX0 32 "GraphSearch" "table" "[[I", Cond.methodLink RX0 109 yX0_findValue, Cond.instanceMethod yX0_findValue, Cond.selects RX0 yX0_findValue yX0_findValue, Cond.code yX0_findValue cX0_findValue 5 (some .int), Cond.fieldLink RX0 17 "GraphSearch" "moveCounts" "[I", Cond.fieldLink RX0 13 "GraphSearch" "losts" "[Z", Cond.fieldLink RX0 9 "GraphSearch" "worths" "[I", Cond.methodLink RX0 112 Lib.Math.max.name, Cond.static Lib.Math.max.name, Cond.initialized "java/lang/Math", Cond.code Lib.Math.max.name Lib.Math.max.code 2 (some .int), Cond.methodLink RX0 88 yX0_moveValue, Cond.instanceMethod yX0_moveValue, Cond.selects RX0 yX0_moveValue yX0_moveValue, Cond.code yX0_moveValue cX0_moveValue 4 (some .int), Cond.fieldLink RX0 20 "GraphSearch" "targets" "[I", Cond.methodLink RX0 73 yX0_place, Cond.static yX0_place, Cond.code yX0_place cX0_place 2 (some .int), Cond.methodLink RX0 117 yX0_halfMoveBack, Cond.static yX0_halfMoveBack]
def wsL_best_r3 : List Cond := [Cond.code yX0_halfMoveBack cX0_halfMoveBack 2 (some .int), Cond.methodLink RX0 85 yX0_bestMove, Cond.instanceMethod yX0_bestMove, Cond.selects RX0 yX0_bestMove yX0_bestMove, Cond.code yX0_bestMove cX0_bestMove 4 (some .int)]
def wsL_best : List Cond := .codeWith yL_best cL_best 5 (some .int) [(0, 10, 13, 13)] :: ((wsL_best_r1 ++ (wsL_best_r2 ++ wsL_best_r3)) ++ wsX00 ++ (vx_atS RX0 55 "java/lang/IllegalArgumentException" ["java/lang/RuntimeException", "java/lang/Exception"]).filter goodWord)
def wsL_reaches_r1 : List Cond := [Cond.classLink RL 13 "java/lang/IllegalArgumentException", Cond.methodLink RL 27 yX0_reaches, Cond.instanceMethod yX0_reaches, Cond.selects RX0 yX0_reaches yX0_reaches, Cond.initialized RX0, Cond.code yX0_reaches cX0_reaches 4 (some .boolean), Cond.fieldLink RX0 32 "GraphSearch" "table" "[[I", Cond.methodLink RX0 77 yX0_refuseWrongQuestion, Cond.instanceMethod yX0_refuseWrongQuestion, Cond.selects RX0 yX0_refuseWrongQuestion yX0_refuseWrongQuestion, Cond.code yX0_refuseWrongQuestion cX0_refuseWrongQuestion 3 none, Cond.classLink RX0 51 "java/lang/IllegalArgumentException", Cond.initialized "java/lang/IllegalArgumentException", Cond.methodLink RX0 66 yX0_isNode, Cond.instanceMethod yX0_isNode, Cond.selects RX0 yX0_isNode yX0_isNode, Cond.code yX0_isNode cX0_isNode 2 (some .boolean), Cond.fieldLink RX0 23 "GraphSearch" "nodeCount" "I", Cond.methodLink RX0 81 yX0_deepenTo, Cond.instanceMethod yX0_deepenTo, Cond.selects RX0 yX0_deepenTo yX0_deepenTo, Cond.code yX0_deepenTo cX0_deepenTo 3 none, Cond.fieldLink RX0 35 "GraphSearch" "rowsFound" "I", Cond.methodLink RX0 106 yX0_findRow]
def wsL_reaches_r2 : List Cond := [Cond.instanceMethod yX0_findRow, Cond.selects RX0 yX0_findRow yX0_findRow, Cond.code yX0_findRow cX0_findRow 3 none, Cond.methodLink RX0 109 yX0_findValue, Cond.instanceMethod yX0_findValue, Cond.selects RX0 yX0_findValue yX0_findValue, Cond.code yX0_findValue cX0_findValue 5 (some .int), Cond.fieldLink RX0 17 "GraphSearch" "moveCounts" "[I", Cond.fieldLink RX0 13 "GraphSearch" "losts" "[Z", Cond.fieldLink RX0 9 "GraphSearch" "worths" "[I", Cond.methodLink RX0 112 Lib.Math.max.name, Cond.static Lib.Math.max.name, Cond.initialized "java/lang/Math", Cond.code Lib.Math.max.name Lib.Math.max.code 2 (some .int), Cond.methodLink RX0 88 yX0_moveValue, Cond.instanceMethod yX0_moveValue, Cond.selects RX0 yX0_moveValue yX0_moveValue, Cond.code yX0_moveValue cX0_moveValue 4 (some .int), Cond.fieldLink RX0 20 "GraphSearch" "targets" "[I", Cond.methodLink RX0 73 yX0_place, Cond.static yX0_place, Cond.code yX0_place cX0_place 2 (some .int), Cond.methodLink RX0 117 yX0_halfMoveBack, Cond.static yX0_halfMoveBack]
def wsL_reaches_r3 : List Cond := [Cond.code yX0_halfMoveBack cX0_halfMoveBack 2 (some .int)]
def wsL_reaches : List Cond := .codeWith yL_reaches cL_reaches 6 (some .int) [(0, 19, 22, 13)] :: ((wsL_reaches_r1 ++ (wsL_reaches_r2 ++ wsL_reaches_r3)) ++ wsX00 ++ (vx_atS RX0 55 "java/lang/IllegalArgumentException" ["java/lang/RuntimeException", "java/lang/Exception"]).filter goodWord)
def wsL_line_r1 : List Cond := [Cond.classLink RL 13 "java/lang/IllegalArgumentException", Cond.methodLink RL 31 yX0_line, Cond.instanceMethod yX0_line, Cond.selects RX0 yX0_line yX0_line, Cond.initialized RX0, Cond.code yX0_line cX0_line 7 (some .int), Cond.fieldLink RX0 20 "GraphSearch" "targets" "[I", Cond.methodLink RX0 77 yX0_refuseWrongQuestion, Cond.instanceMethod yX0_refuseWrongQuestion, Cond.selects RX0 yX0_refuseWrongQuestion yX0_refuseWrongQuestion, Cond.code yX0_refuseWrongQuestion cX0_refuseWrongQuestion 3 none, Cond.classLink RX0 51 "java/lang/IllegalArgumentException", Cond.initialized "java/lang/IllegalArgumentException", Cond.methodLink RX0 66 yX0_isNode, Cond.instanceMethod yX0_isNode, Cond.selects RX0 yX0_isNode yX0_isNode, Cond.code yX0_isNode cX0_isNode 2 (some .boolean), Cond.fieldLink RX0 23 "GraphSearch" "nodeCount" "I", Cond.methodLink RX0 81 yX0_deepenTo, Cond.instanceMethod yX0_deepenTo, Cond.selects RX0 yX0_deepenTo yX0_deepenTo, Cond.code yX0_deepenTo cX0_deepenTo 3 none, Cond.fieldLink RX0 35 "GraphSearch" "rowsFound" "I", Cond.methodLink RX0 106 yX0_findRow]
def wsL_line_r2 : List Cond := [Cond.instanceMethod yX0_findRow, Cond.selects RX0 yX0_findRow yX0_findRow, Cond.code yX0_findRow cX0_findRow 3 none, Cond.fieldLink RX0 32 "GraphSearch" "table" "[[I", Cond.methodLink RX0 109 yX0_findValue, Cond.instanceMethod yX0_findValue, Cond.selects RX0 yX0_findValue yX0_findValue, Cond.code yX0_findValue cX0_findValue 5 (some .int), Cond.fieldLink RX0 17 "GraphSearch" "moveCounts" "[I", Cond.fieldLink RX0 13 "GraphSearch" "losts" "[Z", Cond.fieldLink RX0 9 "GraphSearch" "worths" "[I", Cond.methodLink RX0 112 Lib.Math.max.name, Cond.static Lib.Math.max.name, Cond.initialized "java/lang/Math", Cond.code Lib.Math.max.name Lib.Math.max.code 2 (some .int), Cond.methodLink RX0 88 yX0_moveValue, Cond.instanceMethod yX0_moveValue, Cond.selects RX0 yX0_moveValue yX0_moveValue, Cond.code yX0_moveValue cX0_moveValue 4 (some .int), Cond.methodLink RX0 73 yX0_place, Cond.static yX0_place, Cond.code yX0_place cX0_place 2 (some .int), Cond.methodLink RX0 117 yX0_halfMoveBack, Cond.static yX0_halfMoveBack]
def wsL_line_r3 : List Cond := [Cond.code yX0_halfMoveBack cX0_halfMoveBack 2 (some .int), Cond.methodLink RX0 85 yX0_bestMove, Cond.instanceMethod yX0_bestMove, Cond.selects RX0 yX0_bestMove yX0_bestMove, Cond.code yX0_bestMove cX0_bestMove 4 (some .int)]
def wsL_line : List Cond := .codeWith yL_line cL_line 6 (some .int) [(0, 12, 15, 13)] :: ((wsL_line_r1 ++ (wsL_line_r2 ++ wsL_line_r3)) ++ wsX00 ++ (vx_atS RX0 55 "java/lang/IllegalArgumentException" ["java/lang/RuntimeException", "java/lang/Exception"]).filter goodWord)
def wsL_ties_r1 : List Cond := [Cond.classLink RL 13 "java/lang/IllegalArgumentException", Cond.methodLink RL 35 yX0_ties, Cond.instanceMethod yX0_ties, Cond.selects RX0 yX0_ties yX0_ties, Cond.initialized RX0, Cond.code yX0_ties cX0_ties 5 (some .int), Cond.fieldLink RX0 17 "GraphSearch" "moveCounts" "[I", Cond.fieldLink RX0 32 "GraphSearch" "table" "[[I", Cond.methodLink RX0 77 yX0_refuseWrongQuestion, Cond.instanceMethod yX0_refuseWrongQuestion, Cond.selects RX0 yX0_refuseWrongQuestion yX0_refuseWrongQuestion, Cond.code yX0_refuseWrongQuestion cX0_refuseWrongQuestion 3 none, Cond.classLink RX0 51 "java/lang/IllegalArgumentException", Cond.initialized "java/lang/IllegalArgumentException", Cond.methodLink RX0 66 yX0_isNode, Cond.instanceMethod yX0_isNode, Cond.selects RX0 yX0_isNode yX0_isNode, Cond.code yX0_isNode cX0_isNode 2 (some .boolean), Cond.fieldLink RX0 23 "GraphSearch" "nodeCount" "I", Cond.methodLink RX0 81 yX0_deepenTo, Cond.instanceMethod yX0_deepenTo, Cond.selects RX0 yX0_deepenTo yX0_deepenTo, Cond.code yX0_deepenTo cX0_deepenTo 3 none, Cond.fieldLink RX0 35 "GraphSearch" "rowsFound" "I"]
def wsL_ties_r2 : List Cond := [Cond.methodLink RX0 106 yX0_findRow, Cond.instanceMethod yX0_findRow, Cond.selects RX0 yX0_findRow yX0_findRow, Cond.code yX0_findRow cX0_findRow 3 none, Cond.methodLink RX0 109 yX0_findValue, Cond.instanceMethod yX0_findValue, Cond.selects RX0 yX0_findValue yX0_findValue, Cond.code yX0_findValue cX0_findValue 5 (some .int), Cond.fieldLink RX0 13 "GraphSearch" "losts" "[Z", Cond.fieldLink RX0 9 "GraphSearch" "worths" "[I", Cond.methodLink RX0 112 Lib.Math.max.name, Cond.static Lib.Math.max.name, Cond.initialized "java/lang/Math", Cond.code Lib.Math.max.name Lib.Math.max.code 2 (some .int), Cond.methodLink RX0 88 yX0_moveValue, Cond.instanceMethod yX0_moveValue, Cond.selects RX0 yX0_moveValue yX0_moveValue, Cond.code yX0_moveValue cX0_moveValue 4 (some .int), Cond.fieldLink RX0 20 "GraphSearch" "targets" "[I", Cond.methodLink RX0 73 yX0_place, Cond.static yX0_place, Cond.code yX0_place cX0_place 2 (some .int), Cond.methodLink RX0 117 yX0_halfMoveBack, Cond.static yX0_halfMoveBack]
def wsL_ties_r3 : List Cond := [Cond.code yX0_halfMoveBack cX0_halfMoveBack 2 (some .int)]
def wsL_ties : List Cond := .codeWith yL_ties cL_ties 5 (some .int) [(0, 10, 13, 13)] :: ((wsL_ties_r1 ++ (wsL_ties_r2 ++ wsL_ties_r3)) ++ wsX00 ++ (vx_atS RX0 55 "java/lang/IllegalArgumentException" ["java/lang/RuntimeException", "java/lang/Exception"]).filter goodWord)
def wsL_settled_r1 : List Cond := [Cond.classLink RL 13 "java/lang/IllegalArgumentException", Cond.methodLink RL 38 yX0_settled, Cond.instanceMethod yX0_settled, Cond.selects RX0 yX0_settled yX0_settled, Cond.initialized RX0, Cond.code yX0_settled cX0_settled 4 (some .int), Cond.fieldLink RX0 32 "GraphSearch" "table" "[[I", Cond.methodLink RX0 77 yX0_refuseWrongQuestion, Cond.instanceMethod yX0_refuseWrongQuestion, Cond.selects RX0 yX0_refuseWrongQuestion yX0_refuseWrongQuestion, Cond.code yX0_refuseWrongQuestion cX0_refuseWrongQuestion 3 none, Cond.classLink RX0 51 "java/lang/IllegalArgumentException", Cond.initialized "java/lang/IllegalArgumentException", Cond.methodLink RX0 66 yX0_isNode, Cond.instanceMethod yX0_isNode, Cond.selects RX0 yX0_isNode yX0_isNode, Cond.code yX0_isNode cX0_isNode 2 (some .boolean), Cond.fieldLink RX0 23 "GraphSearch" "nodeCount" "I", Cond.methodLink RX0 81 yX0_deepenTo, Cond.instanceMethod yX0_deepenTo, Cond.selects RX0 yX0_deepenTo yX0_deepenTo, Cond.code yX0_deepenTo cX0_deepenTo 3 none, Cond.fieldLink RX0 35 "GraphSearch" "rowsFound" "I", Cond.methodLink RX0 106 yX0_findRow]
def wsL_settled_r2 : List Cond := [Cond.instanceMethod yX0_findRow, Cond.selects RX0 yX0_findRow yX0_findRow, Cond.code yX0_findRow cX0_findRow 3 none, Cond.methodLink RX0 109 yX0_findValue, Cond.instanceMethod yX0_findValue, Cond.selects RX0 yX0_findValue yX0_findValue, Cond.code yX0_findValue cX0_findValue 5 (some .int), Cond.fieldLink RX0 17 "GraphSearch" "moveCounts" "[I", Cond.fieldLink RX0 13 "GraphSearch" "losts" "[Z", Cond.fieldLink RX0 9 "GraphSearch" "worths" "[I", Cond.methodLink RX0 112 Lib.Math.max.name, Cond.static Lib.Math.max.name, Cond.initialized "java/lang/Math", Cond.code Lib.Math.max.name Lib.Math.max.code 2 (some .int), Cond.methodLink RX0 88 yX0_moveValue, Cond.instanceMethod yX0_moveValue, Cond.selects RX0 yX0_moveValue yX0_moveValue, Cond.code yX0_moveValue cX0_moveValue 4 (some .int), Cond.fieldLink RX0 20 "GraphSearch" "targets" "[I", Cond.methodLink RX0 73 yX0_place, Cond.static yX0_place, Cond.code yX0_place cX0_place 2 (some .int), Cond.methodLink RX0 117 yX0_halfMoveBack, Cond.static yX0_halfMoveBack]
def wsL_settled_r3 : List Cond := [Cond.code yX0_halfMoveBack cX0_halfMoveBack 2 (some .int)]
def wsL_settled : List Cond := .codeWith yL_settled cL_settled 5 (some .int) [(0, 10, 13, 13)] :: ((wsL_settled_r1 ++ (wsL_settled_r2 ++ wsL_settled_r3)) ++ wsX00 ++ (vx_atS RX0 55 "java/lang/IllegalArgumentException" ["java/lang/RuntimeException", "java/lang/Exception"]).filter goodWord)
def wsL_around_r1 : List Cond := [Cond.classLink RL 13 "java/lang/IllegalArgumentException", Cond.methodLink RL 41 yX0_around, Cond.instanceMethod yX0_around, Cond.selects RX0 yX0_around yX0_around, Cond.initialized RX0, Cond.code yX0_around cX0_around 6 (some .int), Cond.fieldLink RX0 44 "GraphSearch" "metCount" "I", Cond.fieldLink RX0 38 "GraphSearch" "met" "[I", Cond.methodLink RX0 77 yX0_refuseWrongQuestion, Cond.instanceMethod yX0_refuseWrongQuestion, Cond.selects RX0 yX0_refuseWrongQuestion yX0_refuseWrongQuestion, Cond.code yX0_refuseWrongQuestion cX0_refuseWrongQuestion 3 none, Cond.classLink RX0 51 "java/lang/IllegalArgumentException", Cond.initialized "java/lang/IllegalArgumentException", Cond.methodLink RX0 66 yX0_isNode, Cond.instanceMethod yX0_isNode, Cond.selects RX0 yX0_isNode yX0_isNode, Cond.code yX0_isNode cX0_isNode 2 (some .boolean), Cond.fieldLink RX0 23 "GraphSearch" "nodeCount" "I", Cond.methodLink RX0 95 yX0_forgetMet, Cond.instanceMethod yX0_forgetMet, Cond.selects RX0 yX0_forgetMet yX0_forgetMet, Cond.code yX0_forgetMet cX0_forgetMet 2 none, Cond.fieldLink RX0 41 "GraphSearch" "isMet" "[Z"]
def wsL_around_r2 : List Cond := [Cond.methodLink RX0 98 yX0_meet, Cond.instanceMethod yX0_meet, Cond.selects RX0 yX0_meet yX0_meet, Cond.code yX0_meet cX0_meet 2 none, Cond.methodLink RX0 101 yX0_meetTargets, Cond.instanceMethod yX0_meetTargets, Cond.selects RX0 yX0_meetTargets yX0_meetTargets, Cond.code yX0_meetTargets cX0_meetTargets 3 none, Cond.fieldLink RX0 17 "GraphSearch" "moveCounts" "[I", Cond.fieldLink RX0 20 "GraphSearch" "targets" "[I", Cond.methodLink RX0 73 yX0_place, Cond.static yX0_place, Cond.code yX0_place cX0_place 2 (some .int)]
def wsL_around : List Cond := .codeWith yL_around cL_around 5 (some .int) [(0, 10, 13, 13)] :: ((wsL_around_r1 ++ wsL_around_r2) ++ wsX00 ++ (vx_atS RX0 55 "java/lang/IllegalArgumentException" ["java/lang/RuntimeException", "java/lang/Exception"]).filter goodWord)
def wsL_law0_r1 : List Cond := [Cond.classLink RL 8 RX0, Cond.instantiable RX0 11, Cond.initialized RX0, Cond.classLink RL 53 RX1, Cond.instantiable RX1 8, Cond.initialized RX1, Cond.arrayClass .long, Cond.methodLink RL 44 yL_cell, Cond.static yL_cell, Cond.initialized RL, Cond.code yL_cell cL_cell 2 (some .int), Cond.methodLink RL 50 yX0_init, Cond.instanceMethod yX0_init, Cond.code yX0_init cX0_init 2 none, Cond.methodLink RX0 1 objectInit, Cond.instanceMethod objectInit, Cond.code objectInit ⟨#[0xb1]⟩ 1 none, Cond.arrayClass .int, Cond.fieldLink RX0 9 "GraphSearch" "worths" "[I", Cond.arrayClass .boolean, Cond.fieldLink RX0 13 "GraphSearch" "losts" "[Z", Cond.fieldLink RX0 17 "GraphSearch" "moveCounts" "[I", Cond.fieldLink RX0 20 "GraphSearch" "targets" "[I", Cond.fieldLink RX0 23 "GraphSearch" "nodeCount" "I"]
def wsL_law0_r2 : List Cond := [Cond.fieldLink RX0 27 "GraphSearch" "allMoves" "I", Cond.classLink RX0 30 "[[I", Cond.fieldLink RX0 32 "GraphSearch" "table" "[[I", Cond.fieldLink RX0 35 "GraphSearch" "rowsFound" "I", Cond.fieldLink RX0 38 "GraphSearch" "met" "[I", Cond.fieldLink RX0 41 "GraphSearch" "isMet" "[Z", Cond.fieldLink RX0 44 "GraphSearch" "metCount" "I", Cond.methodLink RL 55 yX1_init, Cond.instanceMethod yX1_init, Cond.code yX1_init cX1_init 2 none, Cond.methodLink RX1 1 objectInit, Cond.fieldLink RX1 7 "GraphSearchModel" "worth" "[I", Cond.fieldLink RX1 13 "GraphSearchModel" "lost" "[Z", Cond.fieldLink RX1 17 "GraphSearchModel" "many" "[I", Cond.fieldLink RX1 20 "GraphSearchModel" "to" "[I", Cond.fieldLink RX1 23 "GraphSearchModel" "values" "[I", Cond.fieldLink RX1 26 "GraphSearchModel" "near" "[I", Cond.methodLink RL 56 yL_node, Cond.static yL_node, Cond.codeWith yL_node cL_node 5 (some .int) [(0, 10, 13, 13), (0, 10, 17, 15)], Cond.classLink RL 13 "java/lang/IllegalArgumentException", Cond.classLink RL 15 "java/lang/IllegalStateException", Cond.methodLink RL 7 yX0_node, Cond.instanceMethod yX0_node]
def wsL_law0_r3 : List Cond := [Cond.selects RX0 yX0_node yX0_node, Cond.code yX0_node cX0_node 4 (some .int), Cond.classLink RX0 51 "java/lang/IllegalArgumentException", Cond.initialized "java/lang/IllegalArgumentException", Cond.classLink RX0 58 "java/lang/IllegalStateException", Cond.initialized "java/lang/IllegalStateException", Cond.methodLink RX0 47 yX0_isWorth, Cond.static yX0_isWorth, Cond.code yX0_isWorth cX0_isWorth 1 (some .boolean), Cond.methodLink RX0 63 yX0_forgetTable, Cond.instanceMethod yX0_forgetTable, Cond.selects RX0 yX0_forgetTable yX0_forgetTable, Cond.code yX0_forgetTable cX0_forgetTable 1 none, Cond.methodLink RL 59 yX1_node, Cond.instanceMethod yX1_node, Cond.selects RX1 yX1_node yX1_node, Cond.code yX1_node cX1_node 3 (some .int), Cond.fieldLink RX1 33 "GraphSearchModel" "nodes" "I", Cond.fieldLink RX1 29 "GraphSearchModel" "thrown" "I", Cond.methodLink RX1 36 yX1_isWorth, Cond.static yX1_isWorth, Cond.code yX1_isWorth cX1_isWorth 1 (some .boolean), Cond.methodLink RL 60 yX1_thrown, Cond.instanceMethod yX1_thrown]
def wsL_law0_r4 : List Cond := [Cond.selects RX1 yX1_thrown yX1_thrown, Cond.code yX1_thrown cX1_thrown 1 (some .int), Cond.methodLink RL 64 yL_move, Cond.static yL_move, Cond.codeWith yL_move cL_move 5 (some .int) [(0, 10, 13, 13), (0, 10, 17, 15)], Cond.methodLink RL 17 yX0_move, Cond.instanceMethod yX0_move, Cond.selects RX0 yX0_move yX0_move, Cond.code yX0_move cX0_move 4 (some .int), Cond.methodLink RX0 66 yX0_isNode, Cond.instanceMethod yX0_isNode, Cond.selects RX0 yX0_isNode yX0_isNode, Cond.code yX0_isNode cX0_isNode 2 (some .boolean), Cond.methodLink RX0 73 yX0_place, Cond.static yX0_place, Cond.code yX0_place cX0_place 2 (some .int), Cond.methodLink RL 67 yX1_move, Cond.instanceMethod yX1_move, Cond.selects RX1 yX1_move yX1_move, Cond.code yX1_move cX1_move 3 (some .int), Cond.methodLink RX1 40 yX1_isNode, Cond.instanceMethod yX1_isNode, Cond.selects RX1 yX1_isNode yX1_isNode, Cond.code yX1_isNode cX1_isNode 2 (some .boolean)]
def wsL_law0_r5 : List Cond := [Cond.methodLink RL 68 yX0_drop, Cond.instanceMethod yX0_drop, Cond.selects RX0 yX0_drop yX0_drop, Cond.code yX0_drop cX0_drop 2 (some .boolean), Cond.methodLink RL 72 yX1_drop, Cond.instanceMethod yX1_drop, Cond.selects RX1 yX1_drop yX1_drop, Cond.code yX1_drop cX1_drop 2 (some .boolean), Cond.methodLink RL 73 yX0_change, Cond.instanceMethod yX0_change, Cond.selects RX0 yX0_change yX0_change, Cond.code yX0_change cX0_change 4 (some .boolean), Cond.methodLink RL 77 yX1_change, Cond.instanceMethod yX1_change, Cond.selects RX1 yX1_change yX1_change, Cond.code yX1_change cX1_change 4 (some .boolean), Cond.methodLink RL 78 yL_value, Cond.static yL_value, Cond.codeWith yL_value cL_value 5 (some .int) [(0, 10, 13, 13)], Cond.methodLink RL 21 yX0_value, Cond.instanceMethod yX0_value, Cond.selects RX0 yX0_value yX0_value, Cond.code yX0_value cX0_value 3 (some .int), Cond.methodLink RX0 77 yX0_refuseWrongQuestion]
def wsL_law0_r6 : List Cond := [Cond.instanceMethod yX0_refuseWrongQuestion, Cond.selects RX0 yX0_refuseWrongQuestion yX0_refuseWrongQuestion, Cond.code yX0_refuseWrongQuestion cX0_refuseWrongQuestion 3 none, Cond.methodLink RX0 81 yX0_deepenTo, Cond.instanceMethod yX0_deepenTo, Cond.selects RX0 yX0_deepenTo yX0_deepenTo, Cond.code yX0_deepenTo cX0_deepenTo 3 none, Cond.methodLink RX0 106 yX0_findRow, Cond.instanceMethod yX0_findRow, Cond.selects RX0 yX0_findRow yX0_findRow, Cond.code yX0_findRow cX0_findRow 3 none, Cond.methodLink RX0 109 yX0_findValue, Cond.instanceMethod yX0_findValue, Cond.selects RX0 yX0_findValue yX0_findValue, Cond.code yX0_findValue cX0_findValue 5 (some .int), Cond.methodLink RX0 112 Lib.Math.max.name, Cond.static Lib.Math.max.name, Cond.initialized "java/lang/Math", Cond.code Lib.Math.max.name Lib.Math.max.code 2 (some .int), Cond.methodLink RX0 88 yX0_moveValue, Cond.instanceMethod yX0_moveValue, Cond.selects RX0 yX0_moveValue yX0_moveValue, Cond.code yX0_moveValue cX0_moveValue 4 (some .int), Cond.methodLink RX0 117 yX0_halfMoveBack]
def wsL_law0_r7 : List Cond := [Cond.static yX0_halfMoveBack, Cond.code yX0_halfMoveBack cX0_halfMoveBack 2 (some .int), Cond.methodLink RL 80 yX1_value, Cond.instanceMethod yX1_value, Cond.selects RX1 yX1_value yX1_value, Cond.code yX1_value cX1_value 3 (some .int), Cond.methodLink RX1 59 yX1_asked, Cond.instanceMethod yX1_asked, Cond.selects RX1 yX1_asked yX1_asked, Cond.code yX1_asked cX1_asked 3 (some .boolean), Cond.methodLink RX1 55 yX1_work, Cond.instanceMethod yX1_work, Cond.selects RX1 yX1_work yX1_work, Cond.code yX1_work cX1_work 5 none, Cond.methodLink RX1 51 yX1_greatest, Cond.instanceMethod yX1_greatest, Cond.selects RX1 yX1_greatest yX1_greatest, Cond.code yX1_greatest cX1_greatest 5 (some .int), Cond.methodLink RX1 47 yX1_given, Cond.instanceMethod yX1_given, Cond.selects RX1 yX1_given yX1_given, Cond.code yX1_given cX1_given 4 (some .int), Cond.methodLink RX1 43 yX1_behind, Cond.static yX1_behind]
def wsL_law0_r8 : List Cond := [Cond.code yX1_behind cX1_behind 1 (some .int), Cond.methodLink RX1 63 yX1_valueOf, Cond.instanceMethod yX1_valueOf, Cond.selects RX1 yX1_valueOf yX1_valueOf, Cond.code yX1_valueOf cX1_valueOf 3 (some .int), Cond.methodLink RL 81 yL_best, Cond.static yL_best, Cond.codeWith yL_best cL_best 5 (some .int) [(0, 10, 13, 13)], Cond.methodLink RL 24 yX0_best, Cond.instanceMethod yX0_best, Cond.selects RX0 yX0_best yX0_best, Cond.code yX0_best cX0_best 3 (some .int), Cond.methodLink RX0 85 yX0_bestMove, Cond.instanceMethod yX0_bestMove, Cond.selects RX0 yX0_bestMove yX0_bestMove, Cond.code yX0_bestMove cX0_bestMove 4 (some .int), Cond.methodLink RL 83 yX1_best, Cond.instanceMethod yX1_best, Cond.selects RX1 yX1_best yX1_best, Cond.code yX1_best cX1_best 3 (some .int), Cond.methodLink RX1 66 yX1_bestOf, Cond.instanceMethod yX1_bestOf, Cond.selects RX1 yX1_bestOf yX1_bestOf, Cond.code yX1_bestOf cX1_bestOf 4 (some .int)]
def wsL_law0_r9 : List Cond := [Cond.methodLink RL 84 yL_reaches, Cond.static yL_reaches, Cond.codeWith yL_reaches cL_reaches 6 (some .int) [(0, 19, 22, 13)], Cond.methodLink RL 27 yX0_reaches, Cond.instanceMethod yX0_reaches, Cond.selects RX0 yX0_reaches yX0_reaches, Cond.code yX0_reaches cX0_reaches 4 (some .boolean), Cond.methodLink RL 87 yX1_reaches, Cond.instanceMethod yX1_reaches, Cond.selects RX1 yX1_reaches yX1_reaches, Cond.code yX1_reaches cX1_reaches 4 (some .boolean), Cond.methodLink RL 88 yL_line, Cond.static yL_line, Cond.codeWith yL_line cL_line 6 (some .int) [(0, 12, 15, 13)], Cond.methodLink RL 31 yX0_line, Cond.instanceMethod yX0_line, Cond.selects RX0 yX0_line yX0_line, Cond.code yX0_line cX0_line 7 (some .int), Cond.methodLink RL 90 yX1_line, Cond.instanceMethod yX1_line, Cond.selects RX1 yX1_line yX1_line, Cond.code yX1_line cX1_line 7 (some .int), Cond.methodLink RL 91 yL_ties, Cond.static yL_ties]
def wsL_law0_r10 : List Cond := [Cond.codeWith yL_ties cL_ties 5 (some .int) [(0, 10, 13, 13)], Cond.methodLink RL 35 yX0_ties, Cond.instanceMethod yX0_ties, Cond.selects RX0 yX0_ties yX0_ties, Cond.code yX0_ties cX0_ties 5 (some .int), Cond.methodLink RL 93 yX1_ties, Cond.instanceMethod yX1_ties, Cond.selects RX1 yX1_ties yX1_ties, Cond.code yX1_ties cX1_ties 5 (some .int), Cond.methodLink RL 94 yL_settled, Cond.static yL_settled, Cond.codeWith yL_settled cL_settled 5 (some .int) [(0, 10, 13, 13)], Cond.methodLink RL 38 yX0_settled, Cond.instanceMethod yX0_settled, Cond.selects RX0 yX0_settled yX0_settled, Cond.code yX0_settled cX0_settled 4 (some .int), Cond.methodLink RL 96 yX1_settled, Cond.instanceMethod yX1_settled, Cond.selects RX1 yX1_settled yX1_settled, Cond.code yX1_settled cX1_settled 5 (some .int), Cond.methodLink RL 97 yX0_of, Cond.instanceMethod yX0_of, Cond.selects RX0 yX0_of yX0_of, Cond.code yX0_of cX0_of 3 (some .int)]
def wsL_law0_r11 : List Cond := [Cond.methodLink RX0 92 yX0_targetOrNone, Cond.instanceMethod yX0_targetOrNone, Cond.selects RX0 yX0_targetOrNone yX0_targetOrNone, Cond.code yX0_targetOrNone cX0_targetOrNone 3 (some .int), Cond.methodLink RL 100 yX1_of, Cond.instanceMethod yX1_of, Cond.selects RX1 yX1_of yX1_of, Cond.code yX1_of cX1_of 3 (some .int), Cond.methodLink RL 101 yL_around, Cond.static yL_around, Cond.codeWith yL_around cL_around 5 (some .int) [(0, 10, 13, 13)], Cond.methodLink RL 41 yX0_around, Cond.instanceMethod yX0_around, Cond.selects RX0 yX0_around yX0_around, Cond.code yX0_around cX0_around 6 (some .int), Cond.methodLink RX0 95 yX0_forgetMet, Cond.instanceMethod yX0_forgetMet, Cond.selects RX0 yX0_forgetMet yX0_forgetMet, Cond.code yX0_forgetMet cX0_forgetMet 2 none, Cond.methodLink RX0 98 yX0_meet, Cond.instanceMethod yX0_meet, Cond.selects RX0 yX0_meet yX0_meet, Cond.code yX0_meet cX0_meet 2 none, Cond.methodLink RX0 101 yX0_meetTargets]
def wsL_law0_r12 : List Cond := [Cond.instanceMethod yX0_meetTargets, Cond.selects RX0 yX0_meetTargets yX0_meetTargets, Cond.code yX0_meetTargets cX0_meetTargets 3 none, Cond.methodLink RL 103 yX1_around, Cond.instanceMethod yX1_around, Cond.selects RX1 yX1_around yX1_around, Cond.code yX1_around cX1_around 7 (some .int), Cond.methodLink RL 104 yX0_look, Cond.instanceMethod yX0_look, Cond.selects RX0 yX0_look yX0_look, Cond.code yX0_look cX0_look 2 (some .int), Cond.methodLink RL 108 yX1_look, Cond.instanceMethod yX1_look, Cond.selects RX1 yX1_look yX1_look, Cond.code yX1_look cX1_look 4 (some .int)]
def wsL_law0 : List Cond := (wsL_law0_r1 ++ (wsL_law0_r2 ++ (wsL_law0_r3 ++ (wsL_law0_r4 ++ (wsL_law0_r5 ++ (wsL_law0_r6 ++ (wsL_law0_r7 ++ (wsL_law0_r8 ++ (wsL_law0_r9 ++ (wsL_law0_r10 ++ (wsL_law0_r11 ++ wsL_law0_r12))))))))))) ++ wsX00 ++ wsX10 ++ ([] : List Cond)
def wsL_law : List Cond := wsL_law0 ++ (vx_atS RX0 55 "java/lang/IllegalArgumentException" ["java/lang/RuntimeException", "java/lang/Exception"]).filter goodWord ++ (vx_atS RX0 62 "java/lang/IllegalStateException" ["java/lang/RuntimeException", "java/lang/Exception"]).filter goodWord
set_option maxRecDepth 20000 in
theorem wsL_law_in0 : ∀ w ∈ wsL_law0, w ∈ lw_tbl := fun w h => (goodIn_p wsL_law0 [111, 33, 36, 309, 120, 93, 86, 343, 346, 339, 210, 82, 104, 350, 354, 78, 358, 90, 362, 219, 223, 228, 232, 236, 246, 240, 243, 366, 370, 374, 378, 382, 385, 389, 253, 257, 393, 397, 264, 401, 271, 405, 278, 409, 285, 413, 97, 101, 417, 292, 296, 300, 304, 421, 108, 425] (by decide +kernel) (by decide +kernel) w h).1
theorem wsL_law_x0 : ∀ w ∈ (vx_atS RX0 55 "java/lang/IllegalArgumentException" ["java/lang/RuntimeException", "java/lang/Exception"]).filter goodWord, w ∈ lw_tbl := by decide +kernel
theorem wsL_law_x1 : ∀ w ∈ (vx_atS RX0 62 "java/lang/IllegalStateException" ["java/lang/RuntimeException", "java/lang/Exception"]).filter goodWord, w ∈ lw_tbl := by decide +kernel
theorem wsL_law_in : ∀ w ∈ wsL_law, w ∈ lw_tbl := fun w h => (List.mem_append.mp h).elim (fun h => (List.mem_append.mp h).elim (fun h => wsL_law_in0 w h) (fun h => wsL_law_x0 w h)) (fun h => wsL_law_x1 w h)
theorem inlX0 : ∀ w ∈ wsX00, w ∈ wsL_law := fun _ h => List.mem_append_left _ (List.mem_append_left _ (List.mem_append_left _ (List.mem_append_left _ (List.mem_append_right _ h))))
theorem inX0 : ∀ w ∈ wsX00, w ∈ lw_tbl := fun w h => wsL_law_in w (inlX0 w h)
theorem inlX1 : ∀ w ∈ wsX10, w ∈ wsL_law := fun _ h => List.mem_append_left _ (List.mem_append_left _ (List.mem_append_left _ (List.mem_append_right _ h)))
theorem inX1 : ∀ w ∈ wsX10, w ∈ lw_tbl := fun w h => wsL_law_in w (inlX1 w h)
theorem inJ9 : ∀ w ∈ wsJ90, w ∈ lw_tbl := by decide +kernel
theorem inJ0 : ∀ w ∈ wsJ00, w ∈ lw_tbl := by decide +kernel
set_option maxRecDepth 20000 in
theorem ggX0_node_X0_isWorth : GoodIn wsX0_node wsX0_isWorth := goodIn_r _ [11] (by decide +kernel) (by decide +kernel)
set_option maxRecDepth 20000 in
theorem gX0_node_X0_isWorth : GoodIn wsX0_node (va_wsS RX0 47 yX0_isWorth wsX0_isWorth) := goodIn_app (goodIn_of _ (by decide +kernel)) ggX0_node_X0_isWorth
set_option maxRecDepth 20000 in
theorem ggX0_node_X0_forgetTable : GoodIn wsX0_node wsX0_forgetTable := goodIn_r _ [15, 16, 17, 18, 19, 20, 21, 22, 23, 24, 25, 26, 27] (by decide +kernel) (by decide +kernel)
set_option maxRecDepth 20000 in
theorem gX0_node_X0_forgetTable : GoodIn wsX0_node (wsV RX0 63 RX0 yX0_forgetTable wsX0_forgetTable) := goodIn_app (goodIn_of _ (by decide +kernel)) ggX0_node_X0_forgetTable
set_option maxRecDepth 20000 in
theorem ggX0_move_X0_isNode : GoodIn wsX0_move wsX0_isNode := goodIn_r _ [12, 13, 22, 23, 24, 25, 26, 27, 28, 29, 30, 31, 32] (by decide +kernel) (by decide +kernel)
set_option maxRecDepth 20000 in
theorem gX0_move_X0_isNode : GoodIn wsX0_move (wsV RX0 66 RX0 yX0_isNode wsX0_isNode) := goodIn_app (goodIn_of _ (by decide +kernel)) ggX0_move_X0_isNode
set_option maxRecDepth 20000 in
theorem ggX0_move_X0_place : GoodIn wsX0_move wsX0_place := goodIn_r _ [16] (by decide +kernel) (by decide +kernel)
set_option maxRecDepth 20000 in
theorem gX0_move_X0_place : GoodIn wsX0_move (va_wsS RX0 73 yX0_place wsX0_place) := goodIn_app (goodIn_of _ (by decide +kernel)) ggX0_move_X0_place
set_option maxRecDepth 20000 in
theorem ggX0_move_X0_forgetTable : GoodIn wsX0_move wsX0_forgetTable := goodIn_r _ [20, 21, 22, 23, 24, 25, 26, 27, 28, 29, 30, 31, 32] (by decide +kernel) (by decide +kernel)
set_option maxRecDepth 20000 in
theorem gX0_move_X0_forgetTable : GoodIn wsX0_move (wsV RX0 63 RX0 yX0_forgetTable wsX0_forgetTable) := goodIn_app (goodIn_of _ (by decide +kernel)) ggX0_move_X0_forgetTable
set_option maxRecDepth 20000 in
theorem ggX0_drop_X0_isNode : GoodIn wsX0_drop wsX0_isNode := goodIn_r _ [7, 8, 14, 15, 16, 17, 18, 19, 20, 21, 22, 23, 24] (by decide +kernel) (by decide +kernel)
set_option maxRecDepth 20000 in
theorem gX0_drop_X0_isNode : GoodIn wsX0_drop (wsV RX0 66 RX0 yX0_isNode wsX0_isNode) := goodIn_app (goodIn_of _ (by decide +kernel)) ggX0_drop_X0_isNode
set_option maxRecDepth 20000 in
theorem ggX0_drop_X0_forgetTable : GoodIn wsX0_drop wsX0_forgetTable := goodIn_r _ [12, 13, 14, 15, 16, 17, 18, 19, 20, 21, 22, 23, 24] (by decide +kernel) (by decide +kernel)
set_option maxRecDepth 20000 in
theorem gX0_drop_X0_forgetTable : GoodIn wsX0_drop (wsV RX0 63 RX0 yX0_forgetTable wsX0_forgetTable) := goodIn_app (goodIn_of _ (by decide +kernel)) ggX0_drop_X0_forgetTable
set_option maxRecDepth 20000 in
theorem ggX0_change_X0_isNode : GoodIn wsX0_change wsX0_isNode := goodIn_r _ [7, 8, 17, 18, 19, 20, 21, 22, 23, 24, 25, 26, 27] (by decide +kernel) (by decide +kernel)
set_option maxRecDepth 20000 in
theorem gX0_change_X0_isNode : GoodIn wsX0_change (wsV RX0 66 RX0 yX0_isNode wsX0_isNode) := goodIn_app (goodIn_of _ (by decide +kernel)) ggX0_change_X0_isNode
set_option maxRecDepth 20000 in
theorem ggX0_change_X0_isWorth : GoodIn wsX0_change wsX0_isWorth := goodIn_r _ [11] (by decide +kernel) (by decide +kernel)
set_option maxRecDepth 20000 in
theorem gX0_change_X0_isWorth : GoodIn wsX0_change (va_wsS RX0 47 yX0_isWorth wsX0_isWorth) := goodIn_app (goodIn_of _ (by decide +kernel)) ggX0_change_X0_isWorth
set_option maxRecDepth 20000 in
theorem ggX0_change_X0_forgetTable : GoodIn wsX0_change wsX0_forgetTable := goodIn_r _ [15, 16, 17, 18, 19, 20, 21, 22, 23, 24, 25, 26, 27] (by decide +kernel) (by decide +kernel)
set_option maxRecDepth 20000 in
theorem gX0_change_X0_forgetTable : GoodIn wsX0_change (wsV RX0 63 RX0 yX0_forgetTable wsX0_forgetTable) := goodIn_app (goodIn_of _ (by decide +kernel)) ggX0_change_X0_forgetTable
set_option maxRecDepth 20000 in
theorem ggX0_value_X0_refuseWrongQuestion : GoodIn wsX0_value wsX0_refuseWrongQuestion := goodIn_ca (goodIn_r _ [6, 7, 8, 9, 10, 11, 5, 12, 13, 45, 46, 47, 48, 49, 50, 51, 52, 53, 54, 55] (by decide +kernel) (by decide +kernel)) (goodIn_sub (fun _ h => List.mem_cons_of_mem _ (List.mem_append_right _ h)) (by decide +kernel))
set_option maxRecDepth 20000 in
theorem gX0_value_X0_refuseWrongQuestion : GoodIn wsX0_value (wsV RX0 77 RX0 yX0_refuseWrongQuestion wsX0_refuseWrongQuestion) := goodIn_app (goodIn_of _ (by decide +kernel)) ggX0_value_X0_refuseWrongQuestion
set_option maxRecDepth 20000 in
theorem ggX0_value_X0_deepenTo : GoodIn wsX0_value wsX0_deepenTo := goodIn_r _ [17, 18, 19, 20, 21, 5, 22, 13, 1, 23, 24, 25, 26, 27, 28, 29, 30, 31, 32, 33, 34, 35, 36, 37, 38, 39, 40, 41, 42, 43, 44, 45, 46, 47, 48, 49, 50, 51, 52, 53, 54, 55] (by decide +kernel) (by decide +kernel)
set_option maxRecDepth 20000 in
theorem gX0_value_X0_deepenTo : GoodIn wsX0_value (wsV RX0 81 RX0 yX0_deepenTo wsX0_deepenTo) := goodIn_app (goodIn_of _ (by decide +kernel)) ggX0_value_X0_deepenTo
set_option maxRecDepth 20000 in
theorem ggX0_best_X0_refuseWrongQuestion : GoodIn wsX0_best wsX0_refuseWrongQuestion := goodIn_ca (goodIn_r _ [5, 6, 7, 8, 9, 10, 4, 11, 12, 49, 50, 51, 52, 53, 54, 55, 56, 57, 58, 59] (by decide +kernel) (by decide +kernel)) (goodIn_sub (fun _ h => List.mem_cons_of_mem _ (List.mem_append_right _ h)) (by decide +kernel))
set_option maxRecDepth 20000 in
theorem gX0_best_X0_refuseWrongQuestion : GoodIn wsX0_best (wsV RX0 77 RX0 yX0_refuseWrongQuestion wsX0_refuseWrongQuestion) := goodIn_app (goodIn_of _ (by decide +kernel)) ggX0_best_X0_refuseWrongQuestion
set_option maxRecDepth 20000 in
theorem ggX0_best_X0_deepenTo : GoodIn wsX0_best wsX0_deepenTo := goodIn_r _ [16, 17, 18, 19, 20, 4, 21, 12, 22, 23, 24, 25, 26, 27, 28, 29, 30, 31, 32, 33, 34, 35, 36, 37, 38, 39, 40, 41, 42, 43, 44, 49, 50, 51, 52, 53, 54, 55, 56, 57, 58, 59] (by decide +kernel) (by decide +kernel)
set_option maxRecDepth 20000 in
theorem gX0_best_X0_deepenTo : GoodIn wsX0_best (wsV RX0 81 RX0 yX0_deepenTo wsX0_deepenTo) := goodIn_app (goodIn_of _ (by decide +kernel)) ggX0_best_X0_deepenTo
set_option maxRecDepth 20000 in
theorem ggX0_best_X0_bestMove : GoodIn wsX0_best wsX0_bestMove := goodIn_r _ [48, 27, 22, 34, 35, 36, 4, 37, 38, 39, 40, 41, 42, 43, 44, 49, 50, 51, 52, 53, 54, 55, 56, 57, 58, 59] (by decide +kernel) (by decide +kernel)
set_option maxRecDepth 20000 in
theorem gX0_best_X0_bestMove : GoodIn wsX0_best (wsV RX0 85 RX0 yX0_bestMove wsX0_bestMove) := goodIn_app (goodIn_of _ (by decide +kernel)) ggX0_best_X0_bestMove
set_option maxRecDepth 20000 in
theorem ggX0_reaches_X0_refuseWrongQuestion : GoodIn wsX0_reaches wsX0_refuseWrongQuestion := goodIn_ca (goodIn_r _ [6, 7, 8, 9, 10, 11, 5, 12, 13, 45, 46, 47, 48, 49, 50, 51, 52, 53, 54, 55] (by decide +kernel) (by decide +kernel)) (goodIn_sub (fun _ h => List.mem_cons_of_mem _ (List.mem_append_right _ h)) (by decide +kernel))
set_option maxRecDepth 20000 in
theorem gX0_reaches_X0_refuseWrongQuestion : GoodIn wsX0_reaches (wsV RX0 77 RX0 yX0_refuseWrongQuestion wsX0_refuseWrongQuestion) := goodIn_app (goodIn_of _ (by decide +kernel)) ggX0_reaches_X0_refuseWrongQuestion
set_option maxRecDepth 20000 in
theorem ggX0_reaches_X0_deepenTo : GoodIn wsX0_reaches wsX0_deepenTo := goodIn_r _ [17, 18, 19, 20, 21, 5, 22, 13, 1, 23, 24, 25, 26, 27, 28, 29, 30, 31, 32, 33, 34, 35, 36, 37, 38, 39, 40, 41, 42, 43, 44, 45, 46, 47, 48, 49, 50, 51, 52, 53, 54, 55] (by decide +kernel) (by decide +kernel)
set_option maxRecDepth 20000 in
theorem gX0_reaches_X0_deepenTo : GoodIn wsX0_reaches (wsV RX0 81 RX0 yX0_deepenTo wsX0_deepenTo) := goodIn_app (goodIn_of _ (by decide +kernel)) ggX0_reaches_X0_deepenTo
set_option maxRecDepth 20000 in
theorem ggX0_line_X0_refuseWrongQuestion : GoodIn wsX0_line wsX0_refuseWrongQuestion := goodIn_ca (goodIn_r _ [6, 7, 8, 9, 10, 11, 5, 12, 13, 49, 50, 51, 52, 53, 54, 55, 56, 57, 58, 59] (by decide +kernel) (by decide +kernel)) (goodIn_sub (fun _ h => List.mem_cons_of_mem _ (List.mem_append_right _ h)) (by decide +kernel))
set_option maxRecDepth 20000 in
theorem gX0_line_X0_refuseWrongQuestion : GoodIn wsX0_line (wsV RX0 77 RX0 yX0_refuseWrongQuestion wsX0_refuseWrongQuestion) := goodIn_app (goodIn_of _ (by decide +kernel)) ggX0_line_X0_refuseWrongQuestion
set_option maxRecDepth 20000 in
theorem ggX0_line_X0_deepenTo : GoodIn wsX0_line wsX0_deepenTo := goodIn_r _ [17, 18, 19, 20, 21, 5, 22, 13, 23, 24, 25, 26, 27, 28, 29, 30, 31, 32, 33, 34, 35, 36, 37, 38, 1, 39, 40, 41, 42, 43, 44, 49, 50, 51, 52, 53, 54, 55, 56, 57, 58, 59] (by decide +kernel) (by decide +kernel)
set_option maxRecDepth 20000 in
theorem gX0_line_X0_deepenTo : GoodIn wsX0_line (wsV RX0 81 RX0 yX0_deepenTo wsX0_deepenTo) := goodIn_app (goodIn_of _ (by decide +kernel)) ggX0_line_X0_deepenTo
set_option maxRecDepth 20000 in
theorem ggX0_line_X0_bestMove : GoodIn wsX0_line wsX0_bestMove := goodIn_r _ [48, 28, 23, 35, 36, 37, 5, 38, 1, 39, 40, 41, 42, 43, 44, 49, 50, 51, 52, 53, 54, 55, 56, 57, 58, 59] (by decide +kernel) (by decide +kernel)
set_option maxRecDepth 20000 in
theorem gX0_line_X0_bestMove : GoodIn wsX0_line (wsV RX0 85 RX0 yX0_bestMove wsX0_bestMove) := goodIn_app (goodIn_of _ (by decide +kernel)) ggX0_line_X0_bestMove
set_option maxRecDepth 20000 in
theorem ggX0_line_X0_place : GoodIn wsX0_line wsX0_place := goodIn_r _ [41] (by decide +kernel) (by decide +kernel)
set_option maxRecDepth 20000 in
theorem gX0_line_X0_place : GoodIn wsX0_line (va_wsS RX0 73 yX0_place wsX0_place) := goodIn_app (goodIn_of _ (by decide +kernel)) ggX0_line_X0_place
set_option maxRecDepth 20000 in
theorem ggX0_ties_X0_refuseWrongQuestion : GoodIn wsX0_ties wsX0_refuseWrongQuestion := goodIn_ca (goodIn_r _ [7, 8, 9, 10, 11, 12, 6, 13, 14, 45, 46, 47, 48, 49, 50, 51, 52, 53, 54, 55] (by decide +kernel) (by decide +kernel)) (goodIn_sub (fun _ h => List.mem_cons_of_mem _ (List.mem_append_right _ h)) (by decide +kernel))
set_option maxRecDepth 20000 in
theorem gX0_ties_X0_refuseWrongQuestion : GoodIn wsX0_ties (wsV RX0 77 RX0 yX0_refuseWrongQuestion wsX0_refuseWrongQuestion) := goodIn_app (goodIn_of _ (by decide +kernel)) ggX0_ties_X0_refuseWrongQuestion
set_option maxRecDepth 20000 in
theorem ggX0_ties_X0_deepenTo : GoodIn wsX0_ties wsX0_deepenTo := goodIn_r _ [18, 19, 20, 21, 22, 6, 23, 14, 2, 24, 25, 26, 27, 1, 28, 29, 30, 31, 32, 33, 34, 35, 36, 37, 38, 39, 40, 41, 42, 43, 44, 45, 46, 47, 48, 49, 50, 51, 52, 53, 54, 55] (by decide +kernel) (by decide +kernel)
set_option maxRecDepth 20000 in
theorem gX0_ties_X0_deepenTo : GoodIn wsX0_ties (wsV RX0 81 RX0 yX0_deepenTo wsX0_deepenTo) := goodIn_app (goodIn_of _ (by decide +kernel)) ggX0_ties_X0_deepenTo
set_option maxRecDepth 20000 in
theorem ggX0_ties_X0_moveValue : GoodIn wsX0_ties wsX0_moveValue := goodIn_r _ [37, 2, 38, 39, 40, 6, 41, 42, 43, 44, 45, 46, 47, 48, 49, 50, 51, 52, 53, 54, 55] (by decide +kernel) (by decide +kernel)
set_option maxRecDepth 20000 in
theorem gX0_ties_X0_moveValue : GoodIn wsX0_ties (wsV RX0 88 RX0 yX0_moveValue wsX0_moveValue) := goodIn_app (goodIn_of _ (by decide +kernel)) ggX0_ties_X0_moveValue
set_option maxRecDepth 20000 in
theorem ggX0_settled_X0_refuseWrongQuestion : GoodIn wsX0_settled wsX0_refuseWrongQuestion := goodIn_ca (goodIn_r _ [6, 7, 8, 9, 10, 11, 5, 12, 13, 45, 46, 47, 48, 49, 50, 51, 52, 53, 54, 55] (by decide +kernel) (by decide +kernel)) (goodIn_sub (fun _ h => List.mem_cons_of_mem _ (List.mem_append_right _ h)) (by decide +kernel))
set_option maxRecDepth 20000 in
theorem gX0_settled_X0_refuseWrongQuestion : GoodIn wsX0_settled (wsV RX0 77 RX0 yX0_refuseWrongQuestion wsX0_refuseWrongQuestion) := goodIn_app (goodIn_of _ (by decide +kernel)) ggX0_settled_X0_refuseWrongQuestion
set_option maxRecDepth 20000 in
theorem ggX0_settled_X0_deepenTo : GoodIn wsX0_settled wsX0_deepenTo := goodIn_r _ [17, 18, 19, 20, 21, 5, 22, 13, 1, 23, 24, 25, 26, 27, 28, 29, 30, 31, 32, 33, 34, 35, 36, 37, 38, 39, 40, 41, 42, 43, 44, 45, 46, 47, 48, 49, 50, 51, 52, 53, 54, 55] (by decide +kernel) (by decide +kernel)
set_option maxRecDepth 20000 in
theorem gX0_settled_X0_deepenTo : GoodIn wsX0_settled (wsV RX0 81 RX0 yX0_deepenTo wsX0_deepenTo) := goodIn_app (goodIn_of _ (by decide +kernel)) ggX0_settled_X0_deepenTo
set_option maxRecDepth 20000 in
theorem ggX0_of_X0_isNode : GoodIn wsX0_of wsX0_isNode := goodIn_r _ [8, 9, 18, 19, 20, 21, 22, 23, 24, 25, 26, 27, 28] (by decide +kernel) (by decide +kernel)
set_option maxRecDepth 20000 in
theorem gX0_of_X0_isNode : GoodIn wsX0_of (wsV RX0 66 RX0 yX0_isNode wsX0_isNode) := goodIn_app (goodIn_of _ (by decide +kernel)) ggX0_of_X0_isNode
set_option maxRecDepth 20000 in
theorem ggX0_of_X0_targetOrNone : GoodIn wsX0_of wsX0_targetOrNone := goodIn_r _ [13, 3, 14, 15, 16, 7, 17, 18, 19, 20, 21, 22, 23, 24, 25, 26, 27, 28] (by decide +kernel) (by decide +kernel)
set_option maxRecDepth 20000 in
theorem gX0_of_X0_targetOrNone : GoodIn wsX0_of (wsV RX0 92 RX0 yX0_targetOrNone wsX0_targetOrNone) := goodIn_app (goodIn_of _ (by decide +kernel)) ggX0_of_X0_targetOrNone
set_option maxRecDepth 20000 in
theorem ggX0_around_X0_refuseWrongQuestion : GoodIn wsX0_around wsX0_refuseWrongQuestion := goodIn_ca (goodIn_r _ [7, 8, 9, 10, 11, 12, 6, 13, 14, 33, 34, 35, 36, 37, 38, 39, 40, 41, 42, 43] (by decide +kernel) (by decide +kernel)) (goodIn_sub (fun _ h => List.mem_cons_of_mem _ (List.mem_append_right _ h)) (by decide +kernel))
set_option maxRecDepth 20000 in
theorem gX0_around_X0_refuseWrongQuestion : GoodIn wsX0_around (wsV RX0 77 RX0 yX0_refuseWrongQuestion wsX0_refuseWrongQuestion) := goodIn_app (goodIn_of _ (by decide +kernel)) ggX0_around_X0_refuseWrongQuestion
set_option maxRecDepth 20000 in
theorem ggX0_around_X0_forgetMet : GoodIn wsX0_around wsX0_forgetMet := goodIn_r _ [18, 1, 19, 2, 33, 34, 35, 36, 37, 38, 39, 40, 41, 42, 43] (by decide +kernel) (by decide +kernel)
set_option maxRecDepth 20000 in
theorem gX0_around_X0_forgetMet : GoodIn wsX0_around (wsV RX0 95 RX0 yX0_forgetMet wsX0_forgetMet) := goodIn_app (goodIn_of _ (by decide +kernel)) ggX0_around_X0_forgetMet
set_option maxRecDepth 20000 in
theorem ggX0_around_X0_meet : GoodIn wsX0_around wsX0_meet := goodIn_r _ [23, 19, 2, 1, 33, 34, 35, 36, 37, 38, 39, 40, 41, 42, 43] (by decide +kernel) (by decide +kernel)
set_option maxRecDepth 20000 in
theorem gX0_around_X0_meet : GoodIn wsX0_around (wsV RX0 98 RX0 yX0_meet wsX0_meet) := goodIn_app (goodIn_of _ (by decide +kernel)) ggX0_around_X0_meet
set_option maxRecDepth 20000 in
theorem ggX0_around_X0_meetTargets : GoodIn wsX0_around wsX0_meetTargets := goodIn_r _ [27, 28, 29, 30, 31, 6, 32, 20, 21, 22, 23, 19, 2, 1, 33, 34, 35, 36, 37, 38, 39, 40, 41, 42, 43] (by decide +kernel) (by decide +kernel)
set_option maxRecDepth 20000 in
theorem gX0_around_X0_meetTargets : GoodIn wsX0_around (wsV RX0 101 RX0 yX0_meetTargets wsX0_meetTargets) := goodIn_app (goodIn_of _ (by decide +kernel)) ggX0_around_X0_meetTargets
set_option maxRecDepth 20000 in
theorem ggX0_refuseWrongQuestion_X0_isNode : GoodIn wsX0_refuseWrongQuestion wsX0_isNode := goodIn_r _ [7, 8, 9, 10, 11, 12, 13, 14, 15, 16, 17, 18, 19] (by decide +kernel) (by decide +kernel)
set_option maxRecDepth 20000 in
theorem gX0_refuseWrongQuestion_X0_isNode : GoodIn wsX0_refuseWrongQuestion (wsV RX0 66 RX0 yX0_isNode wsX0_isNode) := goodIn_app (goodIn_of _ (by decide +kernel)) ggX0_refuseWrongQuestion_X0_isNode
set_option maxRecDepth 20000 in
theorem ggX0_targetOrNone_X0_place : GoodIn wsX0_targetOrNone wsX0_place := goodIn_r _ [6] (by decide +kernel) (by decide +kernel)
set_option maxRecDepth 20000 in
theorem gX0_targetOrNone_X0_place : GoodIn wsX0_targetOrNone (va_wsS RX0 73 yX0_place wsX0_place) := goodIn_app (goodIn_of _ (by decide +kernel)) ggX0_targetOrNone_X0_place
set_option maxRecDepth 20000 in
theorem ggX0_deepenTo_X0_findRow : GoodIn wsX0_deepenTo wsX0_findRow := goodIn_r _ [6, 7, 8, 9, 10, 11, 5, 12, 13, 14, 15, 16, 17, 18, 19, 20, 21, 22, 23, 24, 25, 26, 27, 28, 29, 30, 31, 32, 33, 34, 35, 36, 37, 38, 39, 40, 41] (by decide +kernel) (by decide +kernel)
set_option maxRecDepth 20000 in
theorem gX0_deepenTo_X0_findRow : GoodIn wsX0_deepenTo (wsV RX0 106 RX0 yX0_findRow wsX0_findRow) := goodIn_app (goodIn_of _ (by decide +kernel)) ggX0_deepenTo_X0_findRow
set_option maxRecDepth 20000 in
theorem ggX0_findRow_X0_findValue : GoodIn wsX0_findRow wsX0_findValue := goodIn_r _ [7, 8, 9, 10, 11, 12, 13, 14, 15, 16, 17, 6, 18, 2, 19, 20, 21, 22, 23, 24, 25, 26, 27, 28, 29, 30, 31, 32, 33, 34, 35, 36] (by decide +kernel) (by decide +kernel)
set_option maxRecDepth 20000 in
theorem gX0_findRow_X0_findValue : GoodIn wsX0_findRow (wsV RX0 109 RX0 yX0_findValue wsX0_findValue) := goodIn_app (goodIn_of _ (by decide +kernel)) ggX0_findRow_X0_findValue
set_option maxRecDepth 20000 in
theorem ggX0_findValue_X0_moveValue : GoodIn wsX0_findValue wsX0_moveValue := goodIn_r _ [12, 13, 14, 15, 16, 11, 17, 18, 19, 20, 21, 22, 23, 24, 25, 26, 27, 28, 29, 30, 31] (by decide +kernel) (by decide +kernel)
set_option maxRecDepth 20000 in
theorem gX0_findValue_X0_moveValue : GoodIn wsX0_findValue (wsV RX0 88 RX0 yX0_moveValue wsX0_moveValue) := goodIn_app (goodIn_of _ (by decide +kernel)) ggX0_findValue_X0_moveValue
set_option maxRecDepth 20000 in
theorem ggX0_moveValue_X0_place : GoodIn wsX0_moveValue wsX0_place := goodIn_r _ [6] (by decide +kernel) (by decide +kernel)
set_option maxRecDepth 20000 in
theorem gX0_moveValue_X0_place : GoodIn wsX0_moveValue (va_wsS RX0 73 yX0_place wsX0_place) := goodIn_app (goodIn_of _ (by decide +kernel)) ggX0_moveValue_X0_place
set_option maxRecDepth 20000 in
theorem ggX0_moveValue_X0_halfMoveBack : GoodIn wsX0_moveValue wsX0_halfMoveBack := goodIn_r _ [9] (by decide +kernel) (by decide +kernel)
set_option maxRecDepth 20000 in
theorem gX0_moveValue_X0_halfMoveBack : GoodIn wsX0_moveValue (va_wsS RX0 117 yX0_halfMoveBack wsX0_halfMoveBack) := goodIn_app (goodIn_of _ (by decide +kernel)) ggX0_moveValue_X0_halfMoveBack
set_option maxRecDepth 20000 in
theorem ggX0_bestMove_X0_moveValue : GoodIn wsX0_bestMove wsX0_moveValue := goodIn_r _ [7, 2, 8, 9, 10, 6, 11, 12, 13, 14, 15, 16, 17, 18, 19, 20, 21, 22, 23, 24, 25] (by decide +kernel) (by decide +kernel)
set_option maxRecDepth 20000 in
theorem gX0_bestMove_X0_moveValue : GoodIn wsX0_bestMove (wsV RX0 88 RX0 yX0_moveValue wsX0_moveValue) := goodIn_app (goodIn_of _ (by decide +kernel)) ggX0_bestMove_X0_moveValue
set_option maxRecDepth 20000 in
theorem ggX0_meetTargets_X0_place : GoodIn wsX0_meetTargets wsX0_place := goodIn_r _ [6] (by decide +kernel) (by decide +kernel)
set_option maxRecDepth 20000 in
theorem gX0_meetTargets_X0_place : GoodIn wsX0_meetTargets (va_wsS RX0 73 yX0_place wsX0_place) := goodIn_app (goodIn_of _ (by decide +kernel)) ggX0_meetTargets_X0_place
set_option maxRecDepth 20000 in
theorem ggX0_meetTargets_X0_meet : GoodIn wsX0_meetTargets wsX0_meet := goodIn_r _ [10, 11, 12, 13, 14, 15, 16, 17, 18, 19, 20, 21, 22, 23, 24] (by decide +kernel) (by decide +kernel)
set_option maxRecDepth 20000 in
theorem gX0_meetTargets_X0_meet : GoodIn wsX0_meetTargets (wsV RX0 98 RX0 yX0_meet wsX0_meet) := goodIn_app (goodIn_of _ (by decide +kernel)) ggX0_meetTargets_X0_meet
set_option maxRecDepth 20000 in
theorem ggX1_node_X1_isWorth : GoodIn wsX1_node wsX1_isWorth := goodIn_r _ [9] (by decide +kernel) (by decide +kernel)
set_option maxRecDepth 20000 in
theorem gX1_node_X1_isWorth : GoodIn wsX1_node (va_wsS RX1 36 yX1_isWorth wsX1_isWorth) := goodIn_app (goodIn_of _ (by decide +kernel)) ggX1_node_X1_isWorth
set_option maxRecDepth 20000 in
theorem ggX1_move_X1_isNode : GoodIn wsX1_move wsX1_isNode := goodIn_r _ [8, 9, 10, 11, 12, 13, 14, 15, 16, 17] (by decide +kernel) (by decide +kernel)
set_option maxRecDepth 20000 in
theorem gX1_move_X1_isNode : GoodIn wsX1_move (wsV RX1 40 RX1 yX1_isNode wsX1_isNode) := goodIn_app (goodIn_of _ (by decide +kernel)) ggX1_move_X1_isNode
set_option maxRecDepth 20000 in
theorem ggX1_drop_X1_isNode : GoodIn wsX1_drop wsX1_isNode := goodIn_r _ [7, 8, 9, 10, 11, 12, 13, 14, 15, 16] (by decide +kernel) (by decide +kernel)
set_option maxRecDepth 20000 in
theorem gX1_drop_X1_isNode : GoodIn wsX1_drop (wsV RX1 40 RX1 yX1_isNode wsX1_isNode) := goodIn_app (goodIn_of _ (by decide +kernel)) ggX1_drop_X1_isNode
set_option maxRecDepth 20000 in
theorem ggX1_change_X1_isNode : GoodIn wsX1_change wsX1_isNode := goodIn_r _ [8, 9, 13, 14, 15, 16, 17, 18, 19, 20] (by decide +kernel) (by decide +kernel)
set_option maxRecDepth 20000 in
theorem gX1_change_X1_isNode : GoodIn wsX1_change (wsV RX1 40 RX1 yX1_isNode wsX1_isNode) := goodIn_app (goodIn_of _ (by decide +kernel)) ggX1_change_X1_isNode
set_option maxRecDepth 20000 in
theorem ggX1_change_X1_isWorth : GoodIn wsX1_change wsX1_isWorth := goodIn_r _ [12] (by decide +kernel) (by decide +kernel)
set_option maxRecDepth 20000 in
theorem gX1_change_X1_isWorth : GoodIn wsX1_change (va_wsS RX1 36 yX1_isWorth wsX1_isWorth) := goodIn_app (goodIn_of _ (by decide +kernel)) ggX1_change_X1_isWorth
set_option maxRecDepth 20000 in
theorem ggX1_given_X1_behind : GoodIn wsX1_given wsX1_behind := goodIn_r _ [6] (by decide +kernel) (by decide +kernel)
set_option maxRecDepth 20000 in
theorem gX1_given_X1_behind : GoodIn wsX1_given (va_wsS RX1 43 yX1_behind wsX1_behind) := goodIn_app (goodIn_of _ (by decide +kernel)) ggX1_given_X1_behind
set_option maxRecDepth 20000 in
theorem ggX1_greatest_X1_given : GoodIn wsX1_greatest wsX1_given := goodIn_r _ [6, 7, 8, 9, 10, 5, 11, 12, 13, 14, 15, 16, 17, 18, 19] (by decide +kernel) (by decide +kernel)
set_option maxRecDepth 20000 in
theorem gX1_greatest_X1_given : GoodIn wsX1_greatest (wsV RX1 47 RX1 yX1_given wsX1_given) := goodIn_app (goodIn_of _ (by decide +kernel)) ggX1_greatest_X1_given
set_option maxRecDepth 20000 in
theorem ggX1_work_X1_greatest : GoodIn wsX1_work wsX1_greatest := goodIn_r _ [10, 4, 11, 12, 13, 9, 14, 3, 15, 16, 17, 18, 19, 20, 21, 22, 23, 24, 25, 26] (by decide +kernel) (by decide +kernel)
set_option maxRecDepth 20000 in
theorem gX1_work_X1_greatest : GoodIn wsX1_work (wsV RX1 51 RX1 yX1_greatest wsX1_greatest) := goodIn_app (goodIn_of _ (by decide +kernel)) ggX1_work_X1_greatest
set_option maxRecDepth 20000 in
theorem ggX1_asked_X1_isNode : GoodIn wsX1_asked wsX1_isNode := goodIn_r _ [6, 7, 28, 29, 30, 31, 32, 33, 34, 35] (by decide +kernel) (by decide +kernel)
set_option maxRecDepth 20000 in
theorem gX1_asked_X1_isNode : GoodIn wsX1_asked (wsV RX1 40 RX1 yX1_isNode wsX1_isNode) := goodIn_app (goodIn_of _ (by decide +kernel)) ggX1_asked_X1_isNode
set_option maxRecDepth 20000 in
theorem ggX1_asked_X1_work : GoodIn wsX1_asked wsX1_work := goodIn_r _ [11, 7, 12, 13, 14, 15, 16, 17, 18, 5, 19, 20, 21, 22, 23, 24, 25, 26, 27, 28, 29, 30, 31, 32, 33, 34, 35] (by decide +kernel) (by decide +kernel)
set_option maxRecDepth 20000 in
theorem gX1_asked_X1_work : GoodIn wsX1_asked (wsV RX1 55 RX1 yX1_work wsX1_work) := goodIn_app (goodIn_of _ (by decide +kernel)) ggX1_asked_X1_work
set_option maxRecDepth 20000 in
theorem ggX1_value_X1_asked : GoodIn wsX1_value wsX1_asked := goodIn_r _ [5, 6, 7, 8, 9, 4, 10, 11, 12, 13, 14, 15, 16, 17, 18, 19, 20, 21, 22, 23, 24, 25, 26, 27, 28, 29, 30, 31, 36, 37, 38, 39, 40, 41, 42, 43] (by decide +kernel) (by decide +kernel)
set_option maxRecDepth 20000 in
theorem gX1_value_X1_asked : GoodIn wsX1_value (wsV RX1 59 RX1 yX1_asked wsX1_asked) := goodIn_app (goodIn_of _ (by decide +kernel)) ggX1_value_X1_asked
set_option maxRecDepth 20000 in
theorem ggX1_value_X1_valueOf : GoodIn wsX1_value wsX1_valueOf := goodIn_r _ [35, 17, 36, 37, 38, 39, 40, 41, 42, 43] (by decide +kernel) (by decide +kernel)
set_option maxRecDepth 20000 in
theorem gX1_value_X1_valueOf : GoodIn wsX1_value (wsV RX1 63 RX1 yX1_valueOf wsX1_valueOf) := goodIn_app (goodIn_of _ (by decide +kernel)) ggX1_value_X1_valueOf
set_option maxRecDepth 20000 in
theorem ggX1_bestOf_X1_given : GoodIn wsX1_bestOf wsX1_given := goodIn_r _ [6, 7, 8, 9, 10, 5, 11, 16, 17, 18, 19, 20, 21, 22, 23] (by decide +kernel) (by decide +kernel)
set_option maxRecDepth 20000 in
theorem gX1_bestOf_X1_given : GoodIn wsX1_bestOf (wsV RX1 47 RX1 yX1_given wsX1_given) := goodIn_app (goodIn_of _ (by decide +kernel)) ggX1_bestOf_X1_given
set_option maxRecDepth 20000 in
theorem ggX1_bestOf_X1_valueOf : GoodIn wsX1_bestOf wsX1_valueOf := goodIn_r _ [15, 7, 16, 17, 18, 19, 20, 21, 22, 23] (by decide +kernel) (by decide +kernel)
set_option maxRecDepth 20000 in
theorem gX1_bestOf_X1_valueOf : GoodIn wsX1_bestOf (wsV RX1 63 RX1 yX1_valueOf wsX1_valueOf) := goodIn_app (goodIn_of _ (by decide +kernel)) ggX1_bestOf_X1_valueOf
set_option maxRecDepth 20000 in
theorem ggX1_best_X1_asked : GoodIn wsX1_best wsX1_asked := goodIn_r _ [5, 6, 7, 8, 9, 4, 10, 11, 12, 13, 14, 15, 16, 17, 18, 19, 20, 21, 22, 23, 24, 25, 26, 27, 28, 29, 30, 31, 40, 41, 42, 43, 44, 45, 46, 47] (by decide +kernel) (by decide +kernel)
set_option maxRecDepth 20000 in
theorem gX1_best_X1_asked : GoodIn wsX1_best (wsV RX1 59 RX1 yX1_asked wsX1_asked) := goodIn_app (goodIn_of _ (by decide +kernel)) ggX1_best_X1_asked
set_option maxRecDepth 20000 in
theorem ggX1_best_X1_bestOf : GoodIn wsX1_best wsX1_bestOf := goodIn_r _ [35, 18, 24, 25, 26, 4, 27, 17, 28, 29, 30, 31, 36, 37, 38, 39, 40, 41, 42, 43, 44, 45, 46, 47] (by decide +kernel) (by decide +kernel)
set_option maxRecDepth 20000 in
theorem gX1_best_X1_bestOf : GoodIn wsX1_best (wsV RX1 66 RX1 yX1_bestOf wsX1_bestOf) := goodIn_app (goodIn_of _ (by decide +kernel)) ggX1_best_X1_bestOf
set_option maxRecDepth 20000 in
theorem ggX1_reaches_X1_asked : GoodIn wsX1_reaches wsX1_asked := goodIn_r _ [5, 6, 7, 8, 9, 4, 10, 11, 12, 13, 14, 15, 16, 17, 18, 19, 20, 21, 22, 23, 24, 25, 26, 27, 28, 29, 30, 31, 36, 37, 38, 39, 40, 41, 42, 43] (by decide +kernel) (by decide +kernel)
set_option maxRecDepth 20000 in
theorem gX1_reaches_X1_asked : GoodIn wsX1_reaches (wsV RX1 59 RX1 yX1_asked wsX1_asked) := goodIn_app (goodIn_of _ (by decide +kernel)) ggX1_reaches_X1_asked
set_option maxRecDepth 20000 in
theorem ggX1_reaches_X1_valueOf : GoodIn wsX1_reaches wsX1_valueOf := goodIn_r _ [35, 17, 36, 37, 38, 39, 40, 41, 42, 43] (by decide +kernel) (by decide +kernel)
set_option maxRecDepth 20000 in
theorem gX1_reaches_X1_valueOf : GoodIn wsX1_reaches (wsV RX1 63 RX1 yX1_valueOf wsX1_valueOf) := goodIn_app (goodIn_of _ (by decide +kernel)) ggX1_reaches_X1_valueOf
set_option maxRecDepth 20000 in
theorem ggX1_line_X1_asked : GoodIn wsX1_line wsX1_asked := goodIn_r _ [6, 7, 8, 9, 10, 5, 11, 12, 13, 14, 15, 16, 17, 18, 19, 20, 21, 22, 23, 24, 25, 26, 27, 28, 1, 29, 30, 31, 40, 41, 42, 43, 44, 45, 46, 47] (by decide +kernel) (by decide +kernel)
set_option maxRecDepth 20000 in
theorem gX1_line_X1_asked : GoodIn wsX1_line (wsV RX1 59 RX1 yX1_asked wsX1_asked) := goodIn_app (goodIn_of _ (by decide +kernel)) ggX1_line_X1_asked
set_option maxRecDepth 20000 in
theorem ggX1_line_X1_bestOf : GoodIn wsX1_line wsX1_bestOf := goodIn_r _ [35, 19, 25, 26, 27, 5, 28, 18, 1, 29, 30, 31, 36, 37, 38, 39, 40, 41, 42, 43, 44, 45, 46, 47] (by decide +kernel) (by decide +kernel)
set_option maxRecDepth 20000 in
theorem gX1_line_X1_bestOf : GoodIn wsX1_line (wsV RX1 66 RX1 yX1_bestOf wsX1_bestOf) := goodIn_app (goodIn_of _ (by decide +kernel)) ggX1_line_X1_bestOf
set_option maxRecDepth 20000 in
theorem ggX1_ties_X1_asked : GoodIn wsX1_ties wsX1_asked := goodIn_r _ [6, 7, 8, 9, 10, 5, 11, 12, 13, 14, 15, 16, 17, 18, 1, 19, 20, 21, 22, 23, 24, 25, 26, 27, 28, 29, 30, 31, 36, 37, 38, 39, 40, 41, 42, 43] (by decide +kernel) (by decide +kernel)
set_option maxRecDepth 20000 in
theorem gX1_ties_X1_asked : GoodIn wsX1_ties (wsV RX1 59 RX1 yX1_asked wsX1_asked) := goodIn_app (goodIn_of _ (by decide +kernel)) ggX1_ties_X1_asked
set_option maxRecDepth 20000 in
theorem ggX1_ties_X1_given : GoodIn wsX1_ties wsX1_given := goodIn_r _ [27, 18, 28, 29, 30, 5, 31, 36, 37, 38, 39, 40, 41, 42, 43] (by decide +kernel) (by decide +kernel)
set_option maxRecDepth 20000 in
theorem gX1_ties_X1_given : GoodIn wsX1_ties (wsV RX1 47 RX1 yX1_given wsX1_given) := goodIn_app (goodIn_of _ (by decide +kernel)) ggX1_ties_X1_given
set_option maxRecDepth 20000 in
theorem ggX1_ties_X1_valueOf : GoodIn wsX1_ties wsX1_valueOf := goodIn_r _ [35, 18, 36, 37, 38, 39, 40, 41, 42, 43] (by decide +kernel) (by decide +kernel)
set_option maxRecDepth 20000 in
theorem gX1_ties_X1_valueOf : GoodIn wsX1_ties (wsV RX1 63 RX1 yX1_valueOf wsX1_valueOf) := goodIn_app (goodIn_of _ (by decide +kernel)) ggX1_ties_X1_valueOf
set_option maxRecDepth 20000 in
theorem ggX1_settled_X1_asked : GoodIn wsX1_settled wsX1_asked := goodIn_r _ [5, 6, 7, 8, 9, 4, 10, 11, 12, 13, 14, 15, 16, 17, 18, 19, 20, 21, 22, 23, 24, 25, 26, 27, 28, 29, 30, 31, 36, 37, 38, 39, 40, 41, 42, 43] (by decide +kernel) (by decide +kernel)
set_option maxRecDepth 20000 in
theorem gX1_settled_X1_asked : GoodIn wsX1_settled (wsV RX1 59 RX1 yX1_asked wsX1_asked) := goodIn_app (goodIn_of _ (by decide +kernel)) ggX1_settled_X1_asked
set_option maxRecDepth 20000 in
theorem ggX1_settled_X1_valueOf : GoodIn wsX1_settled wsX1_valueOf := goodIn_r _ [35, 17, 36, 37, 38, 39, 40, 41, 42, 43] (by decide +kernel) (by decide +kernel)
set_option maxRecDepth 20000 in
theorem gX1_settled_X1_valueOf : GoodIn wsX1_settled (wsV RX1 63 RX1 yX1_valueOf wsX1_valueOf) := goodIn_app (goodIn_of _ (by decide +kernel)) ggX1_settled_X1_valueOf
set_option maxRecDepth 20000 in
theorem ggX1_of_X1_isNode : GoodIn wsX1_of wsX1_isNode := goodIn_r _ [10, 11, 12, 13, 14, 15, 16, 17, 18, 19] (by decide +kernel) (by decide +kernel)
set_option maxRecDepth 20000 in
theorem gX1_of_X1_isNode : GoodIn wsX1_of (wsV RX1 40 RX1 yX1_isNode wsX1_isNode) := goodIn_app (goodIn_of _ (by decide +kernel)) ggX1_of_X1_isNode
set_option maxRecDepth 20000 in
theorem ggX1_around_X1_isNode : GoodIn wsX1_around wsX1_isNode := goodIn_r _ [10, 2, 11, 12, 13, 14, 15, 16, 17, 18] (by decide +kernel) (by decide +kernel)
set_option maxRecDepth 20000 in
theorem gX1_around_X1_isNode : GoodIn wsX1_around (wsV RX1 40 RX1 yX1_isNode wsX1_isNode) := goodIn_app (goodIn_of _ (by decide +kernel)) ggX1_around_X1_isNode
set_option maxRecDepth 20000 in
theorem ggL_node_X0_node : GoodIn wsL_node wsX0_node := goodIn_ca (goodIn_ca (goodIn_r _ [7, 8, 9, 10, 11, 12, 13, 14, 15, 16, 6, 17, 18, 19, 20, 21, 22, 23, 24, 25, 26, 27, 28, 29, 30, 31, 32, 33] (by decide +kernel) (by decide +kernel)) (goodIn_sub (fun _ h => List.mem_cons_of_mem _ (List.mem_append_left _ (List.mem_append_right _ h))) (by decide +kernel))) (goodIn_sub (fun _ h => List.mem_cons_of_mem _ (List.mem_append_right _ h)) (by decide +kernel))
set_option maxRecDepth 20000 in
theorem gL_node_X0_node : GoodIn wsL_node (wsV RL 7 RX0 yX0_node wsX0_node) := goodIn_app (goodIn_of _ (by decide +kernel)) ggL_node_X0_node
set_option maxRecDepth 20000 in
theorem ggL_move_X0_move : GoodIn wsL_move wsX0_move := goodIn_ca (goodIn_ca (goodIn_r _ [7, 8, 9, 10, 11, 12, 13, 14, 15, 16, 17, 6, 18, 19, 20, 21, 22, 23, 24, 25, 26, 27, 28, 29, 30, 31, 32, 33, 34, 35, 36, 37, 38] (by decide +kernel) (by decide +kernel)) (goodIn_sub (fun _ h => List.mem_cons_of_mem _ (List.mem_append_left _ (List.mem_append_right _ h))) (by decide +kernel))) (goodIn_sub (fun _ h => List.mem_cons_of_mem _ (List.mem_append_right _ h)) (by decide +kernel))
set_option maxRecDepth 20000 in
theorem gL_move_X0_move : GoodIn wsL_move (wsV RL 17 RX0 yX0_move wsX0_move) := goodIn_app (goodIn_of _ (by decide +kernel)) ggL_move_X0_move
set_option maxRecDepth 20000 in
theorem ggL_value_X0_value : GoodIn wsL_value wsX0_value := goodIn_ca (goodIn_r _ [6, 7, 8, 9, 10, 5, 11, 12, 13, 14, 15, 16, 17, 18, 19, 20, 21, 22, 23, 24, 25, 26, 27, 28, 29, 30, 31, 32, 33, 34, 35, 36, 37, 38, 39, 40, 41, 42, 43, 44, 45, 46, 47, 48, 49, 50, 51, 52, 53, 54, 55, 56, 57, 58, 59, 60] (by decide +kernel) (by decide +kernel)) (goodIn_sub (fun _ h => List.mem_cons_of_mem _ (List.mem_append_right _ h)) (by decide +kernel))
set_option maxRecDepth 20000 in
theorem gL_value_X0_value : GoodIn wsL_value (wsV RL 21 RX0 yX0_value wsX0_value) := goodIn_app (goodIn_of _ (by decide +kernel)) ggL_value_X0_value
set_option maxRecDepth 20000 in
theorem ggL_best_X0_best : GoodIn wsL_best wsX0_best := goodIn_ca (goodIn_r _ [6, 7, 8, 9, 5, 10, 11, 12, 13, 14, 15, 16, 17, 18, 19, 20, 21, 22, 23, 24, 25, 26, 27, 28, 29, 30, 31, 32, 33, 34, 35, 36, 37, 38, 39, 40, 41, 42, 43, 44, 45, 46, 47, 48, 49, 50, 51, 52, 53, 54, 55, 56, 57, 58, 59, 60, 61, 62, 63, 64] (by decide +kernel) (by decide +kernel)) (goodIn_sub (fun _ h => List.mem_cons_of_mem _ (List.mem_append_right _ h)) (by decide +kernel))
set_option maxRecDepth 20000 in
theorem gL_best_X0_best : GoodIn wsL_best (wsV RL 24 RX0 yX0_best wsX0_best) := goodIn_app (goodIn_of _ (by decide +kernel)) ggL_best_X0_best
set_option maxRecDepth 20000 in
theorem ggL_reaches_X0_reaches : GoodIn wsL_reaches wsX0_reaches := goodIn_ca (goodIn_r _ [6, 7, 8, 9, 10, 5, 11, 12, 13, 14, 15, 16, 17, 18, 19, 20, 21, 22, 23, 24, 25, 26, 27, 28, 29, 30, 31, 32, 33, 34, 35, 36, 37, 38, 39, 40, 41, 42, 43, 44, 45, 46, 47, 48, 49, 50, 51, 52, 53, 54, 55, 56, 57, 58, 59, 60] (by decide +kernel) (by decide +kernel)) (goodIn_sub (fun _ h => List.mem_cons_of_mem _ (List.mem_append_right _ h)) (by decide +kernel))
set_option maxRecDepth 20000 in
theorem gL_reaches_X0_reaches : GoodIn wsL_reaches (wsV RL 27 RX0 yX0_reaches wsX0_reaches) := goodIn_app (goodIn_of _ (by decide +kernel)) ggL_reaches_X0_reaches
set_option maxRecDepth 20000 in
theorem ggL_line_X0_line : GoodIn wsL_line wsX0_line := goodIn_ca (goodIn_r _ [6, 7, 8, 9, 10, 5, 11, 12, 13, 14, 15, 16, 17, 18, 19, 20, 21, 22, 23, 24, 25, 26, 27, 28, 29, 30, 31, 32, 33, 34, 35, 36, 37, 38, 39, 40, 41, 42, 43, 44, 45, 46, 47, 48, 49, 50, 51, 52, 53, 54, 55, 56, 57, 58, 59, 60, 61, 62, 63, 64] (by decide +kernel) (by decide +kernel)) (goodIn_sub (fun _ h => List.mem_cons_of_mem _ (List.mem_append_right _ h)) (by decide +kernel))
set_option maxRecDepth 20000 in
theorem gL_line_X0_line : GoodIn wsL_line (wsV RL 31 RX0 yX0_line wsX0_line) := goodIn_app (goodIn_of _ (by decide +kernel)) ggL_line_X0_line
set_option maxRecDepth 20000 in
theorem ggL_ties_X0_ties : GoodIn wsL_ties wsX0_ties := goodIn_ca (goodIn_r _ [6, 7, 8, 9, 10, 11, 5, 12, 13, 14, 15, 16, 17, 18, 19, 20, 21, 22, 23, 24, 25, 26, 27, 28, 29, 30, 31, 32, 33, 34, 35, 36, 37, 38, 39, 40, 41, 42, 43, 44, 45, 46, 47, 48, 49, 50, 51, 52, 53, 54, 55, 56, 57, 58, 59, 60] (by decide +kernel) (by decide +kernel)) (goodIn_sub (fun _ h => List.mem_cons_of_mem _ (List.mem_append_right _ h)) (by decide +kernel))
set_option maxRecDepth 20000 in
theorem gL_ties_X0_ties : GoodIn wsL_ties (wsV RL 35 RX0 yX0_ties wsX0_ties) := goodIn_app (goodIn_of _ (by decide +kernel)) ggL_ties_X0_ties
set_option maxRecDepth 20000 in
theorem ggL_settled_X0_settled : GoodIn wsL_settled wsX0_settled := goodIn_ca (goodIn_r _ [6, 7, 8, 9, 10, 5, 11, 12, 13, 14, 15, 16, 17, 18, 19, 20, 21, 22, 23, 24, 25, 26, 27, 28, 29, 30, 31, 32, 33, 34, 35, 36, 37, 38, 39, 40, 41, 42, 43, 44, 45, 46, 47, 48, 49, 50, 51, 52, 53, 54, 55, 56, 57, 58, 59, 60] (by decide +kernel) (by decide +kernel)) (goodIn_sub (fun _ h => List.mem_cons_of_mem _ (List.mem_append_right _ h)) (by decide +kernel))
set_option maxRecDepth 20000 in
theorem gL_settled_X0_settled : GoodIn wsL_settled (wsV RL 38 RX0 yX0_settled wsX0_settled) := goodIn_app (goodIn_of _ (by decide +kernel)) ggL_settled_X0_settled
set_option maxRecDepth 20000 in
theorem ggL_around_X0_around : GoodIn wsL_around wsX0_around := goodIn_ca (goodIn_r _ [6, 7, 8, 9, 10, 11, 5, 12, 13, 14, 15, 16, 17, 18, 19, 20, 21, 22, 23, 24, 25, 26, 27, 28, 29, 30, 31, 32, 33, 34, 35, 36, 37, 38, 39, 40, 41, 42, 43, 44, 45, 46, 47, 48] (by decide +kernel) (by decide +kernel)) (goodIn_sub (fun _ h => List.mem_cons_of_mem _ (List.mem_append_right _ h)) (by decide +kernel))
set_option maxRecDepth 20000 in
theorem gL_around_X0_around : GoodIn wsL_around (wsV RL 41 RX0 yX0_around wsX0_around) := goodIn_app (goodIn_of _ (by decide +kernel)) ggL_around_X0_around
set_option maxRecDepth 20000 in
theorem ggL_law_L_cell : GoodIn wsL_law wsL_cell := goodIn_r _ [10] (by decide +kernel) (by decide +kernel)
set_option maxRecDepth 20000 in
theorem gL_law_L_cell : GoodIn wsL_law (va_wsS RL 44 yL_cell wsL_cell) := goodIn_app (goodIn_of _ (by decide +kernel)) ggL_law_L_cell
set_option maxRecDepth 20000 in
theorem ggL_law_X0_init : GoodIn wsL_law wsX0_init := goodIn_r _ [13, 14, 15, 16, 17, 18, 19, 20, 21, 22, 23, 24, 25, 26, 27, 28, 29, 30, 279, 280, 281, 282, 283, 284, 285, 286, 287, 288, 289] (by decide +kernel) (by decide +kernel)
set_option maxRecDepth 20000 in
theorem gL_law_X0_init : GoodIn wsL_law (wsX0_init) := ggL_law_X0_init
set_option maxRecDepth 20000 in
theorem ggL_law_X1_init : GoodIn wsL_law wsX1_init := goodIn_r _ [33, 34, 15, 16, 17, 35, 19, 36, 37, 38, 39, 40, 290, 291, 292, 293, 294, 295, 296, 297] (by decide +kernel) (by decide +kernel)
set_option maxRecDepth 20000 in
theorem gL_law_X1_init : GoodIn wsL_law (wsX1_init) := ggL_law_X1_init
set_option maxRecDepth 20000 in
theorem ggL_law_L_node : GoodIn wsL_law wsL_node := goodIn_ca (goodIn_ca (goodIn_r _ [43, 44, 45, 46, 47, 48, 2, 49, 50, 51, 52, 53, 23, 18, 20, 54, 55, 56, 57, 58, 59, 60, 27, 279, 280, 281, 282, 283, 284, 285, 286, 287, 288, 289] (by decide +kernel) (by decide +kernel)) (goodIn_sub (fun _ h => List.mem_append_left _ (List.mem_append_right _ h)) (by decide +kernel))) (goodIn_sub (fun _ h => List.mem_append_right _ h) (by decide +kernel))
set_option maxRecDepth 20000 in
theorem gL_law_L_node : GoodIn wsL_law (va_wsS RL 56 yL_node wsL_node) := goodIn_app (goodIn_of _ (by decide +kernel)) ggL_law_L_node
set_option maxRecDepth 20000 in
theorem ggL_law_X1_node : GoodIn wsL_law wsX1_node := goodIn_r _ [64, 65, 66, 35, 36, 37, 67, 68, 5, 69, 290, 291, 292, 293, 294, 295, 296, 297] (by decide +kernel) (by decide +kernel)
set_option maxRecDepth 20000 in
theorem gL_law_X1_node : GoodIn wsL_law (wsV RL 59 RX1 yX1_node wsX1_node) := goodIn_app (goodIn_of _ (by decide +kernel)) ggL_law_X1_node
set_option maxRecDepth 20000 in
theorem ggL_law_X1_thrown : GoodIn wsL_law wsX1_thrown := goodIn_r _ [73, 66, 290, 291, 292, 293, 294, 295, 296, 297] (by decide +kernel) (by decide +kernel)
set_option maxRecDepth 20000 in
theorem gL_law_X1_thrown : GoodIn wsL_law (wsV RL 60 RX1 yX1_thrown wsX1_thrown) := goodIn_app (goodIn_of _ (by decide +kernel)) ggL_law_X1_thrown
set_option maxRecDepth 20000 in
theorem ggL_law_L_move : GoodIn wsL_law wsL_move := goodIn_ca (goodIn_ca (goodIn_r _ [76, 44, 45, 77, 78, 79, 2, 80, 50, 51, 52, 53, 21, 22, 24, 81, 82, 83, 84, 23, 85, 86, 87, 57, 58, 59, 60, 27, 279, 280, 281, 282, 283, 284, 285, 286, 287, 288, 289] (by decide +kernel) (by decide +kernel)) (goodIn_sub (fun _ h => List.mem_append_left _ (List.mem_append_right _ h)) (by decide +kernel))) (goodIn_sub (fun _ h => List.mem_append_right _ h) (by decide +kernel))
set_option maxRecDepth 20000 in
theorem gL_law_L_move : GoodIn wsL_law (va_wsS RL 64 yL_move wsL_move) := goodIn_app (goodIn_of _ (by decide +kernel)) ggL_law_L_move
set_option maxRecDepth 20000 in
theorem ggL_law_X1_move : GoodIn wsL_law wsX1_move := goodIn_r _ [91, 66, 37, 38, 92, 93, 94, 5, 95, 65, 290, 291, 292, 293, 294, 295, 296, 297] (by decide +kernel) (by decide +kernel)
set_option maxRecDepth 20000 in
theorem gL_law_X1_move : GoodIn wsL_law (wsV RL 67 RX1 yX1_move wsX1_move) := goodIn_app (goodIn_of _ (by decide +kernel)) ggL_law_X1_move
set_option maxRecDepth 20000 in
theorem ggL_law_X0_drop : GoodIn wsL_law wsX0_drop := goodIn_r _ [99, 21, 24, 81, 82, 83, 2, 84, 23, 57, 58, 59, 60, 27, 279, 280, 281, 282, 283, 284, 285, 286, 287, 288, 289] (by decide +kernel) (by decide +kernel)
set_option maxRecDepth 20000 in
theorem gL_law_X0_drop : GoodIn wsL_law (wsV RL 68 RX0 yX0_drop wsX0_drop) := goodIn_app (goodIn_of _ (by decide +kernel)) ggL_law_X0_drop
set_option maxRecDepth 20000 in
theorem ggL_law_X1_drop : GoodIn wsL_law wsX1_drop := goodIn_r _ [103, 66, 37, 92, 93, 94, 5, 95, 65, 290, 291, 292, 293, 294, 295, 296, 297] (by decide +kernel) (by decide +kernel)
set_option maxRecDepth 20000 in
theorem gL_law_X1_drop : GoodIn wsL_law (wsV RL 72 RX1 yX1_drop wsX1_drop) := goodIn_app (goodIn_of _ (by decide +kernel)) ggL_law_X1_drop
set_option maxRecDepth 20000 in
theorem ggL_law_X0_change : GoodIn wsL_law wsX0_change := goodIn_r _ [107, 18, 20, 81, 82, 83, 2, 84, 23, 54, 55, 56, 57, 58, 59, 60, 27, 279, 280, 281, 282, 283, 284, 285, 286, 287, 288, 289] (by decide +kernel) (by decide +kernel)
set_option maxRecDepth 20000 in
theorem gL_law_X0_change : GoodIn wsL_law (wsV RL 73 RX0 yX0_change wsX0_change) := goodIn_app (goodIn_of _ (by decide +kernel)) ggL_law_X0_change
set_option maxRecDepth 20000 in
theorem ggL_law_X1_change : GoodIn wsL_law wsX1_change := goodIn_r _ [111, 66, 35, 36, 92, 93, 94, 5, 95, 65, 67, 68, 69, 290, 291, 292, 293, 294, 295, 296, 297] (by decide +kernel) (by decide +kernel)
set_option maxRecDepth 20000 in
theorem gL_law_X1_change : GoodIn wsL_law (wsV RL 77 RX1 yX1_change wsX1_change) := goodIn_app (goodIn_of _ (by decide +kernel)) ggL_law_X1_change
set_option maxRecDepth 20000 in
theorem ggL_law_L_value : GoodIn wsL_law wsL_value := goodIn_ca (goodIn_r _ [114, 44, 115, 116, 117, 2, 118, 26, 119, 120, 121, 122, 50, 51, 81, 82, 83, 84, 23, 123, 124, 125, 126, 27, 127, 128, 129, 130, 131, 132, 133, 134, 21, 20, 18, 135, 136, 137, 138, 139, 140, 141, 142, 22, 85, 86, 87, 143, 144, 145, 279, 280, 281, 282, 283, 284, 285, 286, 287, 288, 289] (by decide +kernel) (by decide +kernel)) (goodIn_sub (fun _ h => List.mem_append_left _ (List.mem_append_right _ h)) (by decide +kernel))
set_option maxRecDepth 20000 in
theorem gL_law_L_value : GoodIn wsL_law (va_wsS RL 78 yL_value wsL_value) := goodIn_app (goodIn_of _ (by decide +kernel)) ggL_law_L_value
set_option maxRecDepth 20000 in
theorem ggL_law_X1_value : GoodIn wsL_law wsX1_value := goodIn_r _ [149, 150, 151, 152, 5, 153, 66, 92, 93, 94, 95, 65, 154, 155, 156, 157, 36, 39, 37, 35, 158, 159, 160, 161, 162, 163, 164, 165, 38, 166, 167, 168, 169, 170, 171, 172, 290, 291, 292, 293, 294, 295, 296, 297] (by decide +kernel) (by decide +kernel)
set_option maxRecDepth 20000 in
theorem gL_law_X1_value : GoodIn wsL_law (wsV RL 80 RX1 yX1_value wsX1_value) := goodIn_app (goodIn_of _ (by decide +kernel)) ggL_law_X1_value
set_option maxRecDepth 20000 in
theorem ggL_law_L_best : GoodIn wsL_law wsL_best := goodIn_ca (goodIn_r _ [175, 44, 176, 177, 178, 2, 179, 119, 120, 121, 122, 50, 51, 81, 82, 83, 84, 23, 123, 124, 125, 126, 27, 127, 128, 129, 130, 26, 131, 132, 133, 134, 21, 20, 18, 135, 136, 137, 138, 139, 140, 141, 142, 22, 85, 86, 87, 143, 144, 145, 180, 181, 182, 183, 279, 280, 281, 282, 283, 284, 285, 286, 287, 288, 289] (by decide +kernel) (by decide +kernel)) (goodIn_sub (fun _ h => List.mem_append_left _ (List.mem_append_right _ h)) (by decide +kernel))
set_option maxRecDepth 20000 in
theorem gL_law_L_best : GoodIn wsL_law (va_wsS RL 81 yL_best wsL_best) := goodIn_app (goodIn_of _ (by decide +kernel)) ggL_law_L_best
set_option maxRecDepth 20000 in
theorem ggL_law_X1_best : GoodIn wsL_law wsX1_best := goodIn_r _ [187, 150, 151, 152, 5, 153, 66, 92, 93, 94, 95, 65, 154, 155, 156, 157, 36, 39, 37, 35, 158, 159, 160, 161, 162, 163, 164, 165, 38, 166, 167, 168, 188, 189, 190, 191, 169, 170, 171, 172, 290, 291, 292, 293, 294, 295, 296, 297] (by decide +kernel) (by decide +kernel)
set_option maxRecDepth 20000 in
theorem gL_law_X1_best : GoodIn wsL_law (wsV RL 83 RX1 yX1_best wsX1_best) := goodIn_app (goodIn_of _ (by decide +kernel)) ggL_law_X1_best
set_option maxRecDepth 20000 in
theorem ggL_law_L_reaches : GoodIn wsL_law wsL_reaches := goodIn_ca (goodIn_r _ [194, 44, 195, 196, 197, 2, 198, 26, 119, 120, 121, 122, 50, 51, 81, 82, 83, 84, 23, 123, 124, 125, 126, 27, 127, 128, 129, 130, 131, 132, 133, 134, 21, 20, 18, 135, 136, 137, 138, 139, 140, 141, 142, 22, 85, 86, 87, 143, 144, 145, 279, 280, 281, 282, 283, 284, 285, 286, 287, 288, 289] (by decide +kernel) (by decide +kernel)) (goodIn_sub (fun _ h => List.mem_append_left _ (List.mem_append_right _ h)) (by decide +kernel))
set_option maxRecDepth 20000 in
theorem gL_law_L_reaches : GoodIn wsL_law (va_wsS RL 84 yL_reaches wsL_reaches) := goodIn_app (goodIn_of _ (by decide +kernel)) ggL_law_L_reaches
set_option maxRecDepth 20000 in
theorem ggL_law_X1_reaches : GoodIn wsL_law wsX1_reaches := goodIn_r _ [202, 150, 151, 152, 5, 153, 66, 92, 93, 94, 95, 65, 154, 155, 156, 157, 36, 39, 37, 35, 158, 159, 160, 161, 162, 163, 164, 165, 38, 166, 167, 168, 169, 170, 171, 172, 290, 291, 292, 293, 294, 295, 296, 297] (by decide +kernel) (by decide +kernel)
set_option maxRecDepth 20000 in
theorem gL_law_X1_reaches : GoodIn wsL_law (wsV RL 87 RX1 yX1_reaches wsX1_reaches) := goodIn_app (goodIn_of _ (by decide +kernel)) ggL_law_X1_reaches
set_option maxRecDepth 20000 in
theorem ggL_law_L_line : GoodIn wsL_law wsL_line := goodIn_ca (goodIn_r _ [205, 44, 206, 207, 208, 2, 209, 22, 119, 120, 121, 122, 50, 51, 81, 82, 83, 84, 23, 123, 124, 125, 126, 27, 127, 128, 129, 130, 26, 131, 132, 133, 134, 21, 20, 18, 135, 136, 137, 138, 139, 140, 141, 142, 85, 86, 87, 143, 144, 145, 180, 181, 182, 183, 279, 280, 281, 282, 283, 284, 285, 286, 287, 288, 289] (by decide +kernel) (by decide +kernel)) (goodIn_sub (fun _ h => List.mem_append_left _ (List.mem_append_right _ h)) (by decide +kernel))
set_option maxRecDepth 20000 in
theorem gL_law_L_line : GoodIn wsL_law (va_wsS RL 88 yL_line wsL_line) := goodIn_app (goodIn_of _ (by decide +kernel)) ggL_law_L_line
set_option maxRecDepth 20000 in
theorem ggL_law_X1_line : GoodIn wsL_law wsX1_line := goodIn_r _ [213, 38, 150, 151, 152, 5, 153, 66, 92, 93, 94, 95, 65, 154, 155, 156, 157, 36, 39, 37, 35, 158, 159, 160, 161, 162, 163, 164, 165, 166, 167, 168, 188, 189, 190, 191, 169, 170, 171, 172, 290, 291, 292, 293, 294, 295, 296, 297] (by decide +kernel) (by decide +kernel)
set_option maxRecDepth 20000 in
theorem gL_law_X1_line : GoodIn wsL_law (wsV RL 90 RX1 yX1_line wsX1_line) := goodIn_app (goodIn_of _ (by decide +kernel)) ggL_law_X1_line
set_option maxRecDepth 20000 in
theorem ggL_law_L_ties : GoodIn wsL_law wsL_ties := goodIn_ca (goodIn_r _ [216, 44, 217, 218, 219, 2, 220, 21, 26, 119, 120, 121, 122, 50, 51, 81, 82, 83, 84, 23, 123, 124, 125, 126, 27, 127, 128, 129, 130, 131, 132, 133, 134, 20, 18, 135, 136, 137, 138, 139, 140, 141, 142, 22, 85, 86, 87, 143, 144, 145, 279, 280, 281, 282, 283, 284, 285, 286, 287, 288, 289] (by decide +kernel) (by decide +kernel)) (goodIn_sub (fun _ h => List.mem_append_left _ (List.mem_append_right _ h)) (by decide +kernel))
set_option maxRecDepth 20000 in
theorem gL_law_L_ties : GoodIn wsL_law (va_wsS RL 91 yL_ties wsL_ties) := goodIn_app (goodIn_of _ (by decide +kernel)) ggL_law_L_ties
set_option maxRecDepth 20000 in
theorem ggL_law_X1_ties : GoodIn wsL_law wsX1_ties := goodIn_r _ [224, 37, 150, 151, 152, 5, 153, 66, 92, 93, 94, 95, 65, 154, 155, 156, 157, 36, 39, 35, 158, 159, 160, 161, 162, 163, 164, 165, 38, 166, 167, 168, 169, 170, 171, 172, 290, 291, 292, 293, 294, 295, 296, 297] (by decide +kernel) (by decide +kernel)
set_option maxRecDepth 20000 in
theorem gL_law_X1_ties : GoodIn wsL_law (wsV RL 93 RX1 yX1_ties wsX1_ties) := goodIn_app (goodIn_of _ (by decide +kernel)) ggL_law_X1_ties
set_option maxRecDepth 20000 in
theorem ggL_law_L_settled : GoodIn wsL_law wsL_settled := goodIn_ca (goodIn_r _ [227, 44, 228, 229, 230, 2, 231, 26, 119, 120, 121, 122, 50, 51, 81, 82, 83, 84, 23, 123, 124, 125, 126, 27, 127, 128, 129, 130, 131, 132, 133, 134, 21, 20, 18, 135, 136, 137, 138, 139, 140, 141, 142, 22, 85, 86, 87, 143, 144, 145, 279, 280, 281, 282, 283, 284, 285, 286, 287, 288, 289] (by decide +kernel) (by decide +kernel)) (goodIn_sub (fun _ h => List.mem_append_left _ (List.mem_append_right _ h)) (by decide +kernel))
set_option maxRecDepth 20000 in
theorem gL_law_L_settled : GoodIn wsL_law (va_wsS RL 94 yL_settled wsL_settled) := goodIn_app (goodIn_of _ (by decide +kernel)) ggL_law_L_settled
set_option maxRecDepth 20000 in
theorem ggL_law_X1_settled : GoodIn wsL_law wsX1_settled := goodIn_r _ [235, 150, 151, 152, 5, 153, 66, 92, 93, 94, 95, 65, 154, 155, 156, 157, 36, 39, 37, 35, 158, 159, 160, 161, 162, 163, 164, 165, 38, 166, 167, 168, 169, 170, 171, 172, 290, 291, 292, 293, 294, 295, 296, 297] (by decide +kernel) (by decide +kernel)
set_option maxRecDepth 20000 in
theorem gL_law_X1_settled : GoodIn wsL_law (wsV RL 96 RX1 yX1_settled wsX1_settled) := goodIn_app (goodIn_of _ (by decide +kernel)) ggL_law_X1_settled
set_option maxRecDepth 20000 in
theorem ggL_law_X0_of : GoodIn wsL_law wsX0_of := goodIn_r _ [239, 18, 20, 21, 81, 82, 83, 2, 84, 23, 240, 241, 242, 243, 22, 85, 86, 87, 279, 280, 281, 282, 283, 284, 285, 286, 287, 288, 289] (by decide +kernel) (by decide +kernel)
set_option maxRecDepth 20000 in
theorem gL_law_X0_of : GoodIn wsL_law (wsV RL 97 RX0 yX0_of wsX0_of) := goodIn_app (goodIn_of _ (by decide +kernel)) ggL_law_X0_of
set_option maxRecDepth 20000 in
theorem ggL_law_X1_of : GoodIn wsL_law wsX1_of := goodIn_r _ [247, 66, 35, 36, 37, 38, 92, 93, 94, 5, 95, 65, 290, 291, 292, 293, 294, 295, 296, 297] (by decide +kernel) (by decide +kernel)
set_option maxRecDepth 20000 in
theorem gL_law_X1_of : GoodIn wsL_law (wsV RL 100 RX1 yX1_of wsX1_of) := goodIn_app (goodIn_of _ (by decide +kernel)) ggL_law_X1_of
set_option maxRecDepth 20000 in
theorem ggL_law_L_around : GoodIn wsL_law wsL_around := goodIn_ca (goodIn_r _ [250, 44, 251, 252, 253, 2, 254, 30, 28, 119, 120, 121, 122, 50, 51, 81, 82, 83, 84, 23, 255, 256, 257, 258, 29, 259, 260, 261, 262, 263, 264, 265, 266, 21, 22, 85, 86, 87, 279, 280, 281, 282, 283, 284, 285, 286, 287, 288, 289] (by decide +kernel) (by decide +kernel)) (goodIn_sub (fun _ h => List.mem_append_left _ (List.mem_append_right _ h)) (by decide +kernel))
set_option maxRecDepth 20000 in
theorem gL_law_L_around : GoodIn wsL_law (va_wsS RL 101 yL_around wsL_around) := goodIn_app (goodIn_of _ (by decide +kernel)) ggL_law_L_around
set_option maxRecDepth 20000 in
theorem ggL_law_X1_around : GoodIn wsL_law wsX1_around := goodIn_r _ [270, 66, 65, 40, 37, 38, 92, 93, 94, 5, 95, 290, 291, 292, 293, 294, 295, 296, 297] (by decide +kernel) (by decide +kernel)
set_option maxRecDepth 20000 in
theorem gL_law_X1_around : GoodIn wsL_law (wsV RL 103 RX1 yX1_around wsX1_around) := goodIn_app (goodIn_of _ (by decide +kernel)) ggL_law_X1_around
set_option maxRecDepth 20000 in
theorem ggL_law_X0_look : GoodIn wsL_law wsX0_look := goodIn_r _ [274, 23, 24, 279, 280, 281, 282, 283, 284, 285, 286, 287, 288, 289] (by decide +kernel) (by decide +kernel)
set_option maxRecDepth 20000 in
theorem gL_law_X0_look : GoodIn wsL_law (wsV RL 104 RX0 yX0_look wsX0_look) := goodIn_app (goodIn_of _ (by decide +kernel)) ggL_law_X0_look
set_option maxRecDepth 20000 in
theorem ggL_law_X1_look : GoodIn wsL_law wsX1_look := goodIn_r _ [278, 66, 65, 37, 290, 291, 292, 293, 294, 295, 296, 297] (by decide +kernel) (by decide +kernel)
set_option maxRecDepth 20000 in
theorem gL_law_X1_look : GoodIn wsL_law (wsV RL 108 RX1 yX1_look wsX1_look) := goodIn_app (goodIn_of _ (by decide +kernel)) ggL_law_X1_look
abbrev vwCl : List vw_C := [(RX0, TX0, 11), (RX1, TX1, 8)]
