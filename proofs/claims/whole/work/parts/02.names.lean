def RX0 : String := "CnfCompiler$ClauseReader"
def TX0 : u_T := fun k => match k with
  | 0 => ("CnfCompiler$ClauseReader", "readClauses", "[I", true)
  | 1 => ("CnfCompiler$ClauseReader", "readCount", "I", false)
  | 2 => ("CnfCompiler$ClauseReader", "position", "I", false)
  | 3 => ("CnfCompiler$ClauseReader", "openClause", "I", false)
  | _ => ("CnfCompiler$ClauseReader", "errorPosition", "I", false)
def tyX0 : Nat → FieldType := fun k => match k with
  | 0 => .array .int
  | 1 => .int
  | 2 => .int
  | 3 => .int
  | _ => .int
abbrev wsX00 : List Cond := u_ws RX0 TX0 5
theorem nmX0 : ∀ a, a < 5 → ∀ b, b < 5 → a ≠ b → (TX0 a).2.1 ≠ (TX0 b).2.1 := by decide +kernel
theorem tyX0_ok : ∀ k, k < 5 → parseFieldDescriptor (TX0 k).2.2.1 = some (tyX0 k) := by decide +kernel
abbrev cX0_init : ByteArray := prog_2_method_1_code
def yX0_init : MethodName := ⟨RX0, "<init>", "()V"⟩
abbrev cX0_clauseAt : ByteArray := prog_2_method_2_code
def yX0_clauseAt : MethodName := ⟨RX0, "clauseAt", "(I)I"⟩
abbrev cX0_read : ByteArray := prog_2_method_3_code
def yX0_read : MethodName := ⟨RX0, "read", "(LCnfCompiler$FormulaText;I)I"⟩
abbrev cX0_readToken : ByteArray := prog_2_method_4_code
def yX0_readToken : MethodName := ⟨RX0, "readToken", "(LCnfCompiler$FormulaText;I)V"⟩
abbrev cX0_closeClause : ByteArray := prog_2_method_5_code
def yX0_closeClause : MethodName := ⟨RX0, "closeClause", "()V"⟩
abbrev cX0_readLiteral : ByteArray := prog_2_method_6_code
def yX0_readLiteral : MethodName := ⟨RX0, "readLiteral", "(LCnfCompiler$FormulaText;I)V"⟩
abbrev cX0_countDigits : ByteArray := prog_2_method_7_code
def yX0_countDigits : MethodName := ⟨RX0, "countDigits", "(LCnfCompiler$FormulaText;I)I"⟩
abbrev cX0_numberAt : ByteArray := prog_2_method_8_code
def yX0_numberAt : MethodName := ⟨RX0, "numberAt", "(LCnfCompiler$FormulaText;II)I"⟩
def RX1 : String := "CnfCompiler$Explainer"
def TX1 : u_T := fun k => match k with
  | 0 => ("CnfCompiler$Explainer", "supporting", "[J", true)
  | 1 => ("CnfCompiler$Explainer", "opposing", "[J", true)
  | 2 => ("CnfCompiler$Explainer", "chosenCodes", "[I", true)
  | 3 => ("CnfCompiler$Explainer", "usableCodes", "I", false)
  | 4 => ("CnfCompiler$Explainer", "goal", "I", false)
  | _ => ("CnfCompiler$Explainer", "foundSize", "I", false)
def tyX1 : Nat → FieldType := fun k => match k with
  | 0 => .array .long
  | 1 => .array .long
  | 2 => .array .int
  | 3 => .int
  | 4 => .int
  | _ => .int
abbrev wsX10 : List Cond := u_ws RX1 TX1 6
theorem nmX1 : ∀ a, a < 6 → ∀ b, b < 6 → a ≠ b → (TX1 a).2.1 ≠ (TX1 b).2.1 := by decide +kernel
theorem tyX1_ok : ∀ k, k < 6 → parseFieldDescriptor (TX1 k).2.2.1 = some (tyX1 k) := by decide +kernel
abbrev cX1_init : ByteArray := prog_3_method_1_code
def yX1_init : MethodName := ⟨RX1, "<init>", "()V"⟩
abbrev cX1_forget : ByteArray := prog_3_method_2_code
def yX1_forget : MethodName := ⟨RX1, "forget", "()V"⟩
abbrev cX1_explain : ByteArray := prog_3_method_3_code
def yX1_explain : MethodName := ⟨RX1, "explain", "(ILCnfCompiler$ModelSet;I)V"⟩
abbrev cX1_complete : ByteArray := prog_3_method_4_code
def yX1_complete : MethodName := ⟨RX1, "complete", "(III)Z"⟩
abbrev cX1_explains : ByteArray := prog_3_method_5_code
def yX1_explains : MethodName := ⟨RX1, "explains", "(I)Z"⟩
abbrev cX1_literalAt : ByteArray := prog_3_method_6_code
def yX1_literalAt : MethodName := ⟨RX1, "literalAt", "(I)I"⟩
def RX2 : String := "CnfCompiler$FormulaText"
def TX2 : u_T := fun k => match k with
  | 0 => ("CnfCompiler$FormulaText", "bytes", "[I", true)
  | _ => ("CnfCompiler$FormulaText", "length", "I", false)
def tyX2 : Nat → FieldType := fun k => match k with
  | 0 => .array .int
  | _ => .int
abbrev wsX20 : List Cond := u_ws RX2 TX2 2
theorem nmX2 : ∀ a, a < 2 → ∀ b, b < 2 → a ≠ b → (TX2 a).2.1 ≠ (TX2 b).2.1 := by decide +kernel
theorem tyX2_ok : ∀ k, k < 2 → parseFieldDescriptor (TX2 k).2.2.1 = some (tyX2 k) := by decide +kernel
abbrev cX2_init : ByteArray := prog_4_method_1_code
def yX2_init : MethodName := ⟨RX2, "<init>", "()V"⟩
abbrev cX2_addByte : ByteArray := prog_4_method_2_code
def yX2_addByte : MethodName := ⟨RX2, "addByte", "(I)V"⟩
abbrev cX2_byteAt : ByteArray := prog_4_method_3_code
def yX2_byteAt : MethodName := ⟨RX2, "byteAt", "(I)I"⟩
abbrev cX2_hasDigitAt : ByteArray := prog_4_method_4_code
def yX2_hasDigitAt : MethodName := ⟨RX2, "hasDigitAt", "(I)Z"⟩
def RX3 : String := "CnfCompiler$Graph"
def TX3 : u_T := fun k => match k with
  | 0 => ("CnfCompiler$Graph", "rows", "[I", true)
  | 1 => ("CnfCompiler$Graph", "bucketHeads", "[I", true)
  | 2 => ("CnfCompiler$Graph", "nodeRows", "[I", false)
  | 3 => ("CnfCompiler$Graph", "nodeSizes", "[I", false)
  | 4 => ("CnfCompiler$Graph", "nodeDepths", "[I", false)
  | 5 => ("CnfCompiler$Graph", "nodeNexts", "[I", false)
  | 6 => ("CnfCompiler$Graph", "nodeCount", "I", false)
  | 7 => ("CnfCompiler$Graph", "rootSize", "I", false)
  | 8 => ("CnfCompiler$Graph", "rootDepth", "I", false)
  | 9 => ("CnfCompiler$Graph", "decisionTotal", "I", false)
  | 10 => ("CnfCompiler$Graph", "andTotal", "I", false)
  | 11 => ("CnfCompiler$Graph", "hasTrueNode", "Z", false)
  | _ => ("CnfCompiler$Graph", "hasFalseNode", "Z", false)
def tyX3 : Nat → FieldType := fun k => match k with
  | 0 => .array .int
  | 1 => .array .int
  | 2 => .array .int
  | 3 => .array .int
  | 4 => .array .int
  | 5 => .array .int
  | 6 => .int
  | 7 => .int
  | 8 => .int
  | 9 => .int
  | 10 => .int
  | 11 => .boolean
  | _ => .boolean
abbrev wsX30 : List Cond := u_ws RX3 TX3 13
theorem nmX3 : ∀ a, a < 13 → ∀ b, b < 13 → a ≠ b → (TX3 a).2.1 ≠ (TX3 b).2.1 := by decide +kernel
theorem tyX3_ok : ∀ k, k < 13 → parseFieldDescriptor (TX3 k).2.2.1 = some (tyX3 k) := by decide +kernel
abbrev cX3_init : ByteArray := prog_5_method_1_code
def yX3_init : MethodName := ⟨RX3, "<init>", "()V"⟩
abbrev cX3_compile : ByteArray := prog_5_method_2_code
def yX3_compile : MethodName := ⟨RX3, "compile", "(LCnfCompiler$State;)V"⟩
abbrev cX3_nodeTotal : ByteArray := prog_5_method_3_code
def yX3_nodeTotal : MethodName := ⟨RX3, "nodeTotal", "()I"⟩
abbrev cX3_variableAtRoot : ByteArray := prog_5_method_4_code
def yX3_variableAtRoot : MethodName := ⟨RX3, "variableAtRoot", "()I"⟩
abbrev cX3_partsAtRoot : ByteArray := prog_5_method_5_code
def yX3_partsAtRoot : MethodName := ⟨RX3, "partsAtRoot", "()I"⟩
abbrev cX3_explore : ByteArray := prog_5_method_6_code
def yX3_explore : MethodName := ⟨RX3, "explore", "(II)I"⟩
abbrev cX3_exploreDecision : ByteArray := prog_5_method_7_code
def yX3_exploreDecision : MethodName := ⟨RX3, "exploreDecision", "(II)I"⟩
abbrev cX3_exploreParts : ByteArray := prog_5_method_8_code
def yX3_exploreParts : MethodName := ⟨RX3, "exploreParts", "(II)I"⟩
abbrev cX3_setLiteral : ByteArray := prog_5_method_9_code
def yX3_setLiteral : MethodName := ⟨RX3, "setLiteral", "(III)I"⟩
abbrev cX3_takePart : ByteArray := prog_5_method_10_code
def yX3_takePart : MethodName := ⟨RX3, "takePart", "(III)I"⟩
abbrev cX3_addResidual : ByteArray := prog_5_method_11_code
def yX3_addResidual : MethodName := ⟨RX3, "addResidual", "(IIII)I"⟩
abbrev cX3_insert : ByteArray := prog_5_method_12_code
def yX3_insert : MethodName := ⟨RX3, "insert", "(III)I"⟩
abbrev cX3_variablesIn : ByteArray := prog_5_method_13_code
def yX3_variablesIn : MethodName := ⟨RX3, "variablesIn", "(II)I"⟩
abbrev cX3_variablesConnectedTo : ByteArray := prog_5_method_14_code
def yX3_variablesConnectedTo : MethodName := ⟨RX3, "variablesConnectedTo", "(III)I"⟩
abbrev cX3_mostFrequentVariable : ByteArray := prog_5_method_15_code
def yX3_mostFrequentVariable : MethodName := ⟨RX3, "mostFrequentVariable", "(II)I"⟩
abbrev cX3_bucketOf : ByteArray := prog_5_method_16_code
def yX3_bucketOf : MethodName := ⟨RX3, "bucketOf", "(II)I"⟩
abbrev cX3_findNode : ByteArray := prog_5_method_17_code
def yX3_findNode : MethodName := ⟨RX3, "findNode", "(III)I"⟩
abbrev cX3_hasRow : ByteArray := prog_5_method_18_code
def yX3_hasRow : MethodName := ⟨RX3, "hasRow", "(III)Z"⟩
abbrev cX3_addNode : ByteArray := prog_5_method_19_code
def yX3_addNode : MethodName := ⟨RX3, "addNode", "(IIII)V"⟩
abbrev cX3_makeRoom : ByteArray := prog_5_method_20_code
def yX3_makeRoom : MethodName := ⟨RX3, "makeRoom", "()V"⟩
def RX4 : String := "CnfCompiler$History"
def TX4 : u_T := fun k => match k with
  | 0 => ("CnfCompiler$History", "saved", "[LCnfCompiler$State;", true)
  | _ => ("CnfCompiler$History", "savedCount", "I", false)
def tyX4 : Nat → FieldType := fun k => match k with
  | 0 => .array (.object "CnfCompiler$State")
  | _ => .int
abbrev wsX40 : List Cond := u_ws RX4 TX4 2
theorem nmX4 : ∀ a, a < 2 → ∀ b, b < 2 → a ≠ b → (TX4 a).2.1 ≠ (TX4 b).2.1 := by decide +kernel
theorem tyX4_ok : ∀ k, k < 2 → parseFieldDescriptor (TX4 k).2.2.1 = some (tyX4 k) := by decide +kernel
abbrev cX4_init : ByteArray := prog_6_method_1_code
def yX4_init : MethodName := ⟨RX4, "<init>", "()V"⟩
abbrev cX4_save : ByteArray := prog_6_method_2_code
def yX4_save : MethodName := ⟨RX4, "save", "(LCnfCompiler$State;)V"⟩
abbrev cX4_dropOldest : ByteArray := prog_6_method_3_code
def yX4_dropOldest : MethodName := ⟨RX4, "dropOldest", "()V"⟩
abbrev cX4_restoreInto : ByteArray := prog_6_method_4_code
def yX4_restoreInto : MethodName := ⟨RX4, "restoreInto", "(LCnfCompiler$State;)V"⟩
def RX5 : String := "CnfCompiler$ModelSet"
def TX5 : u_T := fun k => match k with
  | 0 => ("CnfCompiler$ModelSet", "words", "[J", true)
  | _ => ("CnfCompiler$ModelSet", "satisfying", "[J", true)
def tyX5 : Nat → FieldType := fun k => match k with
  | 0 => .array .long
  | _ => .array .long
abbrev wsX50 : List Cond := u_ws RX5 TX5 2
theorem nmX5 : ∀ a, a < 2 → ∀ b, b < 2 → a ≠ b → (TX5 a).2.1 ≠ (TX5 b).2.1 := by decide +kernel
theorem tyX5_ok : ∀ k, k < 2 → parseFieldDescriptor (TX5 k).2.2.1 = some (tyX5 k) := by decide +kernel
abbrev cX5_init : ByteArray := prog_7_method_1_code
def yX5_init : MethodName := ⟨RX5, "<init>", "()V"⟩
abbrev cX5_literalWord : ByteArray := prog_7_method_2_code
def yX5_literalWord : MethodName := ⟨RX5, "literalWord", "(II)J"⟩
abbrev cX5_fill : ByteArray := prog_7_method_3_code
def yX5_fill : MethodName := ⟨RX5, "fill", "(LCnfCompiler$State;)V"⟩
abbrev cX5_keepSatisfying : ByteArray := prog_7_method_4_code
def yX5_keepSatisfying : MethodName := ⟨RX5, "keepSatisfying", "(I)V"⟩
abbrev cX5_wordAt : ByteArray := prog_7_method_5_code
def yX5_wordAt : MethodName := ⟨RX5, "wordAt", "(I)J"⟩
abbrev cX5_has : ByteArray := prog_7_method_6_code
def yX5_has : MethodName := ⟨RX5, "has", "(I)Z"⟩
abbrev cX5_size : ByteArray := prog_7_method_7_code
def yX5_size : MethodName := ⟨RX5, "size", "()I"⟩
abbrev cX5_sizeWith : ByteArray := prog_7_method_8_code
def yX5_sizeWith : MethodName := ⟨RX5, "sizeWith", "(I)I"⟩
abbrev cX5_least : ByteArray := prog_7_method_9_code
def yX5_least : MethodName := ⟨RX5, "least", "()I"⟩
def RX6 : String := "CnfCompiler$State"
def TX6 : u_T := fun k => match k with
  | 0 => ("CnfCompiler$State", "clauseSets", "[I", true)
  | 1 => ("CnfCompiler$State", "clauseCount", "I", false)
  | 2 => ("CnfCompiler$State", "assumed", "I", false)
  | _ => ("CnfCompiler$State", "weightByCode", "[I", true)
def tyX6 : Nat → FieldType := fun k => match k with
  | 0 => .array .int
  | 1 => .int
  | 2 => .int
  | _ => .array .int
abbrev wsX60 : List Cond := u_ws RX6 TX6 4
theorem nmX6 : ∀ a, a < 4 → ∀ b, b < 4 → a ≠ b → (TX6 a).2.1 ≠ (TX6 b).2.1 := by decide +kernel
theorem tyX6_ok : ∀ k, k < 4 → parseFieldDescriptor (TX6 k).2.2.1 = some (tyX6 k) := by decide +kernel
abbrev cX6_init : ByteArray := prog_8_method_1_code
def yX6_init : MethodName := ⟨RX6, "<init>", "()V"⟩
abbrev cX6_hasClause : ByteArray := prog_8_method_2_code
def yX6_hasClause : MethodName := ⟨RX6, "hasClause", "(I)Z"⟩
abbrev cX6_clauseAt : ByteArray := prog_8_method_3_code
def yX6_clauseAt : MethodName := ⟨RX6, "clauseAt", "(I)I"⟩
abbrev cX6_appendClause : ByteArray := prog_8_method_4_code
def yX6_appendClause : MethodName := ⟨RX6, "appendClause", "(I)V"⟩
abbrev cX6_deleteClause : ByteArray := prog_8_method_5_code
def yX6_deleteClause : MethodName := ⟨RX6, "deleteClause", "(I)V"⟩
abbrev cX6_weightOf : ByteArray := prog_8_method_6_code
def yX6_weightOf : MethodName := ⟨RX6, "weightOf", "(I)I"⟩
abbrev cX6_replaceWeight : ByteArray := prog_8_method_7_code
def yX6_replaceWeight : MethodName := ⟨RX6, "replaceWeight", "(II)I"⟩
abbrev cX6_copyFrom : ByteArray := prog_8_method_8_code
def yX6_copyFrom : MethodName := ⟨RX6, "copyFrom", "(LCnfCompiler$State;)V"⟩
def RX7 : String := "CnfCompiler$WeightedSum"
def TX7 : u_T := fun k => match k with
  | 0 => ("CnfCompiler$WeightedSum", "lowProducts", "[J", true)
  | _ => ("CnfCompiler$WeightedSum", "highProducts", "[J", true)
def tyX7 : Nat → FieldType := fun k => match k with
  | 0 => .array .long
  | _ => .array .long
abbrev wsX70 : List Cond := u_ws RX7 TX7 2
theorem nmX7 : ∀ a, a < 2 → ∀ b, b < 2 → a ≠ b → (TX7 a).2.1 ≠ (TX7 b).2.1 := by decide +kernel
theorem tyX7_ok : ∀ k, k < 2 → parseFieldDescriptor (TX7 k).2.2.1 = some (tyX7 k) := by decide +kernel
abbrev cX7_init : ByteArray := prog_9_method_1_code
def yX7_init : MethodName := ⟨RX7, "<init>", "()V"⟩
abbrev cX7_over : ByteArray := prog_9_method_2_code
def yX7_over : MethodName := ⟨RX7, "over", "(LCnfCompiler$ModelSet;LCnfCompiler$State;)J"⟩
abbrev cX7_fillProducts : ByteArray := prog_9_method_3_code
def yX7_fillProducts : MethodName := ⟨RX7, "fillProducts", "([JILCnfCompiler$State;)V"⟩
def RX8 : String := "CnfCompiler"
def TX8 : u_T := fun k => match k with
  | 0 => ("CnfCompiler", "state", "LCnfCompiler$State;", true)
  | 1 => ("CnfCompiler", "history", "LCnfCompiler$History;", true)
  | 2 => ("CnfCompiler", "text", "LCnfCompiler$FormulaText;", true)
  | 3 => ("CnfCompiler", "reader", "LCnfCompiler$ClauseReader;", true)
  | 4 => ("CnfCompiler", "graph", "LCnfCompiler$Graph;", true)
  | 5 => ("CnfCompiler", "modelSet", "LCnfCompiler$ModelSet;", true)
  | 6 => ("CnfCompiler", "weightedSum", "LCnfCompiler$WeightedSum;", true)
  | 7 => ("CnfCompiler", "explainer", "LCnfCompiler$Explainer;", true)
  | 8 => ("CnfCompiler", "errorCounts", "[I", true)
  | 9 => ("CnfCompiler", "graphIsFresh", "Z", false)
  | _ => ("CnfCompiler", "modelSetIsFresh", "Z", false)
def tyX8 : Nat → FieldType := fun k => match k with
  | 0 => .object "CnfCompiler$State"
  | 1 => .object "CnfCompiler$History"
  | 2 => .object "CnfCompiler$FormulaText"
  | 3 => .object "CnfCompiler$ClauseReader"
  | 4 => .object "CnfCompiler$Graph"
  | 5 => .object "CnfCompiler$ModelSet"
  | 6 => .object "CnfCompiler$WeightedSum"
  | 7 => .object "CnfCompiler$Explainer"
  | 8 => .array .int
  | 9 => .boolean
  | _ => .boolean
abbrev wsX80 : List Cond := u_ws RX8 TX8 11
theorem nmX8 : ∀ a, a < 11 → ∀ b, b < 11 → a ≠ b → (TX8 a).2.1 ≠ (TX8 b).2.1 := by decide +kernel
theorem tyX8_ok : ∀ k, k < 11 → parseFieldDescriptor (TX8 k).2.2.1 = some (tyX8 k) := by decide +kernel
abbrev cX8_init : ByteArray := prog_1_method_1_code
def yX8_init : MethodName := ⟨RX8, "<init>", "()V"⟩
abbrev cX8_addClause : ByteArray := prog_1_method_2_code
def yX8_addClause : MethodName := ⟨RX8, "addClause", "(IIII)I"⟩
abbrev cX8_removeClause : ByteArray := prog_1_method_3_code
def yX8_removeClause : MethodName := ⟨RX8, "removeClause", "(I)I"⟩
abbrev cX8_clauses : ByteArray := prog_1_method_4_code
def yX8_clauses : MethodName := ⟨RX8, "clauses", "()I"⟩
abbrev cX8_clauseSize : ByteArray := prog_1_method_5_code
def yX8_clauseSize : MethodName := ⟨RX8, "clauseSize", "(I)I"⟩
abbrev cX8_assume : ByteArray := prog_1_method_6_code
def yX8_assume : MethodName := ⟨RX8, "assume", "(I)I"⟩
abbrev cX8_retractAll : ByteArray := prog_1_method_7_code
def yX8_retractAll : MethodName := ⟨RX8, "retractAll", "()I"⟩
abbrev cX8_setWeight : ByteArray := prog_1_method_8_code
def yX8_setWeight : MethodName := ⟨RX8, "setWeight", "(II)I"⟩
abbrev cX8_nodes : ByteArray := prog_1_method_9_code
def yX8_nodes : MethodName := ⟨RX8, "nodes", "()I"⟩
abbrev cX8_decisionNodes : ByteArray := prog_1_method_10_code
def yX8_decisionNodes : MethodName := ⟨RX8, "decisionNodes", "()I"⟩
abbrev cX8_andNodes : ByteArray := prog_1_method_11_code
def yX8_andNodes : MethodName := ⟨RX8, "andNodes", "()I"⟩
abbrev cX8_depth : ByteArray := prog_1_method_12_code
def yX8_depth : MethodName := ⟨RX8, "depth", "()I"⟩
abbrev cX8_rootVariable : ByteArray := prog_1_method_13_code
def yX8_rootVariable : MethodName := ⟨RX8, "rootVariable", "()I"⟩
abbrev cX8_components : ByteArray := prog_1_method_14_code
def yX8_components : MethodName := ⟨RX8, "components", "()I"⟩
abbrev cX8_models : ByteArray := prog_1_method_15_code
def yX8_models : MethodName := ⟨RX8, "models", "()I"⟩
abbrev cX8_modelsWith : ByteArray := prog_1_method_16_code
def yX8_modelsWith : MethodName := ⟨RX8, "modelsWith", "(I)I"⟩
abbrev cX8_weightedCount : ByteArray := prog_1_method_17_code
def yX8_weightedCount : MethodName := ⟨RX8, "weightedCount", "()J"⟩
abbrev cX8_shareBits : ByteArray := prog_1_method_18_code
def yX8_shareBits : MethodName := ⟨RX8, "shareBits", "()I"⟩
abbrev cX8_implied : ByteArray := prog_1_method_19_code
def yX8_implied : MethodName := ⟨RX8, "implied", "(I)I"⟩
abbrev cX8_leastModel : ByteArray := prog_1_method_20_code
def yX8_leastModel : MethodName := ⟨RX8, "leastModel", "()I"⟩
abbrev cX8_explanation : ByteArray := prog_1_method_21_code
def yX8_explanation : MethodName := ⟨RX8, "explanation", "(II)I"⟩
abbrev cX8_append : ByteArray := prog_1_method_22_code
def yX8_append : MethodName := ⟨RX8, "append", "(I)I"⟩
abbrev cX8_clearText : ByteArray := prog_1_method_23_code
def yX8_clearText : MethodName := ⟨RX8, "clearText", "()I"⟩
abbrev cX8_parse : ByteArray := prog_1_method_24_code
def yX8_parse : MethodName := ⟨RX8, "parse", "()I"⟩
abbrev cX8_undo : ByteArray := prog_1_method_25_code
def yX8_undo : MethodName := ⟨RX8, "undo", "()I"⟩
abbrev cX8_errorCount : ByteArray := prog_1_method_26_code
def yX8_errorCount : MethodName := ⟨RX8, "errorCount", "(I)I"⟩
abbrev cX8_digest : ByteArray := prog_1_method_27_code
def yX8_digest : MethodName := ⟨RX8, "digest", "()J"⟩
abbrev cX8_fail : ByteArray := prog_1_method_28_code
def yX8_fail : MethodName := ⟨RX8, "fail", "(I)I"⟩
abbrev cX8_digestOfGraph : ByteArray := prog_1_method_29_code
def yX8_digestOfGraph : MethodName := ⟨RX8, "digestOfGraph", "(JLCnfCompiler$Graph;)J"⟩
abbrev cX8_formulaHasChanged : ByteArray := prog_1_method_30_code
def yX8_formulaHasChanged : MethodName := ⟨RX8, "formulaHasChanged", "()V"⟩
abbrev cX8_freshGraph : ByteArray := prog_1_method_31_code
def yX8_freshGraph : MethodName := ⟨RX8, "freshGraph", "()LCnfCompiler$Graph;"⟩
abbrev cX8_freshModelSet : ByteArray := prog_1_method_32_code
def yX8_freshModelSet : MethodName := ⟨RX8, "freshModelSet", "()LCnfCompiler$ModelSet;"⟩
abbrev cX8_isErrorCode : ByteArray := prog_1_method_33_code
def yX8_isErrorCode : MethodName := ⟨RX8, "isErrorCode", "(I)Z"⟩
abbrev cX8_isLiteralOrZero : ByteArray := prog_1_method_34_code
def yX8_isLiteralOrZero : MethodName := ⟨RX8, "isLiteralOrZero", "(I)Z"⟩
abbrev cX8_isLiteral : ByteArray := prog_1_method_35_code
def yX8_isLiteral : MethodName := ⟨RX8, "isLiteral", "(I)Z"⟩
abbrev cX8_sameVariable : ByteArray := prog_1_method_36_code
def yX8_sameVariable : MethodName := ⟨RX8, "sameVariable", "(II)Z"⟩
abbrev cX8_codeOf : ByteArray := prog_1_method_37_code
def yX8_codeOf : MethodName := ⟨RX8, "codeOf", "(I)I"⟩
abbrev cX8_literalOf : ByteArray := prog_1_method_38_code
def yX8_literalOf : MethodName := ⟨RX8, "literalOf", "(I)I"⟩
abbrev cX8_bitOf : ByteArray := prog_1_method_39_code
def yX8_bitOf : MethodName := ⟨RX8, "bitOf", "(I)I"⟩
abbrev cX8_contains : ByteArray := prog_1_method_40_code
def yX8_contains : MethodName := ⟨RX8, "contains", "(II)Z"⟩
abbrev cX8_variablesOf : ByteArray := prog_1_method_41_code
def yX8_variablesOf : MethodName := ⟨RX8, "variablesOf", "(I)I"⟩
abbrev cX8_oppositesOf : ByteArray := prog_1_method_42_code
def yX8_oppositesOf : MethodName := ⟨RX8, "oppositesOf", "(I)I"⟩
abbrev cX8_bitsOfShare : ByteArray := prog_1_method_43_code
def yX8_bitsOfShare : MethodName := ⟨RX8, "bitsOfShare", "(I)I"⟩
def RX9 : String := "CnfCompilerModel"
def TX9 : u_T := fun k => match k with
  | 0 => ("CnfCompilerModel", "s", "[I", true)
  | 1 => ("CnfCompilerModel", "saved", "[I", true)
  | 2 => ("CnfCompilerModel", "savedMany", "I", false)
  | 3 => ("CnfCompilerModel", "errors", "[I", true)
  | 4 => ("CnfCompilerModel", "text", "[I", true)
  | 5 => ("CnfCompilerModel", "length", "I", false)
  | 6 => ("CnfCompilerModel", "isCompiled", "Z", false)
  | 7 => ("CnfCompilerModel", "begins", "[I", true)
  | 8 => ("CnfCompilerModel", "sizes", "[I", true)
  | 9 => ("CnfCompilerModel", "variableOf", "[I", true)
  | 10 => ("CnfCompilerModel", "childrenOf", "[I", true)
  | 11 => ("CnfCompilerModel", "depthOf", "[I", true)
  | 12 => ("CnfCompilerModel", "rows", "[I", true)
  | 13 => ("CnfCompilerModel", "table", "[I", true)
  | 14 => ("CnfCompilerModel", "nodeMany", "I", false)
  | 15 => ("CnfCompilerModel", "rowMany", "I", false)
  | 16 => ("CnfCompilerModel", "hasFalse", "Z", false)
  | 17 => ("CnfCompilerModel", "hasTrue", "Z", false)
  | 18 => ("CnfCompilerModel", "root", "I", false)
  | 19 => ("CnfCompilerModel", "work", "[I", true)
  | 20 => ("CnfCompilerModel", "workMany", "[I", true)
  | 21 => ("CnfCompilerModel", "nodeAt", "[I", true)
  | 22 => ("CnfCompilerModel", "goneAt", "[I", true)
  | 23 => ("CnfCompilerModel", "deepestAt", "[I", true)
  | 24 => ("CnfCompilerModel", "modelRow", "[I", true)
  | 25 => ("CnfCompilerModel", "modelMany", "I", false)
  | 26 => ("CnfCompilerModel", "isListed", "Z", false)
  | 27 => ("CnfCompilerModel", "spot", "I", false)
  | 28 => ("CnfCompilerModel", "read", "[I", true)
  | _ => ("CnfCompilerModel", "readMany", "I", false)
def tyX9 : Nat → FieldType := fun k => match k with
  | 0 => .array .int
  | 1 => .array .int
  | 2 => .int
  | 3 => .array .int
  | 4 => .array .int
  | 5 => .int
  | 6 => .boolean
  | 7 => .array .int
  | 8 => .array .int
  | 9 => .array .int
  | 10 => .array .int
  | 11 => .array .int
  | 12 => .array .int
  | 13 => .array .int
  | 14 => .int
  | 15 => .int
  | 16 => .boolean
  | 17 => .boolean
  | 18 => .int
  | 19 => .array .int
  | 20 => .array .int
  | 21 => .array .int
  | 22 => .array .int
  | 23 => .array .int
  | 24 => .array .int
  | 25 => .int
  | 26 => .boolean
  | 27 => .int
  | 28 => .array .int
  | _ => .int
abbrev wsX90 : List Cond := u_ws RX9 TX9 30
theorem nmX9 : ∀ a, a < 30 → ∀ b, b < 30 → a ≠ b → (TX9 a).2.1 ≠ (TX9 b).2.1 := by decide +kernel
theorem tyX9_ok : ∀ k, k < 30 → parseFieldDescriptor (TX9 k).2.2.1 = some (tyX9 k) := by decide +kernel
abbrev cX9_init : ByteArray := prog_11_method_1_code
def yX9_init : MethodName := ⟨RX9, "<init>", "()V"⟩
abbrev cX9_in : ByteArray := prog_11_method_2_code
def yX9_in : MethodName := ⟨RX9, "in", "(JJJ)Z"⟩
abbrev cX9_err : ByteArray := prog_11_method_3_code
def yX9_err : MethodName := ⟨RX9, "err", "(I)I"⟩
abbrev cX9_isLiteral : ByteArray := prog_11_method_4_code
def yX9_isLiteral : MethodName := ⟨RX9, "isLiteral", "(I)Z"⟩
abbrev cX9_bitOf : ByteArray := prog_11_method_5_code
def yX9_bitOf : MethodName := ⟨RX9, "bitOf", "(I)I"⟩
abbrev cX9_variables : ByteArray := prog_11_method_6_code
def yX9_variables : MethodName := ⟨RX9, "variables", "(I)I"⟩
abbrev cX9_ones : ByteArray := prog_11_method_7_code
def yX9_ones : MethodName := ⟨RX9, "ones", "(I)I"⟩
abbrev cX9_saves : ByteArray := prog_11_method_8_code
def yX9_saves : MethodName := ⟨RX9, "saves", "()V"⟩
abbrev cX9_undo : ByteArray := prog_11_method_9_code
def yX9_undo : MethodName := ⟨RX9, "undo", "()I"⟩
abbrev cX9_addClause : ByteArray := prog_11_method_10_code
def yX9_addClause : MethodName := ⟨RX9, "addClause", "(IIII)I"⟩
abbrev cX9_isClause : ByteArray := prog_11_method_11_code
def yX9_isClause : MethodName := ⟨RX9, "isClause", "(I)Z"⟩
abbrev cX9_removeClause : ByteArray := prog_11_method_12_code
def yX9_removeClause : MethodName := ⟨RX9, "removeClause", "(I)I"⟩
abbrev cX9_clauses : ByteArray := prog_11_method_13_code
def yX9_clauses : MethodName := ⟨RX9, "clauses", "()I"⟩
abbrev cX9_clauseSize : ByteArray := prog_11_method_14_code
def yX9_clauseSize : MethodName := ⟨RX9, "clauseSize", "(I)I"⟩
abbrev cX9_assumed : ByteArray := prog_11_method_15_code
def yX9_assumed : MethodName := ⟨RX9, "assumed", "()I"⟩
abbrev cX9_assume : ByteArray := prog_11_method_16_code
def yX9_assume : MethodName := ⟨RX9, "assume", "(I)I"⟩
abbrev cX9_retractAll : ByteArray := prog_11_method_17_code
def yX9_retractAll : MethodName := ⟨RX9, "retractAll", "()I"⟩
abbrev cX9_weightAt : ByteArray := prog_11_method_18_code
def yX9_weightAt : MethodName := ⟨RX9, "weightAt", "(I)I"⟩
abbrev cX9_setWeight : ByteArray := prog_11_method_19_code
def yX9_setWeight : MethodName := ⟨RX9, "setWeight", "(II)I"⟩
abbrev cX9_puts : ByteArray := prog_11_method_20_code
def yX9_puts : MethodName := ⟨RX9, "puts", "(II)V"⟩
abbrev cX9_finds : ByteArray := prog_11_method_21_code
def yX9_finds : MethodName := ⟨RX9, "finds", "(I)I"⟩
abbrev cX9_connected : ByteArray := prog_11_method_22_code
def yX9_connected : MethodName := ⟨RX9, "connected", "(II)I"⟩
abbrev cX9_deciding : ByteArray := prog_11_method_23_code
def yX9_deciding : MethodName := ⟨RX9, "deciding", "(I)I"⟩
abbrev cX9_sets : ByteArray := prog_11_method_24_code
def yX9_sets : MethodName := ⟨RX9, "sets", "(II)V"⟩
abbrev cX9_enters : ByteArray := prog_11_method_25_code
def yX9_enters : MethodName := ⟨RX9, "enters", "(I)I"⟩
abbrev cX9_goesDeeper : ByteArray := prog_11_method_26_code
def yX9_goesDeeper : MethodName := ⟨RX9, "goesDeeper", "(I)Z"⟩
abbrev cX9_builds : ByteArray := prog_11_method_27_code
def yX9_builds : MethodName := ⟨RX9, "builds", "()I"⟩
abbrev cX9_compiles : ByteArray := prog_11_method_28_code
def yX9_compiles : MethodName := ⟨RX9, "compiles", "()V"⟩
abbrev cX9_nodes : ByteArray := prog_11_method_29_code
def yX9_nodes : MethodName := ⟨RX9, "nodes", "()I"⟩
abbrev cX9_manyOf : ByteArray := prog_11_method_30_code
def yX9_manyOf : MethodName := ⟨RX9, "manyOf", "(Z)I"⟩
abbrev cX9_decisionNodes : ByteArray := prog_11_method_31_code
def yX9_decisionNodes : MethodName := ⟨RX9, "decisionNodes", "()I"⟩
abbrev cX9_andNodes : ByteArray := prog_11_method_32_code
def yX9_andNodes : MethodName := ⟨RX9, "andNodes", "()I"⟩
abbrev cX9_depth : ByteArray := prog_11_method_33_code
def yX9_depth : MethodName := ⟨RX9, "depth", "()I"⟩
abbrev cX9_rootVariable : ByteArray := prog_11_method_34_code
def yX9_rootVariable : MethodName := ⟨RX9, "rootVariable", "()I"⟩
abbrev cX9_components : ByteArray := prog_11_method_35_code
def yX9_components : MethodName := ⟨RX9, "components", "()I"⟩
abbrev cX9_isModel : ByteArray := prog_11_method_36_code
def yX9_isModel : MethodName := ⟨RX9, "isModel", "(I)Z"⟩
abbrev cX9_lists : ByteArray := prog_11_method_37_code
def yX9_lists : MethodName := ⟨RX9, "lists", "()V"⟩
abbrev cX9_modelsBy : ByteArray := prog_11_method_38_code
def yX9_modelsBy : MethodName := ⟨RX9, "modelsBy", "(I)I"⟩
abbrev cX9_models : ByteArray := prog_11_method_39_code
def yX9_models : MethodName := ⟨RX9, "models", "()I"⟩
abbrev cX9_modelsWith : ByteArray := prog_11_method_40_code
def yX9_modelsWith : MethodName := ⟨RX9, "modelsWith", "(I)I"⟩
abbrev cX9_weightedCount : ByteArray := prog_11_method_41_code
def yX9_weightedCount : MethodName := ⟨RX9, "weightedCount", "()J"⟩
abbrev cX9_shareBits : ByteArray := prog_11_method_42_code
def yX9_shareBits : MethodName := ⟨RX9, "shareBits", "()I"⟩
abbrev cX9_implied : ByteArray := prog_11_method_43_code
def yX9_implied : MethodName := ⟨RX9, "implied", "(I)I"⟩
abbrev cX9_leastModel : ByteArray := prog_11_method_44_code
def yX9_leastModel : MethodName := ⟨RX9, "leastModel", "()I"⟩
abbrev cX9_literalBy : ByteArray := prog_11_method_45_code
def yX9_literalBy : MethodName := ⟨RX9, "literalBy", "(I)I"⟩
abbrev cX9_explains : ByteArray := prog_11_method_46_code
def yX9_explains : MethodName := ⟨RX9, "explains", "(II)Z"⟩
abbrev cX9_mayBe : ByteArray := prog_11_method_47_code
def yX9_mayBe : MethodName := ⟨RX9, "mayBe", "(III)Z"⟩
abbrev cX9_explained : ByteArray := prog_11_method_48_code
def yX9_explained : MethodName := ⟨RX9, "explained", "(I)I"⟩
abbrev cX9_explainedFrom : ByteArray := prog_11_method_49_code
def yX9_explainedFrom : MethodName := ⟨RX9, "explainedFrom", "(IIII)I"⟩
abbrev cX9_explanation : ByteArray := prog_11_method_50_code
def yX9_explanation : MethodName := ⟨RX9, "explanation", "(II)I"⟩
abbrev cX9_append : ByteArray := prog_11_method_51_code
def yX9_append : MethodName := ⟨RX9, "append", "(I)I"⟩
abbrev cX9_clearText : ByteArray := prog_11_method_52_code
def yX9_clearText : MethodName := ⟨RX9, "clearText", "()I"⟩
abbrev cX9_byteAt : ByteArray := prog_11_method_53_code
def yX9_byteAt : MethodName := ⟨RX9, "byteAt", "(I)I"⟩
abbrev cX9_isFigure : ByteArray := prog_11_method_54_code
def yX9_isFigure : MethodName := ⟨RX9, "isFigure", "(I)Z"⟩
abbrev cX9_literalHere : ByteArray := prog_11_method_55_code
def yX9_literalHere : MethodName := ⟨RX9, "literalHere", "(I)I"⟩
abbrev cX9_reads : ByteArray := prog_11_method_56_code
def yX9_reads : MethodName := ⟨RX9, "reads", "()I"⟩
abbrev cX9_parse : ByteArray := prog_11_method_57_code
def yX9_parse : MethodName := ⟨RX9, "parse", "()I"⟩
abbrev cX9_errorCount : ByteArray := prog_11_method_58_code
def yX9_errorCount : MethodName := ⟨RX9, "errorCount", "(I)I"⟩
abbrev cX9_mixed : ByteArray := prog_11_method_59_code
def yX9_mixed : MethodName := ⟨RX9, "mixed", "(JJ)J"⟩
abbrev cX9_digest : ByteArray := prog_11_method_60_code
def yX9_digest : MethodName := ⟨RX9, "digest", "()J"⟩
def RJx145de : String := "java/io/Serializable"
def TJx145de : u_T := fun k => match k with
  | _ => ("", "", "", false)
def tyJx145de : Nat → FieldType := fun k => match k with
  | _ => .int
theorem nmJx145de : ∀ a, a < 0 → ∀ b, b < 0 → a ≠ b → (TJx145de a).2.1 ≠ (TJx145de b).2.1 := by decide +kernel
theorem tyJx145de_ok : ∀ k, k < 0 → parseFieldDescriptor (TJx145de k).2.2.1 = some (tyJx145de k) := by decide +kernel
def RJx8e188 : String := "java/lang/Cloneable"
def TJx8e188 : u_T := fun k => match k with
  | _ => ("", "", "", false)
def tyJx8e188 : Nat → FieldType := fun k => match k with
  | _ => .int
theorem nmJx8e188 : ∀ a, a < 0 → ∀ b, b < 0 → a ≠ b → (TJx8e188 a).2.1 ≠ (TJx8e188 b).2.1 := by decide +kernel
theorem tyJx8e188_ok : ∀ k, k < 0 → parseFieldDescriptor (TJx8e188 k).2.2.1 = some (tyJx8e188 k) := by decide +kernel
def RJxb160c : String := "java/lang/Comparable"
def TJxb160c : u_T := fun k => match k with
  | _ => ("", "", "", false)
def tyJxb160c : Nat → FieldType := fun k => match k with
  | _ => .int
theorem nmJxb160c : ∀ a, a < 0 → ∀ b, b < 0 → a ≠ b → (TJxb160c a).2.1 ≠ (TJxb160c b).2.1 := by decide +kernel
theorem tyJxb160c_ok : ∀ k, k < 0 → parseFieldDescriptor (TJxb160c k).2.2.1 = some (tyJxb160c k) := by decide +kernel
def RJxf58ca : String := "java/lang/Float"
def TJxf58ca : u_T := fun k => match k with
  | _ => ("", "", "", false)
def tyJxf58ca : Nat → FieldType := fun k => match k with
  | _ => .int
theorem nmJxf58ca : ∀ a, a < 0 → ∀ b, b < 0 → a ≠ b → (TJxf58ca a).2.1 ≠ (TJxf58ca b).2.1 := by decide +kernel
theorem tyJxf58ca_ok : ∀ k, k < 0 → parseFieldDescriptor (TJxf58ca k).2.2.1 = some (tyJxf58ca k) := by decide +kernel
abbrev cJxf58ca_isNaN_12338 : ByteArray := prog_13_method_6_code
def yJxf58ca_isNaN_12338 : MethodName := ⟨RJxf58ca, "isNaN", "(F)Z"⟩
abbrev cJxf58ca_floatToIntBits_5c35a : ByteArray := prog_13_method_24_code
def yJxf58ca_floatToIntBits_5c35a : MethodName := ⟨RJxf58ca, "floatToIntBits", "(F)I"⟩
def RJ6 : String := "java/lang/Integer"
def TJ6 : u_T := fun k => match k with
  | _ => ("", "", "", false)
def tyJ6 : Nat → FieldType := fun k => match k with
  | _ => .int
theorem nmJ6 : ∀ a, a < 0 → ∀ b, b < 0 → a ≠ b → (TJ6 a).2.1 ≠ (TJ6 b).2.1 := by decide +kernel
theorem tyJ6_ok : ∀ k, k < 0 → parseFieldDescriptor (TJ6 k).2.2.1 = some (tyJ6 k) := by decide +kernel
abbrev cJ6_numberOfLeadingZeros_0f7a4 : ByteArray := prog_14_method_47_code
def yJ6_numberOfLeadingZeros_0f7a4 : MethodName := ⟨RJ6, "numberOfLeadingZeros", "(I)I"⟩
abbrev cJ6_numberOfTrailingZeros_0f7a4 : ByteArray := prog_14_method_48_code
def yJ6_numberOfTrailingZeros_0f7a4 : MethodName := ⟨RJ6, "numberOfTrailingZeros", "(I)I"⟩
abbrev cJ6_bitCount_0f7a4 : ByteArray := prog_14_method_49_code
def yJ6_bitCount_0f7a4 : MethodName := ⟨RJ6, "bitCount", "(I)I"⟩
def RJ13 : String := "java/lang/Long"
def TJ13 : u_T := fun k => match k with
  | _ => ("", "", "", false)
def tyJ13 : Nat → FieldType := fun k => match k with
  | _ => .int
theorem nmJ13 : ∀ a, a < 0 → ∀ b, b < 0 → a ≠ b → (TJ13 a).2.1 ≠ (TJ13 b).2.1 := by decide +kernel
theorem tyJ13_ok : ∀ k, k < 0 → parseFieldDescriptor (TJ13 k).2.2.1 = some (tyJ13 k) := by decide +kernel
abbrev cJ13_numberOfTrailingZeros_95d88 : ByteArray := prog_15_method_49_code
def yJ13_numberOfTrailingZeros_95d88 : MethodName := ⟨RJ13, "numberOfTrailingZeros", "(J)I"⟩
abbrev cJ13_bitCount_95d88 : ByteArray := prog_15_method_50_code
def yJ13_bitCount_95d88 : MethodName := ⟨RJ13, "bitCount", "(J)I"⟩
def RJ9 : String := "java/lang/Math"
def TJ9 : u_T := fun k => match k with
  | _ => ("", "", "", false)
def tyJ9 : Nat → FieldType := fun k => match k with
  | _ => .int
theorem nmJ9 : ∀ a, a < 0 → ∀ b, b < 0 → a ≠ b → (TJ9 a).2.1 ≠ (TJ9 b).2.1 := by decide +kernel
theorem tyJ9_ok : ∀ k, k < 0 → parseFieldDescriptor (TJ9 k).2.2.1 = some (tyJ9 k) := by decide +kernel
abbrev cJ9_max_7cf53 : ByteArray := prog_16_method_65_code
def yJ9_max_7cf53 : MethodName := ⟨RJ9, "max", "(II)I"⟩
abbrev cJ9_min_7cf53 : ByteArray := prog_16_method_69_code
def yJ9_min_7cf53 : MethodName := ⟨RJ9, "min", "(II)I"⟩
def RJxd2413 : String := "java/lang/Number"
def TJxd2413 : u_T := fun k => match k with
  | _ => ("", "", "", false)
def tyJxd2413 : Nat → FieldType := fun k => match k with
  | _ => .int
theorem nmJxd2413 : ∀ a, a < 0 → ∀ b, b < 0 → a ≠ b → (TJxd2413 a).2.1 ≠ (TJxd2413 b).2.1 := by decide +kernel
theorem tyJxd2413_ok : ∀ k, k < 0 → parseFieldDescriptor (TJxd2413 k).2.2.1 = some (tyJxd2413 k) := by decide +kernel
def RJ10 : String := "java/lang/System"
def TJ10 : u_T := fun k => match k with
  | _ => ("", "", "", false)
def tyJ10 : Nat → FieldType := fun k => match k with
  | _ => .int
theorem nmJ10 : ∀ a, a < 0 → ∀ b, b < 0 → a ≠ b → (TJ10 a).2.1 ≠ (TJ10 b).2.1 := by decide +kernel
theorem tyJ10_ok : ∀ k, k < 0 → parseFieldDescriptor (TJ10 k).2.2.1 = some (tyJ10 k) := by decide +kernel
def RJxfd54e : String := "java/lang/constant/Constable"
def TJxfd54e : u_T := fun k => match k with
  | _ => ("", "", "", false)
def tyJxfd54e : Nat → FieldType := fun k => match k with
  | _ => .int
theorem nmJxfd54e : ∀ a, a < 0 → ∀ b, b < 0 → a ≠ b → (TJxfd54e a).2.1 ≠ (TJxfd54e b).2.1 := by decide +kernel
theorem tyJxfd54e_ok : ∀ k, k < 0 → parseFieldDescriptor (TJxfd54e k).2.2.1 = some (tyJxfd54e k) := by decide +kernel
def RJx3cf43 : String := "java/lang/constant/ConstantDesc"
def TJx3cf43 : u_T := fun k => match k with
  | _ => ("", "", "", false)
def tyJx3cf43 : Nat → FieldType := fun k => match k with
  | _ => .int
theorem nmJx3cf43 : ∀ a, a < 0 → ∀ b, b < 0 → a ≠ b → (TJx3cf43 a).2.1 ≠ (TJx3cf43 b).2.1 := by decide +kernel
theorem tyJx3cf43_ok : ∀ k, k < 0 → parseFieldDescriptor (TJx3cf43 k).2.2.1 = some (tyJx3cf43 k) := by decide +kernel
def RJ7 : String := "java/util/Arrays"
def TJ7 : u_T := fun k => match k with
  | _ => ("", "", "", false)
def tyJ7 : Nat → FieldType := fun k => match k with
  | _ => .int
theorem nmJ7 : ∀ a, a < 0 → ∀ b, b < 0 → a ≠ b → (TJ7 a).2.1 ≠ (TJ7 b).2.1 := by decide +kernel
theorem tyJ7_ok : ∀ k, k < 0 → parseFieldDescriptor (TJ7 k).2.2.1 = some (tyJ7 k) := by decide +kernel
abbrev cJ7_fill_d0a16 : ByteArray := prog_19_method_101_code
def yJ7_fill_d0a16 : MethodName := ⟨RJ7, "fill", "([JJ)V"⟩
abbrev cJ7_fill_53178 : ByteArray := prog_19_method_103_code
def yJ7_fill_53178 : MethodName := ⟨RJ7, "fill", "([II)V"⟩
abbrev cJ7_copyOf_59c91 : ByteArray := prog_19_method_123_code
def yJ7_copyOf_59c91 : MethodName := ⟨RJ7, "copyOf", "([II)[I"⟩
def RL : String := "CnfCompilerLaw"
abbrev cL_law : ByteArray := code
def yL_law : MethodName := ⟨RL, "law", "([I)Z"⟩
