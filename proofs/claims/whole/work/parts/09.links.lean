abbrev mX0_init : Mi := (yX0_init, cX0_init, 1, none)
abbrev mX0_clauseAt : Mi := (yX0_clauseAt, cX0_clauseAt, 2, (some FieldType.int))
abbrev mX0_read : Mi := (yX0_read, cX0_read, 4, (some FieldType.int))
abbrev mX0_readToken : Mi := (yX0_readToken, cX0_readToken, 4, none)
abbrev mX0_closeClause : Mi := (yX0_closeClause, cX0_closeClause, 1, none)
abbrev mX0_readLiteral : Mi := (yX0_readLiteral, cX0_readLiteral, 10, none)
abbrev mX0_countDigits : Mi := (yX0_countDigits, cX0_countDigits, 3, (some FieldType.int))
abbrev mX0_numberAt : Mi := (yX0_numberAt, cX0_numberAt, 5, (some FieldType.int))
abbrev mX1_init : Mi := (yX1_init, cX1_init, 1, none)
abbrev mX1_forget : Mi := (yX1_forget, cX1_forget, 1, none)
abbrev mX1_explain : Mi := (yX1_explain, cX1_explain, 7, none)
abbrev mX1_complete : Mi := (yX1_complete, cX1_complete, 6, (some FieldType.boolean))
abbrev mX1_explains : Mi := (yX1_explains, cX1_explains, 7, (some FieldType.boolean))
abbrev mX1_literalAt : Mi := (yX1_literalAt, cX1_literalAt, 3, (some FieldType.int))
abbrev mX2_init : Mi := (yX2_init, cX2_init, 1, none)
abbrev mX2_addByte : Mi := (yX2_addByte, cX2_addByte, 2, none)
abbrev mX2_byteAt : Mi := (yX2_byteAt, cX2_byteAt, 2, (some FieldType.int))
abbrev mX2_hasDigitAt : Mi := (yX2_hasDigitAt, cX2_hasDigitAt, 3, (some FieldType.boolean))
abbrev mX3_init : Mi := (yX3_init, cX3_init, 1, none)
abbrev mX3_compile : Mi := (yX3_compile, cX3_compile, 3, none)
abbrev mX3_nodeTotal : Mi := (yX3_nodeTotal, cX3_nodeTotal, 1, (some FieldType.int))
abbrev mX3_variableAtRoot : Mi := (yX3_variableAtRoot, cX3_variableAtRoot, 1, (some FieldType.int))
abbrev mX3_partsAtRoot : Mi := (yX3_partsAtRoot, cX3_partsAtRoot, 4, (some FieldType.int))
abbrev mX3_explore : Mi := (yX3_explore, cX3_explore, 9, (some FieldType.int))
abbrev mX3_exploreDecision : Mi := (yX3_exploreDecision, cX3_exploreDecision, 6, (some FieldType.int))
abbrev mX3_exploreParts : Mi := (yX3_exploreParts, cX3_exploreParts, 8, (some FieldType.int))
abbrev mX3_setLiteral : Mi := (yX3_setLiteral, cX3_setLiteral, 7, (some FieldType.int))
abbrev mX3_takePart : Mi := (yX3_takePart, cX3_takePart, 7, (some FieldType.int))
abbrev mX3_addResidual : Mi := (yX3_addResidual, cX3_addResidual, 5, (some FieldType.int))
abbrev mX3_insert : Mi := (yX3_insert, cX3_insert, 7, (some FieldType.int))
abbrev mX3_variablesIn : Mi := (yX3_variablesIn, cX3_variablesIn, 5, (some FieldType.int))
abbrev mX3_variablesConnectedTo : Mi := (yX3_variablesConnectedTo, cX3_variablesConnectedTo, 9, (some FieldType.int))
abbrev mX3_mostFrequentVariable : Mi := (yX3_mostFrequentVariable, cX3_mostFrequentVariable, 9, (some FieldType.int))
abbrev mX3_bucketOf : Mi := (yX3_bucketOf, cX3_bucketOf, 5, (some FieldType.int))
abbrev mX3_findNode : Mi := (yX3_findNode, cX3_findNode, 6, (some FieldType.int))
abbrev mX3_hasRow : Mi := (yX3_hasRow, cX3_hasRow, 5, (some FieldType.boolean))
abbrev mX3_addNode : Mi := (yX3_addNode, cX3_addNode, 5, none)
abbrev mX3_makeRoom : Mi := (yX3_makeRoom, cX3_makeRoom, 2, none)
abbrev mX4_init : Mi := (yX4_init, cX4_init, 2, none)
abbrev mX4_save : Mi := (yX4_save, cX4_save, 3, none)
abbrev mX4_dropOldest : Mi := (yX4_dropOldest, cX4_dropOldest, 3, none)
abbrev mX4_restoreInto : Mi := (yX4_restoreInto, cX4_restoreInto, 3, none)
abbrev mX5_init : Mi := (yX5_init, cX5_init, 1, none)
abbrev mX5_literalWord : Mi := (yX5_literalWord, cX5_literalWord, 5, (some FieldType.long))
abbrev mX5_fill : Mi := (yX5_fill, cX5_fill, 3, none)
abbrev mX5_keepSatisfying : Mi := (yX5_keepSatisfying, cX5_keepSatisfying, 4, none)
abbrev mX5_wordAt : Mi := (yX5_wordAt, cX5_wordAt, 2, (some FieldType.long))
abbrev mX5_has : Mi := (yX5_has, cX5_has, 2, (some FieldType.boolean))
abbrev mX5_size : Mi := (yX5_size, cX5_size, 3, (some FieldType.int))
abbrev mX5_sizeWith : Mi := (yX5_sizeWith, cX5_sizeWith, 4, (some FieldType.int))
abbrev mX5_least : Mi := (yX5_least, cX5_least, 2, (some FieldType.int))
abbrev mX6_init : Mi := (yX6_init, cX6_init, 1, none)
abbrev mX6_hasClause : Mi := (yX6_hasClause, cX6_hasClause, 2, (some FieldType.boolean))
abbrev mX6_clauseAt : Mi := (yX6_clauseAt, cX6_clauseAt, 2, (some FieldType.int))
abbrev mX6_appendClause : Mi := (yX6_appendClause, cX6_appendClause, 2, none)
abbrev mX6_deleteClause : Mi := (yX6_deleteClause, cX6_deleteClause, 3, none)
abbrev mX6_weightOf : Mi := (yX6_weightOf, cX6_weightOf, 2, (some FieldType.int))
abbrev mX6_replaceWeight : Mi := (yX6_replaceWeight, cX6_replaceWeight, 4, (some FieldType.int))
abbrev mX6_copyFrom : Mi := (yX6_copyFrom, cX6_copyFrom, 2, none)
abbrev mX7_init : Mi := (yX7_init, cX7_init, 1, none)
abbrev mX7_over : Mi := (yX7_over, cX7_over, 9, (some FieldType.long))
abbrev mX7_fillProducts : Mi := (yX7_fillProducts, cX7_fillProducts, 8, none)
abbrev mX8_init : Mi := (yX8_init, cX8_init, 1, none)
abbrev mX8_addClause : Mi := (yX8_addClause, cX8_addClause, 5, (some FieldType.int))
abbrev mX8_removeClause : Mi := (yX8_removeClause, cX8_removeClause, 2, (some FieldType.int))
abbrev mX8_clauses : Mi := (yX8_clauses, cX8_clauses, 1, (some FieldType.int))
abbrev mX8_clauseSize : Mi := (yX8_clauseSize, cX8_clauseSize, 2, (some FieldType.int))
abbrev mX8_assume : Mi := (yX8_assume, cX8_assume, 2, (some FieldType.int))
abbrev mX8_retractAll : Mi := (yX8_retractAll, cX8_retractAll, 2, (some FieldType.int))
abbrev mX8_setWeight : Mi := (yX8_setWeight, cX8_setWeight, 3, (some FieldType.int))
abbrev mX8_nodes : Mi := (yX8_nodes, cX8_nodes, 1, (some FieldType.int))
abbrev mX8_decisionNodes : Mi := (yX8_decisionNodes, cX8_decisionNodes, 1, (some FieldType.int))
abbrev mX8_andNodes : Mi := (yX8_andNodes, cX8_andNodes, 1, (some FieldType.int))
abbrev mX8_depth : Mi := (yX8_depth, cX8_depth, 1, (some FieldType.int))
abbrev mX8_rootVariable : Mi := (yX8_rootVariable, cX8_rootVariable, 1, (some FieldType.int))
abbrev mX8_components : Mi := (yX8_components, cX8_components, 1, (some FieldType.int))
abbrev mX8_models : Mi := (yX8_models, cX8_models, 1, (some FieldType.int))
abbrev mX8_modelsWith : Mi := (yX8_modelsWith, cX8_modelsWith, 2, (some FieldType.int))
abbrev mX8_weightedCount : Mi := (yX8_weightedCount, cX8_weightedCount, 1, (some FieldType.long))
abbrev mX8_shareBits : Mi := (yX8_shareBits, cX8_shareBits, 1, (some FieldType.int))
abbrev mX8_implied : Mi := (yX8_implied, cX8_implied, 5, (some FieldType.int))
abbrev mX8_leastModel : Mi := (yX8_leastModel, cX8_leastModel, 1, (some FieldType.int))
abbrev mX8_explanation : Mi := (yX8_explanation, cX8_explanation, 3, (some FieldType.int))
abbrev mX8_append : Mi := (yX8_append, cX8_append, 2, (some FieldType.int))
abbrev mX8_clearText : Mi := (yX8_clearText, cX8_clearText, 2, (some FieldType.int))
abbrev mX8_parse : Mi := (yX8_parse, cX8_parse, 3, (some FieldType.int))
abbrev mX8_undo : Mi := (yX8_undo, cX8_undo, 1, (some FieldType.int))
abbrev mX8_errorCount : Mi := (yX8_errorCount, cX8_errorCount, 2, (some FieldType.int))
abbrev mX8_digest : Mi := (yX8_digest, cX8_digest, 4, (some FieldType.long))
abbrev mX8_fail : Mi := (yX8_fail, cX8_fail, 2, (some FieldType.int))
abbrev mX8_digestOfGraph : Mi := (yX8_digestOfGraph, cX8_digestOfGraph, 5, (some FieldType.long))
abbrev mX8_formulaHasChanged : Mi := (yX8_formulaHasChanged, cX8_formulaHasChanged, 1, none)
abbrev mX8_freshGraph : Mi := (yX8_freshGraph, cX8_freshGraph, 1, (some (FieldType.object "CnfCompiler$Graph")))
abbrev mX8_freshModelSet : Mi := (yX8_freshModelSet, cX8_freshModelSet, 1, (some (FieldType.object "CnfCompiler$ModelSet")))
abbrev mX8_isErrorCode : Mi := (yX8_isErrorCode, cX8_isErrorCode, 1, (some FieldType.boolean))
abbrev mX8_isLiteralOrZero : Mi := (yX8_isLiteralOrZero, cX8_isLiteralOrZero, 1, (some FieldType.boolean))
abbrev mX8_isLiteral : Mi := (yX8_isLiteral, cX8_isLiteral, 1, (some FieldType.boolean))
abbrev mX8_sameVariable : Mi := (yX8_sameVariable, cX8_sameVariable, 2, (some FieldType.boolean))
abbrev mX8_codeOf : Mi := (yX8_codeOf, cX8_codeOf, 1, (some FieldType.int))
abbrev mX8_literalOf : Mi := (yX8_literalOf, cX8_literalOf, 1, (some FieldType.int))
abbrev mX8_bitOf : Mi := (yX8_bitOf, cX8_bitOf, 1, (some FieldType.int))
abbrev mX8_contains : Mi := (yX8_contains, cX8_contains, 2, (some FieldType.boolean))
abbrev mX8_variablesOf : Mi := (yX8_variablesOf, cX8_variablesOf, 1, (some FieldType.int))
abbrev mX8_oppositesOf : Mi := (yX8_oppositesOf, cX8_oppositesOf, 1, (some FieldType.int))
abbrev mX8_bitsOfShare : Mi := (yX8_bitsOfShare, cX8_bitsOfShare, 4, (some FieldType.int))
abbrev mX9_init : Mi := (yX9_init, cX9_init, 2, none)
abbrev mX9_in : Mi := (yX9_in, cX9_in, 6, (some FieldType.boolean))
abbrev mX9_err : Mi := (yX9_err, cX9_err, 2, (some FieldType.int))
abbrev mX9_isLiteral : Mi := (yX9_isLiteral, cX9_isLiteral, 1, (some FieldType.boolean))
abbrev mX9_bitOf : Mi := (yX9_bitOf, cX9_bitOf, 1, (some FieldType.int))
abbrev mX9_variables : Mi := (yX9_variables, cX9_variables, 1, (some FieldType.int))
abbrev mX9_ones : Mi := (yX9_ones, cX9_ones, 3, (some FieldType.int))
abbrev mX9_saves : Mi := (yX9_saves, cX9_saves, 2, none)
abbrev mX9_undo : Mi := (yX9_undo, cX9_undo, 2, (some FieldType.int))
abbrev mX9_addClause : Mi := (yX9_addClause, cX9_addClause, 10, (some FieldType.int))
abbrev mX9_isClause : Mi := (yX9_isClause, cX9_isClause, 2, (some FieldType.boolean))
abbrev mX9_removeClause : Mi := (yX9_removeClause, cX9_removeClause, 3, (some FieldType.int))
abbrev mX9_clauses : Mi := (yX9_clauses, cX9_clauses, 1, (some FieldType.int))
abbrev mX9_clauseSize : Mi := (yX9_clauseSize, cX9_clauseSize, 2, (some FieldType.int))
abbrev mX9_assumed : Mi := (yX9_assumed, cX9_assumed, 1, (some FieldType.int))
abbrev mX9_assume : Mi := (yX9_assume, cX9_assume, 3, (some FieldType.int))
abbrev mX9_retractAll : Mi := (yX9_retractAll, cX9_retractAll, 2, (some FieldType.int))
abbrev mX9_weightAt : Mi := (yX9_weightAt, cX9_weightAt, 1, (some FieldType.int))
abbrev mX9_setWeight : Mi := (yX9_setWeight, cX9_setWeight, 4, (some FieldType.int))
abbrev mX9_puts : Mi := (yX9_puts, cX9_puts, 6, none)
abbrev mX9_finds : Mi := (yX9_finds, cX9_finds, 8, (some FieldType.int))
abbrev mX9_connected : Mi := (yX9_connected, cX9_connected, 9, (some FieldType.int))
abbrev mX9_deciding : Mi := (yX9_deciding, cX9_deciding, 7, (some FieldType.int))
abbrev mX9_sets : Mi := (yX9_sets, cX9_sets, 5, none)
abbrev mX9_enters : Mi := (yX9_enters, cX9_enters, 5, (some FieldType.int))
abbrev mX9_goesDeeper : Mi := (yX9_goesDeeper, cX9_goesDeeper, 6, (some FieldType.boolean))
abbrev mX9_builds : Mi := (yX9_builds, cX9_builds, 3, (some FieldType.int))
abbrev mX9_compiles : Mi := (yX9_compiles, cX9_compiles, 4, none)
abbrev mX9_nodes : Mi := (yX9_nodes, cX9_nodes, 1, (some FieldType.int))
abbrev mX9_manyOf : Mi := (yX9_manyOf, cX9_manyOf, 4, (some FieldType.int))
abbrev mX9_decisionNodes : Mi := (yX9_decisionNodes, cX9_decisionNodes, 1, (some FieldType.int))
abbrev mX9_andNodes : Mi := (yX9_andNodes, cX9_andNodes, 1, (some FieldType.int))
abbrev mX9_depth : Mi := (yX9_depth, cX9_depth, 1, (some FieldType.int))
abbrev mX9_rootVariable : Mi := (yX9_rootVariable, cX9_rootVariable, 1, (some FieldType.int))
abbrev mX9_components : Mi := (yX9_components, cX9_components, 1, (some FieldType.int))
abbrev mX9_isModel : Mi := (yX9_isModel, cX9_isModel, 4, (some FieldType.boolean))
abbrev mX9_lists : Mi := (yX9_lists, cX9_lists, 2, none)
abbrev mX9_modelsBy : Mi := (yX9_modelsBy, cX9_modelsBy, 5, (some FieldType.int))
abbrev mX9_models : Mi := (yX9_models, cX9_models, 1, (some FieldType.int))
abbrev mX9_modelsWith : Mi := (yX9_modelsWith, cX9_modelsWith, 2, (some FieldType.int))
abbrev mX9_weightedCount : Mi := (yX9_weightedCount, cX9_weightedCount, 7, (some FieldType.long))
abbrev mX9_shareBits : Mi := (yX9_shareBits, cX9_shareBits, 1, (some FieldType.int))
abbrev mX9_implied : Mi := (yX9_implied, cX9_implied, 4, (some FieldType.int))
abbrev mX9_leastModel : Mi := (yX9_leastModel, cX9_leastModel, 2, (some FieldType.int))
abbrev mX9_literalBy : Mi := (yX9_literalBy, cX9_literalBy, 1, (some FieldType.int))
abbrev mX9_explains : Mi := (yX9_explains, cX9_explains, 4, (some FieldType.boolean))
abbrev mX9_mayBe : Mi := (yX9_mayBe, cX9_mayBe, 5, (some FieldType.boolean))
abbrev mX9_explained : Mi := (yX9_explained, cX9_explained, 6, (some FieldType.int))
abbrev mX9_explainedFrom : Mi := (yX9_explainedFrom, cX9_explainedFrom, 8, (some FieldType.int))
abbrev mX9_explanation : Mi := (yX9_explanation, cX9_explanation, 4, (some FieldType.int))
abbrev mX9_append : Mi := (yX9_append, cX9_append, 2, (some FieldType.int))
abbrev mX9_clearText : Mi := (yX9_clearText, cX9_clearText, 2, (some FieldType.int))
abbrev mX9_byteAt : Mi := (yX9_byteAt, cX9_byteAt, 2, (some FieldType.int))
abbrev mX9_isFigure : Mi := (yX9_isFigure, cX9_isFigure, 1, (some FieldType.boolean))
abbrev mX9_literalHere : Mi := (yX9_literalHere, cX9_literalHere, 6, (some FieldType.int))
abbrev mX9_reads : Mi := (yX9_reads, cX9_reads, 4, (some FieldType.int))
abbrev mX9_parse : Mi := (yX9_parse, cX9_parse, 3, (some FieldType.int))
abbrev mX9_errorCount : Mi := (yX9_errorCount, cX9_errorCount, 2, (some FieldType.int))
abbrev mX9_mixed : Mi := (yX9_mixed, cX9_mixed, 4, (some FieldType.long))
abbrev mX9_digest : Mi := (yX9_digest, cX9_digest, 4, (some FieldType.long))
abbrev mJxf58ca_isNaN_12338 : Mi := (yJxf58ca_isNaN_12338, cJxf58ca_isNaN_12338, 1, (some FieldType.boolean))
abbrev mJxf58ca_floatToIntBits_5c35a : Mi := (yJxf58ca_floatToIntBits_5c35a, cJxf58ca_floatToIntBits_5c35a, 1, (some FieldType.int))
abbrev mJ6_numberOfLeadingZeros_0f7a4 : Mi := (yJ6_numberOfLeadingZeros_0f7a4, cJ6_numberOfLeadingZeros_0f7a4, 2, (some FieldType.int))
abbrev mJ6_numberOfTrailingZeros_0f7a4 : Mi := (yJ6_numberOfTrailingZeros_0f7a4, cJ6_numberOfTrailingZeros_0f7a4, 2, (some FieldType.int))
abbrev mJ6_bitCount_0f7a4 : Mi := (yJ6_bitCount_0f7a4, cJ6_bitCount_0f7a4, 1, (some FieldType.int))
abbrev mJ13_numberOfTrailingZeros_95d88 : Mi := (yJ13_numberOfTrailingZeros_95d88, cJ13_numberOfTrailingZeros_95d88, 3, (some FieldType.int))
abbrev mJ13_bitCount_95d88 : Mi := (yJ13_bitCount_95d88, cJ13_bitCount_95d88, 2, (some FieldType.int))
abbrev mJ9_max_7cf53 : Mi := (yJ9_max_7cf53, cJ9_max_7cf53, 2, (some FieldType.int))
abbrev mJ9_min_7cf53 : Mi := (yJ9_min_7cf53, cJ9_min_7cf53, 2, (some FieldType.int))
abbrev mJ7_fill_d0a16 : Mi := (yJ7_fill_d0a16, cJ7_fill_d0a16, 5, none)
abbrev mJ7_fill_53178 : Mi := (yJ7_fill_53178, cJ7_fill_53178, 4, none)
abbrev mJ7_copyOf_59c91 : Mi := (yJ7_copyOf_59c91, cJ7_copyOf_59c91, 3, (some (FieldType.array FieldType.int)))
theorem kcJ13_314 : Cond.constantLong RJ13 314 (6148914691236517205) ∈ gtbl := (gt_at 599 (by decide +kernel) (by decide +kernel))
theorem kcJ13_316 : Cond.constantLong RJ13 316 (3689348814741910323) ∈ gtbl := (gt_at 600 (by decide +kernel) (by decide +kernel))
theorem kcJ13_318 : Cond.constantLong RJ13 318 (1085102592571150095) ∈ gtbl := (gt_at 601 (by decide +kernel) (by decide +kernel))
theorem clJ13_311 : CLs RJ13 311 mJ6_numberOfTrailingZeros_0f7a4 1 := ⟨⟨(gt_at 659 (by decide +kernel) (by decide +kernel)), (gt_at 92 (by decide +kernel) (by decide +kernel)), ⟨by decide +kernel, by decide +kernel, by decide +kernel⟩, rfl, Or.inl (gt_at 657 (by decide +kernel) (by decide +kernel))⟩, (gt_at 658 (by decide +kernel) (by decide +kernel))⟩
theorem kcJ6_265 : Cond.constant RJ6 265 (1431655765) ∈ gtbl := (gt_at 406 (by decide +kernel) (by decide +kernel))
theorem kcJ6_266 : Cond.constant RJ6 266 (858993459) ∈ gtbl := (gt_at 407 (by decide +kernel) (by decide +kernel))
theorem kcJ6_267 : Cond.constant RJ6 267 (252645135) ∈ gtbl := (gt_at 408 (by decide +kernel) (by decide +kernel))
theorem kcJ6_264 : Cond.constant RJ6 264 (65536) ∈ gtbl := (gt_at 641 (by decide +kernel) (by decide +kernel))
theorem clJ7_304 : Cond.methodLink RJ7 304 Lib.Math.min.name ∈ gtbl := (gt_at 525 (by decide +kernel) (by decide +kernel))
theorem clJ7_150 : Cond.methodLink RJ7 150 arraycopyName ∈ gtbl := (gt_at 528 (by decide +kernel) (by decide +kernel))
theorem clJxf58ca_59 : CLs RJxf58ca 59 mJxf58ca_isNaN_12338 1 := ⟨⟨(gt_at 1033 (by decide +kernel) (by decide +kernel)), (gt_at 95 (by decide +kernel) (by decide +kernel)), ⟨by decide +kernel, by decide +kernel, by decide +kernel⟩, rfl, Or.inl (gt_at 1031 (by decide +kernel) (by decide +kernel))⟩, (gt_at 1032 (by decide +kernel) (by decide +kernel))⟩
theorem kcJxf58ca_77 : Cond.constant RJxf58ca 77 (2143289344) ∈ gtbl := (gt_at 1037 (by decide +kernel) (by decide +kernel))
theorem flX0_15 : FL RX0 15 0 1 := ⟨_, rfl, by decide, Or.inl (gt_at 172 (by decide +kernel) (by decide +kernel))⟩
theorem flX0_9 : FL RX0 9 0 0 := ⟨_, rfl, by decide, Or.inl (gt_at 171 (by decide +kernel) (by decide +kernel))⟩
theorem flX0_22 : FL RX0 22 0 3 := ⟨_, rfl, by decide, Or.inl (gt_at 175 (by decide +kernel) (by decide +kernel))⟩
theorem flX0_19 : FL RX0 19 0 2 := ⟨_, rfl, by decide, Or.inl (gt_at 174 (by decide +kernel) (by decide +kernel))⟩
theorem fpX0_25 : FP RX0 25 0 4 .int := ⟨_, rfl, by decide, rfl, by decide +kernel, Or.inl (gt_at 176 (by decide +kernel) (by decide +kernel))⟩
theorem fpX0_15 : FP RX0 15 0 1 .int := ⟨_, rfl, by decide, rfl, by decide +kernel, Or.inl (gt_at 172 (by decide +kernel) (by decide +kernel))⟩
theorem fpX0_22 : FP RX0 22 0 3 .int := ⟨_, rfl, by decide, rfl, by decide +kernel, Or.inl (gt_at 175 (by decide +kernel) (by decide +kernel))⟩
theorem fpX0_19 : FP RX0 19 0 2 .int := ⟨_, rfl, by decide, rfl, by decide +kernel, Or.inl (gt_at 174 (by decide +kernel) (by decide +kernel))⟩
theorem clX0_44 : CLv RX0 44 mX2_hasDigitAt 1 := ⟨⟨(gt_at 723 (by decide +kernel) (by decide +kernel)), (gt_at 83 (by decide +kernel) (by decide +kernel)), ⟨by decide +kernel, by decide +kernel, by decide +kernel⟩, rfl, Or.inr ⟨"CnfCompiler", List.mem_of_getElem? (i := 720) (by decide +kernel)⟩⟩, (gt_at 722 (by decide +kernel) (by decide +kernel)), (gt_at 50 (by decide +kernel) (by decide +kernel))⟩
theorem clX0_3 : Cond.methodLink RX0 3 objectInit ∈ gtbl := (gt_at 170 (by decide +kernel) (by decide +kernel))
theorem fpX0_9 : FF RX0 9 0 0 (.array .int) := ⟨_, rfl, by decide, rfl, rfl, by decide +kernel, (gt_at 171 (by decide +kernel) (by decide +kernel))⟩
theorem clX0_37 : CLv RX0 37 mX2_byteAt 1 := ⟨⟨(gt_at 715 (by decide +kernel) (by decide +kernel)), (gt_at 83 (by decide +kernel) (by decide +kernel)), ⟨by decide +kernel, by decide +kernel, by decide +kernel⟩, rfl, Or.inr ⟨"CnfCompiler", List.mem_of_getElem? (i := 712) (by decide +kernel)⟩⟩, (gt_at 714 (by decide +kernel) (by decide +kernel)), (gt_at 48 (by decide +kernel) (by decide +kernel))⟩
theorem flX0_28 : FL RX0 28 2 1 := ⟨_, rfl, by decide, Or.inr ⟨"CnfCompiler", List.mem_of_getElem? (i := 158) (by decide +kernel)⟩⟩
theorem flX0_25 : FL RX0 25 0 4 := ⟨_, rfl, by decide, Or.inl (gt_at 176 (by decide +kernel) (by decide +kernel))⟩
theorem clX0_33 : CLv RX0 33 mX0_readToken 2 := ⟨⟨(gt_at 711 (by decide +kernel) (by decide +kernel)), (gt_at 84 (by decide +kernel) (by decide +kernel)), ⟨by decide +kernel, by decide +kernel, by decide +kernel⟩, rfl, Or.inl (gt_at 708 (by decide +kernel) (by decide +kernel))⟩, (gt_at 710 (by decide +kernel) (by decide +kernel)), (gt_at 47 (by decide +kernel) (by decide +kernel))⟩
theorem clX0_51 : CLs RX0 51 mJ6_bitCount_0f7a4 1 := ⟨⟨(gt_at 405 (by decide +kernel) (by decide +kernel)), (gt_at 92 (by decide +kernel) (by decide +kernel)), ⟨by decide +kernel, by decide +kernel, by decide +kernel⟩, rfl, Or.inl (gt_at 729 (by decide +kernel) (by decide +kernel))⟩, (gt_at 404 (by decide +kernel) (by decide +kernel))⟩
theorem clX0_56 : CLs RX0 56 mX0_countDigits 2 := ⟨⟨(gt_at 732 (by decide +kernel) (by decide +kernel)), (gt_at 84 (by decide +kernel) (by decide +kernel)), ⟨by decide +kernel, by decide +kernel, by decide +kernel⟩, rfl, Or.inl (gt_at 730 (by decide +kernel) (by decide +kernel))⟩, (gt_at 731 (by decide +kernel) (by decide +kernel))⟩
theorem clX0_60 : CLs RX0 60 mX0_numberAt 3 := ⟨⟨(gt_at 735 (by decide +kernel) (by decide +kernel)), (gt_at 84 (by decide +kernel) (by decide +kernel)), ⟨by decide +kernel, by decide +kernel, by decide +kernel⟩, rfl, Or.inl (gt_at 733 (by decide +kernel) (by decide +kernel))⟩, (gt_at 734 (by decide +kernel) (by decide +kernel))⟩
theorem clX0_64 : CLs RX0 64 mX8_bitOf 1 := ⟨⟨(gt_at 362 (by decide +kernel) (by decide +kernel)), (gt_at 79 (by decide +kernel) (by decide +kernel)), ⟨by decide +kernel, by decide +kernel, by decide +kernel⟩, rfl, Or.inr ⟨"CnfCompiler", List.mem_of_getElem? (i := 736) (by decide +kernel)⟩⟩, (gt_at 361 (by decide +kernel) (by decide +kernel))⟩
theorem clX0_67 : CLs RX0 67 mX8_variablesOf 1 := ⟨⟨(gt_at 415 (by decide +kernel) (by decide +kernel)), (gt_at 79 (by decide +kernel) (by decide +kernel)), ⟨by decide +kernel, by decide +kernel, by decide +kernel⟩, rfl, Or.inr ⟨"CnfCompiler", List.mem_of_getElem? (i := 737) (by decide +kernel)⟩⟩, (gt_at 414 (by decide +kernel) (by decide +kernel))⟩
theorem clX0_41 : CLv RX0 41 mX0_closeClause 0 := ⟨⟨(gt_at 719 (by decide +kernel) (by decide +kernel)), (gt_at 84 (by decide +kernel) (by decide +kernel)), ⟨by decide +kernel, by decide +kernel, by decide +kernel⟩, rfl, Or.inl (gt_at 716 (by decide +kernel) (by decide +kernel))⟩, (gt_at 718 (by decide +kernel) (by decide +kernel)), (gt_at 49 (by decide +kernel) (by decide +kernel))⟩
theorem clX0_48 : CLv RX0 48 mX0_readLiteral 2 := ⟨⟨(gt_at 728 (by decide +kernel) (by decide +kernel)), (gt_at 84 (by decide +kernel) (by decide +kernel)), ⟨by decide +kernel, by decide +kernel, by decide +kernel⟩, rfl, Or.inl (gt_at 725 (by decide +kernel) (by decide +kernel))⟩, (gt_at 727 (by decide +kernel) (by decide +kernel)), (gt_at 51 (by decide +kernel) (by decide +kernel))⟩
theorem clX1_52 : CLv RX1 52 mX1_explains 1 := ⟨⟨(gt_at 679 (by decide +kernel) (by decide +kernel)), (gt_at 88 (by decide +kernel) (by decide +kernel)), ⟨by decide +kernel, by decide +kernel, by decide +kernel⟩, rfl, Or.inl (gt_at 676 (by decide +kernel) (by decide +kernel))⟩, (gt_at 678 (by decide +kernel) (by decide +kernel)), (gt_at 43 (by decide +kernel) (by decide +kernel))⟩
theorem flX1_22 : FL RX1 22 1 3 := ⟨_, rfl, by decide, Or.inl (gt_at 273 (by decide +kernel) (by decide +kernel))⟩
theorem clX1_56 : CLs RX1 56 mX8_contains 2 := ⟨⟨(gt_at 586 (by decide +kernel) (by decide +kernel)), (gt_at 79 (by decide +kernel) (by decide +kernel)), ⟨by decide +kernel, by decide +kernel, by decide +kernel⟩, rfl, Or.inr ⟨"CnfCompiler", List.mem_of_getElem? (i := 680) (by decide +kernel)⟩⟩, (gt_at 585 (by decide +kernel) (by decide +kernel))⟩
theorem flX1_18 : FL RX1 18 1 2 := ⟨_, rfl, by decide, Or.inl (gt_at 272 (by decide +kernel) (by decide +kernel))⟩
theorem clX1_48 : CLv RX1 48 mX1_complete 3 := ⟨⟨(gt_at 675 (by decide +kernel) (by decide +kernel)), (gt_at 88 (by decide +kernel) (by decide +kernel)), ⟨by decide +kernel, by decide +kernel, by decide +kernel⟩, rfl, Or.inl (gt_at 672 (by decide +kernel) (by decide +kernel))⟩, (gt_at 674 (by decide +kernel) (by decide +kernel)), (gt_at 42 (by decide +kernel) (by decide +kernel))⟩
theorem fpX1_26 : FP RX1 26 1 4 .int := ⟨_, rfl, by decide, rfl, by decide +kernel, Or.inl (gt_at 274 (by decide +kernel) (by decide +kernel))⟩
theorem flX1_26 : FL RX1 26 1 4 := ⟨_, rfl, by decide, Or.inl (gt_at 274 (by decide +kernel) (by decide +kernel))⟩
theorem clX1_32 : CLs RX1 32 mX5_literalWord 2 := ⟨⟨(gt_at 589 (by decide +kernel) (by decide +kernel)), (gt_at 86 (by decide +kernel) (by decide +kernel)), ⟨by decide +kernel, by decide +kernel, by decide +kernel⟩, rfl, Or.inr ⟨"CnfCompiler", List.mem_of_getElem? (i := 668) (by decide +kernel)⟩⟩, (gt_at 588 (by decide +kernel) (by decide +kernel))⟩
theorem flX1_9 : FL RX1 9 1 0 := ⟨_, rfl, by decide, Or.inl (gt_at 270 (by decide +kernel) (by decide +kernel))⟩
theorem clX1_38 : CLv RX1 38 mX5_wordAt 1 := ⟨⟨(gt_at 629 (by decide +kernel) (by decide +kernel)), (gt_at 86 (by decide +kernel) (by decide +kernel)), ⟨by decide +kernel, by decide +kernel, by decide +kernel⟩, rfl, Or.inr ⟨"CnfCompiler", List.mem_of_getElem? (i := 669) (by decide +kernel)⟩⟩, (gt_at 628 (by decide +kernel) (by decide +kernel)), (gt_at 39 (by decide +kernel) (by decide +kernel))⟩
theorem flX1_15 : FL RX1 15 1 1 := ⟨_, rfl, by decide, Or.inl (gt_at 271 (by decide +kernel) (by decide +kernel))⟩
theorem kcX1_42 : Cond.constantLong RX1 42 (-1) ∈ gtbl := (gt_at 670 (by decide +kernel) (by decide +kernel))
theorem clX1_44 : CLs RX1 44 mX8_variablesOf 1 := ⟨⟨(gt_at 415 (by decide +kernel) (by decide +kernel)), (gt_at 79 (by decide +kernel) (by decide +kernel)), ⟨by decide +kernel, by decide +kernel, by decide +kernel⟩, rfl, Or.inr ⟨"CnfCompiler", List.mem_of_getElem? (i := 671) (by decide +kernel)⟩⟩, (gt_at 414 (by decide +kernel) (by decide +kernel))⟩
theorem fpX1_22 : FP RX1 22 1 3 .int := ⟨_, rfl, by decide, rfl, by decide +kernel, Or.inl (gt_at 273 (by decide +kernel) (by decide +kernel))⟩
theorem fpX1_29 : FP RX1 29 1 5 .int := ⟨_, rfl, by decide, rfl, by decide +kernel, Or.inl (gt_at 276 (by decide +kernel) (by decide +kernel))⟩
theorem flX1_29 : FL RX1 29 1 5 := ⟨_, rfl, by decide, Or.inl (gt_at 276 (by decide +kernel) (by decide +kernel))⟩
theorem clX1_3 : Cond.methodLink RX1 3 objectInit ∈ gtbl := (gt_at 269 (by decide +kernel) (by decide +kernel))
theorem fpX1_9 : FF RX1 9 1 0 (.array .long) := ⟨_, rfl, by decide, rfl, rfl, by decide +kernel, (gt_at 270 (by decide +kernel) (by decide +kernel))⟩
theorem fpX1_15 : FF RX1 15 1 1 (.array .long) := ⟨_, rfl, by decide, rfl, rfl, by decide +kernel, (gt_at 271 (by decide +kernel) (by decide +kernel))⟩
theorem fpX1_18 : FF RX1 18 1 2 (.array .int) := ⟨_, rfl, by decide, rfl, rfl, by decide +kernel, (gt_at 272 (by decide +kernel) (by decide +kernel))⟩
theorem clX1_60 : CLs RX1 60 mX8_literalOf 1 := ⟨⟨(gt_at 687 (by decide +kernel) (by decide +kernel)), (gt_at 79 (by decide +kernel) (by decide +kernel)), ⟨by decide +kernel, by decide +kernel, by decide +kernel⟩, rfl, Or.inr ⟨"CnfCompiler", List.mem_of_getElem? (i := 685) (by decide +kernel)⟩⟩, (gt_at 686 (by decide +kernel) (by decide +kernel))⟩
theorem flX2_15 : FL RX2 15 2 1 := ⟨_, rfl, by decide, Or.inl (gt_at 157 (by decide +kernel) (by decide +kernel))⟩
theorem flX2_9 : FL RX2 9 2 0 := ⟨_, rfl, by decide, Or.inl (gt_at 156 (by decide +kernel) (by decide +kernel))⟩
theorem fpX2_15 : FP RX2 15 2 1 .int := ⟨_, rfl, by decide, rfl, by decide +kernel, Or.inl (gt_at 157 (by decide +kernel) (by decide +kernel))⟩
theorem clX2_19 : CLv RX2 19 mX2_byteAt 1 := ⟨⟨(gt_at 715 (by decide +kernel) (by decide +kernel)), (gt_at 83 (by decide +kernel) (by decide +kernel)), ⟨by decide +kernel, by decide +kernel, by decide +kernel⟩, rfl, Or.inl (gt_at 724 (by decide +kernel) (by decide +kernel))⟩, (gt_at 714 (by decide +kernel) (by decide +kernel)), (gt_at 48 (by decide +kernel) (by decide +kernel))⟩
theorem clX2_3 : Cond.methodLink RX2 3 objectInit ∈ gtbl := (gt_at 155 (by decide +kernel) (by decide +kernel))
theorem fpX2_9 : FF RX2 9 2 0 (.array .int) := ⟨_, rfl, by decide, rfl, rfl, by decide +kernel, (gt_at 156 (by decide +kernel) (by decide +kernel))⟩
theorem flX3_36 : FL RX3 36 3 6 := ⟨_, rfl, by decide, Or.inl (gt_at 200 (by decide +kernel) (by decide +kernel))⟩
theorem flX3_21 : FL RX3 21 3 3 := ⟨_, rfl, by decide, Or.inl (gt_at 197 (by decide +kernel) (by decide +kernel))⟩
theorem clX3_136 : CLv RX3 136 mX3_makeRoom 0 := ⟨⟨(gt_at 514 (by decide +kernel) (by decide +kernel)), (gt_at 85 (by decide +kernel) (by decide +kernel)), ⟨by decide +kernel, by decide +kernel, by decide +kernel⟩, rfl, Or.inl (gt_at 511 (by decide +kernel) (by decide +kernel))⟩, (gt_at 513 (by decide +kernel) (by decide +kernel)), (gt_at 28 (by decide +kernel) (by decide +kernel))⟩
theorem flX3_11 : FL RX3 11 3 0 := ⟨_, rfl, by decide, Or.inl (gt_at 194 (by decide +kernel) (by decide +kernel))⟩
theorem flX3_18 : FL RX3 18 3 2 := ⟨_, rfl, by decide, Or.inl (gt_at 196 (by decide +kernel) (by decide +kernel))⟩
theorem clX3_139 : Cond.methodLink RX3 139 arraycopyName ∈ gtbl := (gt_at 529 (by decide +kernel) (by decide +kernel))
theorem flX3_24 : FL RX3 24 3 4 := ⟨_, rfl, by decide, Or.inl (gt_at 198 (by decide +kernel) (by decide +kernel))⟩
theorem flX3_27 : FL RX3 27 3 5 := ⟨_, rfl, by decide, Or.inl (gt_at 199 (by decide +kernel) (by decide +kernel))⟩
theorem flX3_15 : FL RX3 15 3 1 := ⟨_, rfl, by decide, Or.inl (gt_at 195 (by decide +kernel) (by decide +kernel))⟩
theorem fpX3_36 : FP RX3 36 3 6 .int := ⟨_, rfl, by decide, rfl, by decide +kernel, Or.inl (gt_at 200 (by decide +kernel) (by decide +kernel))⟩
theorem clX3_115 : CLs RX3 115 mX8_oppositesOf 1 := ⟨⟨(gt_at 453 (by decide +kernel) (by decide +kernel)), (gt_at 79 (by decide +kernel) (by decide +kernel)), ⟨by decide +kernel, by decide +kernel, by decide +kernel⟩, rfl, Or.inr ⟨"CnfCompiler", List.mem_of_getElem? (i := 451) (by decide +kernel)⟩⟩, (gt_at 452 (by decide +kernel) (by decide +kernel))⟩
theorem clX3_129 : CLv RX3 129 mX3_insert 3 := ⟨⟨(gt_at 457 (by decide +kernel) (by decide +kernel)), (gt_at 85 (by decide +kernel) (by decide +kernel)), ⟨by decide +kernel, by decide +kernel, by decide +kernel⟩, rfl, Or.inl (gt_at 454 (by decide +kernel) (by decide +kernel))⟩, (gt_at 456 (by decide +kernel) (by decide +kernel)), (gt_at 15 (by decide +kernel) (by decide +kernel))⟩
theorem clX3_30 : CLs RX3 30 mJ7_fill_53178 2 := ⟨⟨(gt_at 112 (by decide +kernel) (by decide +kernel)), (gt_at 81 (by decide +kernel) (by decide +kernel)), ⟨by decide +kernel, by decide +kernel, by decide +kernel⟩, rfl, Or.inl (gt_at 445 (by decide +kernel) (by decide +kernel))⟩, (gt_at 111 (by decide +kernel) (by decide +kernel))⟩
theorem fpX3_40 : FP RX3 40 3 9 .int := ⟨_, rfl, by decide, rfl, by decide +kernel, Or.inl (gt_at 204 (by decide +kernel) (by decide +kernel))⟩
theorem fpX3_43 : FP RX3 43 3 10 .int := ⟨_, rfl, by decide, rfl, by decide +kernel, Or.inl (gt_at 206 (by decide +kernel) (by decide +kernel))⟩
theorem fpX3_46 : FP RX3 46 3 11 .boolean := ⟨_, rfl, by decide, rfl, by decide +kernel, Or.inl (gt_at 208 (by decide +kernel) (by decide +kernel))⟩
theorem fpX3_50 : FP RX3 50 3 12 .boolean := ⟨_, rfl, by decide, rfl, by decide +kernel, Or.inl (gt_at 209 (by decide +kernel) (by decide +kernel))⟩
theorem fpX3_53 : FP RX3 53 3 7 .int := ⟨_, rfl, by decide, rfl, by decide +kernel, Or.inl (gt_at 201 (by decide +kernel) (by decide +kernel))⟩
theorem flX3_56 : FL RX3 56 6 1 := ⟨_, rfl, by decide, Or.inr ⟨"CnfCompiler", List.mem_of_getElem? (i := 115) (by decide +kernel)⟩⟩
theorem flX3_53 : FL RX3 53 3 7 := ⟨_, rfl, by decide, Or.inl (gt_at 201 (by decide +kernel) (by decide +kernel))⟩
theorem clX3_61 : CLv RX3 61 mX6_clauseAt 1 := ⟨⟨(gt_at 402 (by decide +kernel) (by decide +kernel)), (gt_at 80 (by decide +kernel) (by decide +kernel)), ⟨by decide +kernel, by decide +kernel, by decide +kernel⟩, rfl, Or.inr ⟨"CnfCompiler", List.mem_of_getElem? (i := 446) (by decide +kernel)⟩⟩, (gt_at 401 (by decide +kernel) (by decide +kernel)), (gt_at 9 (by decide +kernel) (by decide +kernel))⟩
theorem flX3_65 : FL RX3 65 6 2 := ⟨_, rfl, by decide, Or.inr ⟨"CnfCompiler", List.mem_of_getElem? (i := 119) (by decide +kernel)⟩⟩
theorem clX3_68 : CLv RX3 68 mX3_addResidual 4 := ⟨⟨(gt_at 450 (by decide +kernel) (by decide +kernel)), (gt_at 85 (by decide +kernel) (by decide +kernel)), ⟨by decide +kernel, by decide +kernel, by decide +kernel⟩, rfl, Or.inl (gt_at 447 (by decide +kernel) (by decide +kernel))⟩, (gt_at 449 (by decide +kernel) (by decide +kernel)), (gt_at 14 (by decide +kernel) (by decide +kernel))⟩
theorem clX3_72 : CLv RX3 72 mX3_explore 2 := ⟨⟨(gt_at 461 (by decide +kernel) (by decide +kernel)), (gt_at 85 (by decide +kernel) (by decide +kernel)), ⟨by decide +kernel, by decide +kernel, by decide +kernel⟩, rfl, Or.inl (gt_at 458 (by decide +kernel) (by decide +kernel))⟩, (gt_at 460 (by decide +kernel) (by decide +kernel)), (gt_at 16 (by decide +kernel) (by decide +kernel))⟩
theorem fpX3_76 : FP RX3 76 3 8 .int := ⟨_, rfl, by decide, rfl, by decide +kernel, Or.inl (gt_at 202 (by decide +kernel) (by decide +kernel))⟩
theorem clX3_93 : CLv RX3 93 mX3_bucketOf 2 := ⟨⟨(gt_at 465 (by decide +kernel) (by decide +kernel)), (gt_at 85 (by decide +kernel) (by decide +kernel)), ⟨by decide +kernel, by decide +kernel, by decide +kernel⟩, rfl, Or.inl (gt_at 462 (by decide +kernel) (by decide +kernel))⟩, (gt_at 464 (by decide +kernel) (by decide +kernel)), (gt_at 17 (by decide +kernel) (by decide +kernel))⟩
theorem clX3_96 : CLv RX3 96 mX3_findNode 3 := ⟨⟨(gt_at 469 (by decide +kernel) (by decide +kernel)), (gt_at 85 (by decide +kernel) (by decide +kernel)), ⟨by decide +kernel, by decide +kernel, by decide +kernel⟩, rfl, Or.inl (gt_at 466 (by decide +kernel) (by decide +kernel))⟩, (gt_at 468 (by decide +kernel) (by decide +kernel)), (gt_at 18 (by decide +kernel) (by decide +kernel))⟩
theorem clX3_89 : CLv RX3 89 mX3_variablesConnectedTo 3 := ⟨⟨(gt_at 477 (by decide +kernel) (by decide +kernel)), (gt_at 85 (by decide +kernel) (by decide +kernel)), ⟨by decide +kernel, by decide +kernel, by decide +kernel⟩, rfl, Or.inl (gt_at 474 (by decide +kernel) (by decide +kernel))⟩, (gt_at 476 (by decide +kernel) (by decide +kernel)), (gt_at 20 (by decide +kernel) (by decide +kernel))⟩
theorem clX3_99 : CLv RX3 99 mX3_variablesIn 2 := ⟨⟨(gt_at 482 (by decide +kernel) (by decide +kernel)), (gt_at 85 (by decide +kernel) (by decide +kernel)), ⟨by decide +kernel, by decide +kernel, by decide +kernel⟩, rfl, Or.inl (gt_at 479 (by decide +kernel) (by decide +kernel))⟩, (gt_at 481 (by decide +kernel) (by decide +kernel)), (gt_at 21 (by decide +kernel) (by decide +kernel))⟩
theorem clX3_102 : CLv RX3 102 mX3_exploreDecision 2 := ⟨⟨(gt_at 486 (by decide +kernel) (by decide +kernel)), (gt_at 85 (by decide +kernel) (by decide +kernel)), ⟨by decide +kernel, by decide +kernel, by decide +kernel⟩, rfl, Or.inl (gt_at 483 (by decide +kernel) (by decide +kernel))⟩, (gt_at 485 (by decide +kernel) (by decide +kernel)), (gt_at 22 (by decide +kernel) (by decide +kernel))⟩
theorem clX3_105 : CLv RX3 105 mX3_exploreParts 2 := ⟨⟨(gt_at 502 (by decide +kernel) (by decide +kernel)), (gt_at 85 (by decide +kernel) (by decide +kernel)), ⟨by decide +kernel, by decide +kernel, by decide +kernel⟩, rfl, Or.inl (gt_at 499 (by decide +kernel) (by decide +kernel))⟩, (gt_at 501 (by decide +kernel) (by decide +kernel)), (gt_at 25 (by decide +kernel) (by decide +kernel))⟩
theorem clX3_108 : CLv RX3 108 mX3_addNode 4 := ⟨⟨(gt_at 510 (by decide +kernel) (by decide +kernel)), (gt_at 85 (by decide +kernel) (by decide +kernel)), ⟨by decide +kernel, by decide +kernel, by decide +kernel⟩, rfl, Or.inl (gt_at 507 (by decide +kernel) (by decide +kernel))⟩, (gt_at 509 (by decide +kernel) (by decide +kernel)), (gt_at 27 (by decide +kernel) (by decide +kernel))⟩
theorem flX3_40 : FL RX3 40 3 9 := ⟨_, rfl, by decide, Or.inl (gt_at 204 (by decide +kernel) (by decide +kernel))⟩
theorem clX3_83 : CLv RX3 83 mX3_mostFrequentVariable 2 := ⟨⟨(gt_at 490 (by decide +kernel) (by decide +kernel)), (gt_at 85 (by decide +kernel) (by decide +kernel)), ⟨by decide +kernel, by decide +kernel, by decide +kernel⟩, rfl, Or.inl (gt_at 487 (by decide +kernel) (by decide +kernel))⟩, (gt_at 489 (by decide +kernel) (by decide +kernel)), (gt_at 23 (by decide +kernel) (by decide +kernel))⟩
theorem clX3_112 : CLs RX3 112 mX8_bitOf 1 := ⟨⟨(gt_at 362 (by decide +kernel) (by decide +kernel)), (gt_at 79 (by decide +kernel) (by decide +kernel)), ⟨by decide +kernel, by decide +kernel, by decide +kernel⟩, rfl, Or.inr ⟨"CnfCompiler", List.mem_of_getElem? (i := 491) (by decide +kernel)⟩⟩, (gt_at 361 (by decide +kernel) (by decide +kernel))⟩
theorem clX3_118 : CLv RX3 118 mX3_setLiteral 3 := ⟨⟨(gt_at 495 (by decide +kernel) (by decide +kernel)), (gt_at 85 (by decide +kernel) (by decide +kernel)), ⟨by decide +kernel, by decide +kernel, by decide +kernel⟩, rfl, Or.inl (gt_at 492 (by decide +kernel) (by decide +kernel))⟩, (gt_at 494 (by decide +kernel) (by decide +kernel)), (gt_at 24 (by decide +kernel) (by decide +kernel))⟩
theorem clX3_121 : Cond.methodLink RX3 121 Lib.Math.max.name ∈ gtbl := (gt_at 496 (by decide +kernel) (by decide +kernel))
theorem flX3_43 : FL RX3 43 3 10 := ⟨_, rfl, by decide, Or.inl (gt_at 206 (by decide +kernel) (by decide +kernel))⟩
theorem clX3_86 : CLs RX3 86 mX8_variablesOf 1 := ⟨⟨(gt_at 415 (by decide +kernel) (by decide +kernel)), (gt_at 79 (by decide +kernel) (by decide +kernel)), ⟨by decide +kernel, by decide +kernel, by decide +kernel⟩, rfl, Or.inr ⟨"CnfCompiler", List.mem_of_getElem? (i := 478) (by decide +kernel)⟩⟩, (gt_at 414 (by decide +kernel) (by decide +kernel))⟩
theorem clX3_126 : CLv RX3 126 mX3_takePart 3 := ⟨⟨(gt_at 506 (by decide +kernel) (by decide +kernel)), (gt_at 85 (by decide +kernel) (by decide +kernel)), ⟨by decide +kernel, by decide +kernel, by decide +kernel⟩, rfl, Or.inl (gt_at 503 (by decide +kernel) (by decide +kernel))⟩, (gt_at 505 (by decide +kernel) (by decide +kernel)), (gt_at 26 (by decide +kernel) (by decide +kernel))⟩
theorem clX3_132 : CLv RX3 132 mX3_hasRow 3 := ⟨⟨(gt_at 473 (by decide +kernel) (by decide +kernel)), (gt_at 85 (by decide +kernel) (by decide +kernel)), ⟨by decide +kernel, by decide +kernel, by decide +kernel⟩, rfl, Or.inl (gt_at 470 (by decide +kernel) (by decide +kernel))⟩, (gt_at 472 (by decide +kernel) (by decide +kernel)), (gt_at 19 (by decide +kernel) (by decide +kernel))⟩
theorem clX3_3 : Cond.methodLink RX3 3 objectInit ∈ gtbl := (gt_at 193 (by decide +kernel) (by decide +kernel))
theorem fpX3_11 : FF RX3 11 3 0 (.array .int) := ⟨_, rfl, by decide, rfl, rfl, by decide +kernel, (gt_at 194 (by decide +kernel) (by decide +kernel))⟩
theorem fpX3_15 : FF RX3 15 3 1 (.array .int) := ⟨_, rfl, by decide, rfl, rfl, by decide +kernel, (gt_at 195 (by decide +kernel) (by decide +kernel))⟩
theorem fpX3_18 : FP RX3 18 3 2 (.array .int) := ⟨_, rfl, by decide, rfl, by decide +kernel, Or.inl (gt_at 196 (by decide +kernel) (by decide +kernel))⟩
theorem fpX3_21 : FP RX3 21 3 3 (.array .int) := ⟨_, rfl, by decide, rfl, by decide +kernel, Or.inl (gt_at 197 (by decide +kernel) (by decide +kernel))⟩
theorem fpX3_24 : FP RX3 24 3 4 (.array .int) := ⟨_, rfl, by decide, rfl, by decide +kernel, Or.inl (gt_at 198 (by decide +kernel) (by decide +kernel))⟩
theorem fpX3_27 : FP RX3 27 3 5 (.array .int) := ⟨_, rfl, by decide, rfl, by decide +kernel, Or.inl (gt_at 199 (by decide +kernel) (by decide +kernel))⟩
theorem clX3_145 : CLs RX3 145 mJ7_copyOf_59c91 2 := ⟨⟨(gt_at 517 (by decide +kernel) (by decide +kernel)), (gt_at 81 (by decide +kernel) (by decide +kernel)), ⟨by decide +kernel, by decide +kernel, by decide +kernel⟩, rfl, Or.inl (gt_at 515 (by decide +kernel) (by decide +kernel))⟩, (gt_at 516 (by decide +kernel) (by decide +kernel))⟩
theorem flX3_46 : FL RX3 46 3 11 := ⟨_, rfl, by decide, Or.inl (gt_at 208 (by decide +kernel) (by decide +kernel))⟩
theorem flX3_50 : FL RX3 50 3 12 := ⟨_, rfl, by decide, Or.inl (gt_at 209 (by decide +kernel) (by decide +kernel))⟩
theorem clX3_79 : CLv RX3 79 mX3_partsAtRoot 0 := ⟨⟨(gt_at 557 (by decide +kernel) (by decide +kernel)), (gt_at 85 (by decide +kernel) (by decide +kernel)), ⟨by decide +kernel, by decide +kernel, by decide +kernel⟩, rfl, Or.inl (gt_at 554 (by decide +kernel) (by decide +kernel))⟩, (gt_at 556 (by decide +kernel) (by decide +kernel)), (gt_at 31 (by decide +kernel) (by decide +kernel))⟩
theorem flX4_11 : FL RX4 11 4 0 := ⟨_, rfl, by decide, Or.inl (gt_at 142 (by decide +kernel) (by decide +kernel))⟩
theorem fpX4_18 : FP RX4 18 4 1 .int := ⟨_, rfl, by decide, rfl, by decide +kernel, Or.inl (gt_at 143 (by decide +kernel) (by decide +kernel))⟩
theorem clX4_3 : Cond.methodLink RX4 3 objectInit ∈ gtbl := (gt_at 138 (by decide +kernel) (by decide +kernel))
theorem alX4_9 : Cond.classLink RX4 9 RX6 ∈ gtbl := (gt_at 139 (by decide +kernel) (by decide +kernel))
theorem fpX4_11 : FF RX4 11 4 0 (.array (.object "CnfCompiler$State")) := ⟨_, rfl, by decide, rfl, rfl, by decide +kernel, (gt_at 142 (by decide +kernel) (by decide +kernel))⟩
theorem nlX4_9 : NL RX4 9 6 [.null, .int 0, .int 0, .null] := ⟨_, tyX6, rfl, tyX6_ok, by decide +kernel, rfl, fun _ => rfl, (gt_at 139 (by decide +kernel) (by decide +kernel)), (gt_at 105 (by decide +kernel) (by decide +kernel)), (gt_at 80 (by decide +kernel) (by decide +kernel))⟩
theorem clX4_17 : CLi RX4 17 mX6_init 0 := ⟨⟨(gt_at 108 (by decide +kernel) (by decide +kernel)), (gt_at 80 (by decide +kernel) (by decide +kernel)), ⟨by decide +kernel, by decide +kernel, by decide +kernel⟩, rfl, Or.inr ⟨"CnfCompiler", List.mem_of_getElem? (i := 141) (by decide +kernel)⟩⟩, (gt_at 107 (by decide +kernel) (by decide +kernel)), rfl, rfl⟩
theorem flX4_18 : FL RX4 18 4 1 := ⟨_, rfl, by decide, Or.inl (gt_at 143 (by decide +kernel) (by decide +kernel))⟩
theorem clX4_25 : CLv RX4 25 mX6_copyFrom 1 := ⟨⟨(gt_at 356 (by decide +kernel) (by decide +kernel)), (gt_at 80 (by decide +kernel) (by decide +kernel)), ⟨by decide +kernel, by decide +kernel, by decide +kernel⟩, rfl, Or.inr ⟨"CnfCompiler", List.mem_of_getElem? (i := 353) (by decide +kernel)⟩⟩, (gt_at 355 (by decide +kernel) (by decide +kernel)), (gt_at 3 (by decide +kernel) (by decide +kernel))⟩
theorem clX4_22 : CLv RX4 22 mX4_dropOldest 0 := ⟨⟨(gt_at 352 (by decide +kernel) (by decide +kernel)), (gt_at 82 (by decide +kernel) (by decide +kernel)), ⟨by decide +kernel, by decide +kernel, by decide +kernel⟩, rfl, Or.inl (gt_at 349 (by decide +kernel) (by decide +kernel))⟩, (gt_at 351 (by decide +kernel) (by decide +kernel)), (gt_at 2 (by decide +kernel) (by decide +kernel))⟩
theorem flX5_9 : FL RX5 9 5 0 := ⟨_, rfl, by decide, Or.inl (gt_at 243 (by decide +kernel) (by decide +kernel))⟩
theorem kcX5_21 : Cond.constantLong RX5 21 (-1) ∈ gtbl := (gt_at 575 (by decide +kernel) (by decide +kernel))
theorem clX5_23 : CLs RX5 23 mJ7_fill_d0a16 2 := ⟨⟨(gt_at 578 (by decide +kernel) (by decide +kernel)), (gt_at 81 (by decide +kernel) (by decide +kernel)), ⟨by decide +kernel, by decide +kernel, by decide +kernel⟩, rfl, Or.inl (gt_at 576 (by decide +kernel) (by decide +kernel))⟩, (gt_at 577 (by decide +kernel) (by decide +kernel))⟩
theorem flX5_29 : FL RX5 29 6 1 := ⟨_, rfl, by decide, Or.inr ⟨"CnfCompiler", List.mem_of_getElem? (i := 117) (by decide +kernel)⟩⟩
theorem clX5_35 : CLv RX5 35 mX6_clauseAt 1 := ⟨⟨(gt_at 402 (by decide +kernel) (by decide +kernel)), (gt_at 80 (by decide +kernel) (by decide +kernel)), ⟨by decide +kernel, by decide +kernel, by decide +kernel⟩, rfl, Or.inr ⟨"CnfCompiler", List.mem_of_getElem? (i := 579) (by decide +kernel)⟩⟩, (gt_at 401 (by decide +kernel) (by decide +kernel)), (gt_at 9 (by decide +kernel) (by decide +kernel))⟩
theorem clX5_39 : CLv RX5 39 mX5_keepSatisfying 1 := ⟨⟨(gt_at 583 (by decide +kernel) (by decide +kernel)), (gt_at 86 (by decide +kernel) (by decide +kernel)), ⟨by decide +kernel, by decide +kernel, by decide +kernel⟩, rfl, Or.inl (gt_at 580 (by decide +kernel) (by decide +kernel))⟩, (gt_at 582 (by decide +kernel) (by decide +kernel)), (gt_at 34 (by decide +kernel) (by decide +kernel))⟩
theorem flX5_43 : FL RX5 43 6 2 := ⟨_, rfl, by decide, Or.inr ⟨"CnfCompiler", List.mem_of_getElem? (i := 120) (by decide +kernel)⟩⟩
theorem clX5_46 : CLs RX5 46 mX8_contains 2 := ⟨⟨(gt_at 586 (by decide +kernel) (by decide +kernel)), (gt_at 79 (by decide +kernel) (by decide +kernel)), ⟨by decide +kernel, by decide +kernel, by decide +kernel⟩, rfl, Or.inr ⟨"CnfCompiler", List.mem_of_getElem? (i := 584) (by decide +kernel)⟩⟩, (gt_at 585 (by decide +kernel) (by decide +kernel))⟩
theorem clX5_54 : CLv RX5 54 mX5_wordAt 1 := ⟨⟨(gt_at 629 (by decide +kernel) (by decide +kernel)), (gt_at 86 (by decide +kernel) (by decide +kernel)), ⟨by decide +kernel, by decide +kernel, by decide +kernel⟩, rfl, Or.inl (gt_at 626 (by decide +kernel) (by decide +kernel))⟩, (gt_at 628 (by decide +kernel) (by decide +kernel)), (gt_at 39 (by decide +kernel) (by decide +kernel))⟩
theorem clX5_3 : Cond.methodLink RX5 3 objectInit ∈ gtbl := (gt_at 242 (by decide +kernel) (by decide +kernel))
theorem fpX5_9 : FF RX5 9 5 0 (.array .long) := ⟨_, rfl, by decide, rfl, rfl, by decide +kernel, (gt_at 243 (by decide +kernel) (by decide +kernel))⟩
theorem fpX5_15 : FF RX5 15 5 1 (.array .long) := ⟨_, rfl, by decide, rfl, rfl, by decide +kernel, (gt_at 244 (by decide +kernel) (by decide +kernel))⟩
theorem flX5_15 : FL RX5 15 5 1 := ⟨_, rfl, by decide, Or.inl (gt_at 244 (by decide +kernel) (by decide +kernel))⟩
theorem clX5_50 : CLs RX5 50 mX5_literalWord 2 := ⟨⟨(gt_at 589 (by decide +kernel) (by decide +kernel)), (gt_at 86 (by decide +kernel) (by decide +kernel)), ⟨by decide +kernel, by decide +kernel, by decide +kernel⟩, rfl, Or.inl (gt_at 587 (by decide +kernel) (by decide +kernel))⟩, (gt_at 588 (by decide +kernel) (by decide +kernel))⟩
theorem clX5_64 : CLs RX5 64 mJ13_numberOfTrailingZeros_95d88 1 := ⟨⟨(gt_at 656 (by decide +kernel) (by decide +kernel)), (gt_at 94 (by decide +kernel) (by decide +kernel)), ⟨by decide +kernel, by decide +kernel, by decide +kernel⟩, rfl, Or.inl (gt_at 654 (by decide +kernel) (by decide +kernel))⟩, (gt_at 655 (by decide +kernel) (by decide +kernel))⟩
theorem clX5_58 : CLs RX5 58 mJ13_bitCount_95d88 1 := ⟨⟨(gt_at 598 (by decide +kernel) (by decide +kernel)), (gt_at 94 (by decide +kernel) (by decide +kernel)), ⟨by decide +kernel, by decide +kernel, by decide +kernel⟩, rfl, Or.inl (gt_at 596 (by decide +kernel) (by decide +kernel))⟩, (gt_at 597 (by decide +kernel) (by decide +kernel))⟩
theorem flX6_15 : FL RX6 15 6 1 := ⟨_, rfl, by decide, Or.inl (gt_at 114 (by decide +kernel) (by decide +kernel))⟩
theorem flX6_9 : FL RX6 9 6 0 := ⟨_, rfl, by decide, Or.inl (gt_at 113 (by decide +kernel) (by decide +kernel))⟩
theorem fpX6_15 : FP RX6 15 6 1 .int := ⟨_, rfl, by decide, rfl, by decide +kernel, Or.inl (gt_at 114 (by decide +kernel) (by decide +kernel))⟩
theorem clX6_31 : CLv RX6 31 mX6_hasClause 1 := ⟨⟨(gt_at 385 (by decide +kernel) (by decide +kernel)), (gt_at 80 (by decide +kernel) (by decide +kernel)), ⟨by decide +kernel, by decide +kernel, by decide +kernel⟩, rfl, Or.inl (gt_at 390 (by decide +kernel) (by decide +kernel))⟩, (gt_at 384 (by decide +kernel) (by decide +kernel)), (gt_at 7 (by decide +kernel) (by decide +kernel))⟩
theorem clX6_39 : Cond.methodLink RX6 39 arraycopyName ∈ gtbl := (gt_at 357 (by decide +kernel) (by decide +kernel))
theorem flX6_19 : FL RX6 19 6 2 := ⟨_, rfl, by decide, Or.inl (gt_at 118 (by decide +kernel) (by decide +kernel))⟩
theorem fpX6_19 : FP RX6 19 6 2 .int := ⟨_, rfl, by decide, rfl, by decide +kernel, Or.inl (gt_at 118 (by decide +kernel) (by decide +kernel))⟩
theorem flX6_22 : FL RX6 22 6 3 := ⟨_, rfl, by decide, Or.inl (gt_at 122 (by decide +kernel) (by decide +kernel))⟩
theorem clX6_3 : Cond.methodLink RX6 3 objectInit ∈ gtbl := (gt_at 109 (by decide +kernel) (by decide +kernel))
theorem fpX6_9 : FF RX6 9 6 0 (.array .int) := ⟨_, rfl, by decide, rfl, rfl, by decide +kernel, (gt_at 113 (by decide +kernel) (by decide +kernel))⟩
theorem fpX6_22 : FF RX6 22 6 3 (.array .int) := ⟨_, rfl, by decide, rfl, rfl, by decide +kernel, (gt_at 122 (by decide +kernel) (by decide +kernel))⟩
theorem clX6_25 : CLs RX6 25 mJ7_fill_53178 2 := ⟨⟨(gt_at 112 (by decide +kernel) (by decide +kernel)), (gt_at 81 (by decide +kernel) (by decide +kernel)), ⟨by decide +kernel, by decide +kernel, by decide +kernel⟩, rfl, Or.inl (gt_at 110 (by decide +kernel) (by decide +kernel))⟩, (gt_at 111 (by decide +kernel) (by decide +kernel))⟩
theorem clX6_35 : CLv RX6 35 mX6_weightOf 1 := ⟨⟨(gt_at 432 (by decide +kernel) (by decide +kernel)), (gt_at 80 (by decide +kernel) (by decide +kernel)), ⟨by decide +kernel, by decide +kernel, by decide +kernel⟩, rfl, Or.inl (gt_at 429 (by decide +kernel) (by decide +kernel))⟩, (gt_at 431 (by decide +kernel) (by decide +kernel)), (gt_at 11 (by decide +kernel) (by decide +kernel))⟩
theorem clX7_28 : CLv RX7 28 mX6_weightOf 1 := ⟨⟨(gt_at 432 (by decide +kernel) (by decide +kernel)), (gt_at 80 (by decide +kernel) (by decide +kernel)), ⟨by decide +kernel, by decide +kernel, by decide +kernel⟩, rfl, Or.inr ⟨"CnfCompiler", List.mem_of_getElem? (i := 621) (by decide +kernel)⟩⟩, (gt_at 431 (by decide +kernel) (by decide +kernel)), (gt_at 11 (by decide +kernel) (by decide +kernel))⟩
theorem clX7_5 : Cond.methodLink RX7 5 objectInit ∈ gtbl := (gt_at 256 (by decide +kernel) (by decide +kernel))
theorem fpX7_11 : FF RX7 11 7 0 (.array .long) := ⟨_, rfl, by decide, rfl, rfl, by decide +kernel, (gt_at 257 (by decide +kernel) (by decide +kernel))⟩
theorem fpX7_15 : FF RX7 15 7 1 (.array .long) := ⟨_, rfl, by decide, rfl, rfl, by decide +kernel, (gt_at 258 (by decide +kernel) (by decide +kernel))⟩
theorem flX7_11 : FL RX7 11 7 0 := ⟨_, rfl, by decide, Or.inl (gt_at 257 (by decide +kernel) (by decide +kernel))⟩
theorem clX7_18 : CLs RX7 18 mX7_fillProducts 3 := ⟨⟨(gt_at 620 (by decide +kernel) (by decide +kernel)), (gt_at 87 (by decide +kernel) (by decide +kernel)), ⟨by decide +kernel, by decide +kernel, by decide +kernel⟩, rfl, Or.inl (gt_at 618 (by decide +kernel) (by decide +kernel))⟩, (gt_at 619 (by decide +kernel) (by decide +kernel))⟩
theorem flX7_15 : FL RX7 15 7 1 := ⟨_, rfl, by decide, Or.inl (gt_at 258 (by decide +kernel) (by decide +kernel))⟩
theorem clX7_22 : CLv RX7 22 mX5_has 1 := ⟨⟨(gt_at 625 (by decide +kernel) (by decide +kernel)), (gt_at 86 (by decide +kernel) (by decide +kernel)), ⟨by decide +kernel, by decide +kernel, by decide +kernel⟩, rfl, Or.inr ⟨"CnfCompiler", List.mem_of_getElem? (i := 622) (by decide +kernel)⟩⟩, (gt_at 624 (by decide +kernel) (by decide +kernel)), (gt_at 38 (by decide +kernel) (by decide +kernel))⟩
theorem clX8_76 : CLs RX8 76 mX8_isLiteral 1 := ⟨⟨(gt_at 331 (by decide +kernel) (by decide +kernel)), (gt_at 79 (by decide +kernel) (by decide +kernel)), ⟨by decide +kernel, by decide +kernel, by decide +kernel⟩, rfl, Or.inl (gt_at 329 (by decide +kernel) (by decide +kernel))⟩, (gt_at 330 (by decide +kernel) (by decide +kernel))⟩
theorem clX8_80 : CLs RX8 80 mX8_isLiteralOrZero 1 := ⟨⟨(gt_at 334 (by decide +kernel) (by decide +kernel)), (gt_at 79 (by decide +kernel) (by decide +kernel)), ⟨by decide +kernel, by decide +kernel, by decide +kernel⟩, rfl, Or.inl (gt_at 332 (by decide +kernel) (by decide +kernel))⟩, (gt_at 333 (by decide +kernel) (by decide +kernel))⟩
theorem clX8_83 : CLv RX8 83 mX8_fail 1 := ⟨⟨(gt_at 338 (by decide +kernel) (by decide +kernel)), (gt_at 79 (by decide +kernel) (by decide +kernel)), ⟨by decide +kernel, by decide +kernel, by decide +kernel⟩, rfl, Or.inl (gt_at 335 (by decide +kernel) (by decide +kernel))⟩, (gt_at 337 (by decide +kernel) (by decide +kernel)), (gt_at 0 (by decide +kernel) (by decide +kernel))⟩
theorem clX8_87 : CLs RX8 87 mX8_sameVariable 2 := ⟨⟨(gt_at 344 (by decide +kernel) (by decide +kernel)), (gt_at 79 (by decide +kernel) (by decide +kernel)), ⟨by decide +kernel, by decide +kernel, by decide +kernel⟩, rfl, Or.inl (gt_at 342 (by decide +kernel) (by decide +kernel))⟩, (gt_at 343 (by decide +kernel) (by decide +kernel))⟩
theorem flX8_12 : FL RX8 12 8 0 := ⟨_, rfl, by decide, Or.inl (gt_at 291 (by decide +kernel) (by decide +kernel))⟩
theorem flX8_91 : FL RX8 91 6 1 := ⟨_, rfl, by decide, Or.inr ⟨"CnfCompiler", List.mem_of_getElem? (i := 116) (by decide +kernel)⟩⟩
theorem flX8_19 : FL RX8 19 8 1 := ⟨_, rfl, by decide, Or.inl (gt_at 292 (by decide +kernel) (by decide +kernel))⟩
theorem clX8_95 : CLv RX8 95 mX4_save 1 := ⟨⟨(gt_at 348 (by decide +kernel) (by decide +kernel)), (gt_at 82 (by decide +kernel) (by decide +kernel)), ⟨by decide +kernel, by decide +kernel, by decide +kernel⟩, rfl, Or.inr ⟨"CnfCompiler", List.mem_of_getElem? (i := 345) (by decide +kernel)⟩⟩, (gt_at 347 (by decide +kernel) (by decide +kernel)), (gt_at 1 (by decide +kernel) (by decide +kernel))⟩
theorem clX8_99 : CLs RX8 99 mX8_bitOf 1 := ⟨⟨(gt_at 362 (by decide +kernel) (by decide +kernel)), (gt_at 79 (by decide +kernel) (by decide +kernel)), ⟨by decide +kernel, by decide +kernel, by decide +kernel⟩, rfl, Or.inl (gt_at 360 (by decide +kernel) (by decide +kernel))⟩, (gt_at 361 (by decide +kernel) (by decide +kernel))⟩
theorem clX8_102 : CLv RX8 102 mX6_appendClause 1 := ⟨⟨(gt_at 369 (by decide +kernel) (by decide +kernel)), (gt_at 80 (by decide +kernel) (by decide +kernel)), ⟨by decide +kernel, by decide +kernel, by decide +kernel⟩, rfl, Or.inr ⟨"CnfCompiler", List.mem_of_getElem? (i := 366) (by decide +kernel)⟩⟩, (gt_at 368 (by decide +kernel) (by decide +kernel)), (gt_at 4 (by decide +kernel) (by decide +kernel))⟩
theorem clX8_106 : CLv RX8 106 mX8_formulaHasChanged 0 := ⟨⟨(gt_at 373 (by decide +kernel) (by decide +kernel)), (gt_at 79 (by decide +kernel) (by decide +kernel)), ⟨by decide +kernel, by decide +kernel, by decide +kernel⟩, rfl, Or.inl (gt_at 370 (by decide +kernel) (by decide +kernel))⟩, (gt_at 372 (by decide +kernel) (by decide +kernel)), (gt_at 5 (by decide +kernel) (by decide +kernel))⟩
theorem clX8_136 : CLv RX8 136 mX8_freshGraph 0 := ⟨⟨(gt_at 440 (by decide +kernel) (by decide +kernel)), (gt_at 79 (by decide +kernel) (by decide +kernel)), ⟨by decide +kernel, by decide +kernel, by decide +kernel⟩, rfl, Or.inl (gt_at 437 (by decide +kernel) (by decide +kernel))⟩, (gt_at 439 (by decide +kernel) (by decide +kernel)), (gt_at 12 (by decide +kernel) (by decide +kernel))⟩
theorem flX8_147 : FL RX8 147 3 10 := ⟨_, rfl, by decide, Or.inr ⟨"CnfCompiler", List.mem_of_getElem? (i := 207) (by decide +kernel)⟩⟩
theorem flX8_26 : FL RX8 26 8 2 := ⟨_, rfl, by decide, Or.inl (gt_at 293 (by decide +kernel) (by decide +kernel))⟩
theorem flX8_195 : FL RX8 195 2 1 := ⟨_, rfl, by decide, Or.inr ⟨"CnfCompiler", List.mem_of_getElem? (i := 159) (by decide +kernel)⟩⟩
theorem clX8_198 : CLv RX8 198 mX2_addByte 1 := ⟨⟨(gt_at 695 (by decide +kernel) (by decide +kernel)), (gt_at 83 (by decide +kernel) (by decide +kernel)), ⟨by decide +kernel, by decide +kernel, by decide +kernel⟩, rfl, Or.inr ⟨"CnfCompiler", List.mem_of_getElem? (i := 692) (by decide +kernel)⟩⟩, (gt_at 694 (by decide +kernel) (by decide +kernel)), (gt_at 45 (by decide +kernel) (by decide +kernel))⟩
theorem flX8_123 : FL RX8 123 6 2 := ⟨_, rfl, by decide, Or.inr ⟨"CnfCompiler", List.mem_of_getElem? (i := 121) (by decide +kernel)⟩⟩
theorem clX8_126 : CLs RX8 126 mX8_variablesOf 1 := ⟨⟨(gt_at 415 (by decide +kernel) (by decide +kernel)), (gt_at 79 (by decide +kernel) (by decide +kernel)), ⟨by decide +kernel, by decide +kernel, by decide +kernel⟩, rfl, Or.inl (gt_at 413 (by decide +kernel) (by decide +kernel))⟩, (gt_at 414 (by decide +kernel) (by decide +kernel))⟩
theorem fpX8_123 : FP RX8 123 6 2 .int := ⟨_, rfl, by decide, rfl, by decide +kernel, Or.inr ⟨"CnfCompiler", List.mem_of_getElem? (i := 121) (by decide +kernel)⟩⟩
theorem clX8_118 : CLs RX8 118 mJ6_bitCount_0f7a4 1 := ⟨⟨(gt_at 405 (by decide +kernel) (by decide +kernel)), (gt_at 92 (by decide +kernel) (by decide +kernel)), ⟨by decide +kernel, by decide +kernel, by decide +kernel⟩, rfl, Or.inl (gt_at 403 (by decide +kernel) (by decide +kernel))⟩, (gt_at 404 (by decide +kernel) (by decide +kernel))⟩
theorem clX8_129 : CLs RX8 129 mX8_codeOf 1 := ⟨⟨(gt_at 365 (by decide +kernel) (by decide +kernel)), (gt_at 79 (by decide +kernel) (by decide +kernel)), ⟨by decide +kernel, by decide +kernel, by decide +kernel⟩, rfl, Or.inl (gt_at 363 (by decide +kernel) (by decide +kernel))⟩, (gt_at 364 (by decide +kernel) (by decide +kernel))⟩
theorem clX8_239 : CLs RX8 239 mJ6_numberOfLeadingZeros_0f7a4 1 := ⟨⟨(gt_at 640 (by decide +kernel) (by decide +kernel)), (gt_at 92 (by decide +kernel) (by decide +kernel)), ⟨by decide +kernel, by decide +kernel, by decide +kernel⟩, rfl, Or.inl (gt_at 638 (by decide +kernel) (by decide +kernel))⟩, (gt_at 639 (by decide +kernel) (by decide +kernel))⟩
theorem clX8_109 : CLv RX8 109 mX6_hasClause 1 := ⟨⟨(gt_at 385 (by decide +kernel) (by decide +kernel)), (gt_at 80 (by decide +kernel) (by decide +kernel)), ⟨by decide +kernel, by decide +kernel, by decide +kernel⟩, rfl, Or.inr ⟨"CnfCompiler", List.mem_of_getElem? (i := 382) (by decide +kernel)⟩⟩, (gt_at 384 (by decide +kernel) (by decide +kernel)), (gt_at 7 (by decide +kernel) (by decide +kernel))⟩
theorem clX8_115 : CLv RX8 115 mX6_clauseAt 1 := ⟨⟨(gt_at 402 (by decide +kernel) (by decide +kernel)), (gt_at 80 (by decide +kernel) (by decide +kernel)), ⟨by decide +kernel, by decide +kernel, by decide +kernel⟩, rfl, Or.inr ⟨"CnfCompiler", List.mem_of_getElem? (i := 399) (by decide +kernel)⟩⟩, (gt_at 401 (by decide +kernel) (by decide +kernel)), (gt_at 9 (by decide +kernel) (by decide +kernel))⟩
theorem fpX8_195 : FP RX8 195 2 1 .int := ⟨_, rfl, by decide, rfl, by decide +kernel, Or.inr ⟨"CnfCompiler", List.mem_of_getElem? (i := 159) (by decide +kernel)⟩⟩
theorem clX8_156 : CLv RX8 156 mX3_partsAtRoot 0 := ⟨⟨(gt_at 557 (by decide +kernel) (by decide +kernel)), (gt_at 85 (by decide +kernel) (by decide +kernel)), ⟨by decide +kernel, by decide +kernel, by decide +kernel⟩, rfl, Or.inr ⟨"CnfCompiler", List.mem_of_getElem? (i := 562) (by decide +kernel)⟩⟩, (gt_at 556 (by decide +kernel) (by decide +kernel)), (gt_at 31 (by decide +kernel) (by decide +kernel))⟩
theorem flX8_144 : FL RX8 144 3 9 := ⟨_, rfl, by decide, Or.inr ⟨"CnfCompiler", List.mem_of_getElem? (i := 205) (by decide +kernel)⟩⟩
theorem flX8_150 : FL RX8 150 3 8 := ⟨_, rfl, by decide, Or.inr ⟨"CnfCompiler", List.mem_of_getElem? (i := 203) (by decide +kernel)⟩⟩
theorem kcX8_218 : Cond.constantLong RX8 218 (2671) ∈ gtbl := (gt_at 758 (by decide +kernel) (by decide +kernel))
theorem kcX8_220 : Cond.constantLong RX8 220 (31) ∈ gtbl := (gt_at 759 (by decide +kernel) (by decide +kernel))
theorem flX8_65 : FL RX8 65 8 8 := ⟨_, rfl, by decide, Or.inl (gt_at 299 (by decide +kernel) (by decide +kernel))⟩
theorem clX8_222 : CLv RX8 222 mX6_weightOf 1 := ⟨⟨(gt_at 432 (by decide +kernel) (by decide +kernel)), (gt_at 80 (by decide +kernel) (by decide +kernel)), ⟨by decide +kernel, by decide +kernel, by decide +kernel⟩, rfl, Or.inr ⟨"CnfCompiler", List.mem_of_getElem? (i := 760) (by decide +kernel)⟩⟩, (gt_at 431 (by decide +kernel) (by decide +kernel)), (gt_at 11 (by decide +kernel) (by decide +kernel))⟩
theorem clX8_225 : CLs RX8 225 mX8_digestOfGraph 2 := ⟨⟨(gt_at 763 (by decide +kernel) (by decide +kernel)), (gt_at 79 (by decide +kernel) (by decide +kernel)), ⟨by decide +kernel, by decide +kernel, by decide +kernel⟩, rfl, Or.inl (gt_at 761 (by decide +kernel) (by decide +kernel))⟩, (gt_at 762 (by decide +kernel) (by decide +kernel))⟩
theorem clX8_159 : CLv RX8 159 mX8_freshModelSet 0 := ⟨⟨(gt_at 570 (by decide +kernel) (by decide +kernel)), (gt_at 79 (by decide +kernel) (by decide +kernel)), ⟨by decide +kernel, by decide +kernel, by decide +kernel⟩, rfl, Or.inl (gt_at 567 (by decide +kernel) (by decide +kernel))⟩, (gt_at 569 (by decide +kernel) (by decide +kernel)), (gt_at 32 (by decide +kernel) (by decide +kernel))⟩
theorem clX8_163 : CLv RX8 163 mX5_size 0 := ⟨⟨(gt_at 595 (by decide +kernel) (by decide +kernel)), (gt_at 86 (by decide +kernel) (by decide +kernel)), ⟨by decide +kernel, by decide +kernel, by decide +kernel⟩, rfl, Or.inr ⟨"CnfCompiler", List.mem_of_getElem? (i := 592) (by decide +kernel)⟩⟩, (gt_at 594 (by decide +kernel) (by decide +kernel)), (gt_at 35 (by decide +kernel) (by decide +kernel))⟩
theorem flX8_54 : FL RX8 54 8 6 := ⟨_, rfl, by decide, Or.inl (gt_at 297 (by decide +kernel) (by decide +kernel))⟩
theorem clX8_169 : CLv RX8 169 mX7_over 2 := ⟨⟨(gt_at 617 (by decide +kernel) (by decide +kernel)), (gt_at 87 (by decide +kernel) (by decide +kernel)), ⟨by decide +kernel, by decide +kernel, by decide +kernel⟩, rfl, Or.inr ⟨"CnfCompiler", List.mem_of_getElem? (i := 614) (by decide +kernel)⟩⟩, (gt_at 616 (by decide +kernel) (by decide +kernel)), (gt_at 37 (by decide +kernel) (by decide +kernel))⟩
theorem clX8_179 : CLv RX8 179 mX5_least 0 := ⟨⟨(gt_at 653 (by decide +kernel) (by decide +kernel)), (gt_at 86 (by decide +kernel) (by decide +kernel)), ⟨by decide +kernel, by decide +kernel, by decide +kernel⟩, rfl, Or.inr ⟨"CnfCompiler", List.mem_of_getElem? (i := 650) (by decide +kernel)⟩⟩, (gt_at 652 (by decide +kernel) (by decide +kernel)), (gt_at 40 (by decide +kernel) (by decide +kernel))⟩
theorem flX8_209 : FL RX8 209 4 1 := ⟨_, rfl, by decide, Or.inr ⟨"CnfCompiler", List.mem_of_getElem? (i := 144) (by decide +kernel)⟩⟩
theorem clX8_140 : CLv RX8 140 mX3_nodeTotal 0 := ⟨⟨(gt_at 533 (by decide +kernel) (by decide +kernel)), (gt_at 85 (by decide +kernel) (by decide +kernel)), ⟨by decide +kernel, by decide +kernel, by decide +kernel⟩, rfl, Or.inr ⟨"CnfCompiler", List.mem_of_getElem? (i := 530) (by decide +kernel)⟩⟩, (gt_at 532 (by decide +kernel) (by decide +kernel)), (gt_at 29 (by decide +kernel) (by decide +kernel))⟩
theorem clX8_153 : CLv RX8 153 mX3_variableAtRoot 0 := ⟨⟨(gt_at 553 (by decide +kernel) (by decide +kernel)), (gt_at 85 (by decide +kernel) (by decide +kernel)), ⟨by decide +kernel, by decide +kernel, by decide +kernel⟩, rfl, Or.inr ⟨"CnfCompiler", List.mem_of_getElem? (i := 550) (by decide +kernel)⟩⟩, (gt_at 552 (by decide +kernel) (by decide +kernel)), (gt_at 30 (by decide +kernel) (by decide +kernel))⟩
theorem clX8_215 : CLs RX8 215 mX8_isErrorCode 1 := ⟨⟨(gt_at 341 (by decide +kernel) (by decide +kernel)), (gt_at 79 (by decide +kernel) (by decide +kernel)), ⟨by decide +kernel, by decide +kernel, by decide +kernel⟩, rfl, Or.inl (gt_at 339 (by decide +kernel) (by decide +kernel))⟩, (gt_at 340 (by decide +kernel) (by decide +kernel))⟩
theorem flX8_61 : FL RX8 61 8 7 := ⟨_, rfl, by decide, Or.inl (gt_at 298 (by decide +kernel) (by decide +kernel))⟩
theorem flX8_182 : FL RX8 182 1 4 := ⟨_, rfl, by decide, Or.inr ⟨"CnfCompiler", List.mem_of_getElem? (i := 275) (by decide +kernel)⟩⟩
theorem clX8_185 : CLv RX8 185 mX1_explain 3 := ⟨⟨(gt_at 667 (by decide +kernel) (by decide +kernel)), (gt_at 88 (by decide +kernel) (by decide +kernel)), ⟨by decide +kernel, by decide +kernel, by decide +kernel⟩, rfl, Or.inr ⟨"CnfCompiler", List.mem_of_getElem? (i := 664) (by decide +kernel)⟩⟩, (gt_at 666 (by decide +kernel) (by decide +kernel)), (gt_at 41 (by decide +kernel) (by decide +kernel))⟩
theorem flX8_189 : FL RX8 189 1 5 := ⟨_, rfl, by decide, Or.inr ⟨"CnfCompiler", List.mem_of_getElem? (i := 277) (by decide +kernel)⟩⟩
theorem clX8_192 : CLv RX8 192 mX1_literalAt 1 := ⟨⟨(gt_at 684 (by decide +kernel) (by decide +kernel)), (gt_at 88 (by decide +kernel) (by decide +kernel)), ⟨by decide +kernel, by decide +kernel, by decide +kernel⟩, rfl, Or.inr ⟨"CnfCompiler", List.mem_of_getElem? (i := 681) (by decide +kernel)⟩⟩, (gt_at 683 (by decide +kernel) (by decide +kernel)), (gt_at 44 (by decide +kernel) (by decide +kernel))⟩
theorem fpX8_69 : FP RX8 69 8 9 .boolean := ⟨_, rfl, by decide, rfl, by decide +kernel, Or.inl (gt_at 300 (by decide +kernel) (by decide +kernel))⟩
theorem fpX8_73 : FP RX8 73 8 10 .boolean := ⟨_, rfl, by decide, rfl, by decide +kernel, Or.inl (gt_at 301 (by decide +kernel) (by decide +kernel))⟩
theorem clX8_229 : CLv RX8 229 mX1_forget 0 := ⟨⟨(gt_at 377 (by decide +kernel) (by decide +kernel)), (gt_at 88 (by decide +kernel) (by decide +kernel)), ⟨by decide +kernel, by decide +kernel, by decide +kernel⟩, rfl, Or.inr ⟨"CnfCompiler", List.mem_of_getElem? (i := 374) (by decide +kernel)⟩⟩, (gt_at 376 (by decide +kernel) (by decide +kernel)), (gt_at 6 (by decide +kernel) (by decide +kernel))⟩
theorem flX8_69 : FL RX8 69 8 9 := ⟨_, rfl, by decide, Or.inl (gt_at 300 (by decide +kernel) (by decide +kernel))⟩
theorem flX8_40 : FL RX8 40 8 4 := ⟨_, rfl, by decide, Or.inl (gt_at 295 (by decide +kernel) (by decide +kernel))⟩
theorem clX8_232 : CLv RX8 232 mX3_compile 1 := ⟨⟨(gt_at 444 (by decide +kernel) (by decide +kernel)), (gt_at 85 (by decide +kernel) (by decide +kernel)), ⟨by decide +kernel, by decide +kernel, by decide +kernel⟩, rfl, Or.inr ⟨"CnfCompiler", List.mem_of_getElem? (i := 441) (by decide +kernel)⟩⟩, (gt_at 443 (by decide +kernel) (by decide +kernel)), (gt_at 13 (by decide +kernel) (by decide +kernel))⟩
theorem flX8_73 : FL RX8 73 8 10 := ⟨_, rfl, by decide, Or.inl (gt_at 301 (by decide +kernel) (by decide +kernel))⟩
theorem flX8_47 : FL RX8 47 8 5 := ⟨_, rfl, by decide, Or.inl (gt_at 296 (by decide +kernel) (by decide +kernel))⟩
theorem clX8_235 : CLv RX8 235 mX5_fill 1 := ⟨⟨(gt_at 574 (by decide +kernel) (by decide +kernel)), (gt_at 86 (by decide +kernel) (by decide +kernel)), ⟨by decide +kernel, by decide +kernel, by decide +kernel⟩, rfl, Or.inr ⟨"CnfCompiler", List.mem_of_getElem? (i := 571) (by decide +kernel)⟩⟩, (gt_at 573 (by decide +kernel) (by decide +kernel)), (gt_at 33 (by decide +kernel) (by decide +kernel))⟩
theorem clX8_166 : CLv RX8 166 mX5_sizeWith 1 := ⟨⟨(gt_at 609 (by decide +kernel) (by decide +kernel)), (gt_at 86 (by decide +kernel) (by decide +kernel)), ⟨by decide +kernel, by decide +kernel, by decide +kernel⟩, rfl, Or.inr ⟨"CnfCompiler", List.mem_of_getElem? (i := 606) (by decide +kernel)⟩⟩, (gt_at 608 (by decide +kernel) (by decide +kernel)), (gt_at 36 (by decide +kernel) (by decide +kernel))⟩
theorem clX8_3 : Cond.methodLink RX8 3 objectInit ∈ gtbl := (gt_at 101 (by decide +kernel) (by decide +kernel))
theorem nlX8_9 : NL RX8 9 6 [.null, .int 0, .int 0, .null] := ⟨_, tyX6, rfl, tyX6_ok, by decide +kernel, rfl, fun _ => rfl, (gt_at 104 (by decide +kernel) (by decide +kernel)), (gt_at 105 (by decide +kernel) (by decide +kernel)), (gt_at 80 (by decide +kernel) (by decide +kernel))⟩
theorem clX8_11 : CLi RX8 11 mX6_init 0 := ⟨⟨(gt_at 108 (by decide +kernel) (by decide +kernel)), (gt_at 80 (by decide +kernel) (by decide +kernel)), ⟨by decide +kernel, by decide +kernel, by decide +kernel⟩, rfl, Or.inr ⟨"CnfCompiler", List.mem_of_getElem? (i := 106) (by decide +kernel)⟩⟩, (gt_at 107 (by decide +kernel) (by decide +kernel)), rfl, rfl⟩
theorem fpX8_12 : FF RX8 12 8 0 (.object "CnfCompiler$State") := ⟨_, rfl, by decide, rfl, rfl, by decide +kernel, (gt_at 291 (by decide +kernel) (by decide +kernel))⟩
theorem nlX8_16 : NL RX8 16 4 [.null, .int 0] := ⟨_, tyX4, rfl, tyX4_ok, by decide +kernel, rfl, fun _ => rfl, (gt_at 133 (by decide +kernel) (by decide +kernel)), (gt_at 134 (by decide +kernel) (by decide +kernel)), (gt_at 82 (by decide +kernel) (by decide +kernel))⟩
theorem clX8_18 : CLi RX8 18 mX4_init 0 := ⟨⟨(gt_at 137 (by decide +kernel) (by decide +kernel)), (gt_at 82 (by decide +kernel) (by decide +kernel)), ⟨by decide +kernel, by decide +kernel, by decide +kernel⟩, rfl, Or.inr ⟨"CnfCompiler", List.mem_of_getElem? (i := 135) (by decide +kernel)⟩⟩, (gt_at 136 (by decide +kernel) (by decide +kernel)), rfl, rfl⟩
theorem fpX8_19 : FF RX8 19 8 1 (.object "CnfCompiler$History") := ⟨_, rfl, by decide, rfl, rfl, by decide +kernel, (gt_at 292 (by decide +kernel) (by decide +kernel))⟩
theorem nlX8_23 : NL RX8 23 2 [.null, .int 0] := ⟨_, tyX2, rfl, tyX2_ok, by decide +kernel, rfl, fun _ => rfl, (gt_at 150 (by decide +kernel) (by decide +kernel)), (gt_at 151 (by decide +kernel) (by decide +kernel)), (gt_at 83 (by decide +kernel) (by decide +kernel))⟩
theorem clX8_25 : CLi RX8 25 mX2_init 0 := ⟨⟨(gt_at 154 (by decide +kernel) (by decide +kernel)), (gt_at 83 (by decide +kernel) (by decide +kernel)), ⟨by decide +kernel, by decide +kernel, by decide +kernel⟩, rfl, Or.inr ⟨"CnfCompiler", List.mem_of_getElem? (i := 152) (by decide +kernel)⟩⟩, (gt_at 153 (by decide +kernel) (by decide +kernel)), rfl, rfl⟩
theorem fpX8_26 : FF RX8 26 8 2 (.object "CnfCompiler$FormulaText") := ⟨_, rfl, by decide, rfl, rfl, by decide +kernel, (gt_at 293 (by decide +kernel) (by decide +kernel))⟩
theorem nlX8_30 : NL RX8 30 0 [.null, .int 0, .int 0, .int 0, .int 0] := ⟨_, tyX0, rfl, tyX0_ok, by decide +kernel, rfl, fun _ => rfl, (gt_at 165 (by decide +kernel) (by decide +kernel)), (gt_at 166 (by decide +kernel) (by decide +kernel)), (gt_at 84 (by decide +kernel) (by decide +kernel))⟩
theorem clX8_32 : CLi RX8 32 mX0_init 0 := ⟨⟨(gt_at 169 (by decide +kernel) (by decide +kernel)), (gt_at 84 (by decide +kernel) (by decide +kernel)), ⟨by decide +kernel, by decide +kernel, by decide +kernel⟩, rfl, Or.inr ⟨"CnfCompiler", List.mem_of_getElem? (i := 167) (by decide +kernel)⟩⟩, (gt_at 168 (by decide +kernel) (by decide +kernel)), rfl, rfl⟩
theorem fpX8_33 : FF RX8 33 8 3 (.object "CnfCompiler$ClauseReader") := ⟨_, rfl, by decide, rfl, rfl, by decide +kernel, (gt_at 294 (by decide +kernel) (by decide +kernel))⟩
theorem nlX8_37 : NL RX8 37 3 [.null, .null, .null, .null, .null, .null, .int 0, .int 0, .int 0, .int 0, .int 0, .int 0, .int 0] := ⟨_, tyX3, rfl, tyX3_ok, by decide +kernel, rfl, fun _ => rfl, (gt_at 188 (by decide +kernel) (by decide +kernel)), (gt_at 189 (by decide +kernel) (by decide +kernel)), (gt_at 85 (by decide +kernel) (by decide +kernel))⟩
theorem clX8_39 : CLi RX8 39 mX3_init 0 := ⟨⟨(gt_at 192 (by decide +kernel) (by decide +kernel)), (gt_at 85 (by decide +kernel) (by decide +kernel)), ⟨by decide +kernel, by decide +kernel, by decide +kernel⟩, rfl, Or.inr ⟨"CnfCompiler", List.mem_of_getElem? (i := 190) (by decide +kernel)⟩⟩, (gt_at 191 (by decide +kernel) (by decide +kernel)), rfl, rfl⟩
theorem fpX8_40 : FF RX8 40 8 4 (.object "CnfCompiler$Graph") := ⟨_, rfl, by decide, rfl, rfl, by decide +kernel, (gt_at 295 (by decide +kernel) (by decide +kernel))⟩
theorem nlX8_44 : NL RX8 44 5 [.null, .null] := ⟨_, tyX5, rfl, tyX5_ok, by decide +kernel, rfl, fun _ => rfl, (gt_at 237 (by decide +kernel) (by decide +kernel)), (gt_at 238 (by decide +kernel) (by decide +kernel)), (gt_at 86 (by decide +kernel) (by decide +kernel))⟩
theorem clX8_46 : CLi RX8 46 mX5_init 0 := ⟨⟨(gt_at 241 (by decide +kernel) (by decide +kernel)), (gt_at 86 (by decide +kernel) (by decide +kernel)), ⟨by decide +kernel, by decide +kernel, by decide +kernel⟩, rfl, Or.inr ⟨"CnfCompiler", List.mem_of_getElem? (i := 239) (by decide +kernel)⟩⟩, (gt_at 240 (by decide +kernel) (by decide +kernel)), rfl, rfl⟩
theorem fpX8_47 : FF RX8 47 8 5 (.object "CnfCompiler$ModelSet") := ⟨_, rfl, by decide, rfl, rfl, by decide +kernel, (gt_at 296 (by decide +kernel) (by decide +kernel))⟩
theorem nlX8_51 : NL RX8 51 7 [.null, .null] := ⟨_, tyX7, rfl, tyX7_ok, by decide +kernel, rfl, fun _ => rfl, (gt_at 251 (by decide +kernel) (by decide +kernel)), (gt_at 252 (by decide +kernel) (by decide +kernel)), (gt_at 87 (by decide +kernel) (by decide +kernel))⟩
theorem clX8_53 : CLi RX8 53 mX7_init 0 := ⟨⟨(gt_at 255 (by decide +kernel) (by decide +kernel)), (gt_at 87 (by decide +kernel) (by decide +kernel)), ⟨by decide +kernel, by decide +kernel, by decide +kernel⟩, rfl, Or.inr ⟨"CnfCompiler", List.mem_of_getElem? (i := 253) (by decide +kernel)⟩⟩, (gt_at 254 (by decide +kernel) (by decide +kernel)), rfl, rfl⟩
theorem fpX8_54 : FF RX8 54 8 6 (.object "CnfCompiler$WeightedSum") := ⟨_, rfl, by decide, rfl, rfl, by decide +kernel, (gt_at 297 (by decide +kernel) (by decide +kernel))⟩
theorem nlX8_58 : NL RX8 58 1 [.null, .null, .null, .int 0, .int 0, .int 0] := ⟨_, tyX1, rfl, tyX1_ok, by decide +kernel, rfl, fun _ => rfl, (gt_at 264 (by decide +kernel) (by decide +kernel)), (gt_at 265 (by decide +kernel) (by decide +kernel)), (gt_at 88 (by decide +kernel) (by decide +kernel))⟩
theorem clX8_60 : CLi RX8 60 mX1_init 0 := ⟨⟨(gt_at 268 (by decide +kernel) (by decide +kernel)), (gt_at 88 (by decide +kernel) (by decide +kernel)), ⟨by decide +kernel, by decide +kernel, by decide +kernel⟩, rfl, Or.inr ⟨"CnfCompiler", List.mem_of_getElem? (i := 266) (by decide +kernel)⟩⟩, (gt_at 267 (by decide +kernel) (by decide +kernel)), rfl, rfl⟩
theorem fpX8_61 : FF RX8 61 8 7 (.object "CnfCompiler$Explainer") := ⟨_, rfl, by decide, rfl, rfl, by decide +kernel, (gt_at 298 (by decide +kernel) (by decide +kernel))⟩
theorem fpX8_65 : FF RX8 65 8 8 (.array .int) := ⟨_, rfl, by decide, rfl, rfl, by decide +kernel, (gt_at 299 (by decide +kernel) (by decide +kernel))⟩
theorem kcX8_238 : Cond.constant RX8 238 (1398100) ∈ gtbl := (gt_at 416 (by decide +kernel) (by decide +kernel))
theorem flX8_33 : FL RX8 33 8 3 := ⟨_, rfl, by decide, Or.inl (gt_at 294 (by decide +kernel) (by decide +kernel))⟩
theorem clX8_201 : CLv RX8 201 mX0_read 2 := ⟨⟨(gt_at 707 (by decide +kernel) (by decide +kernel)), (gt_at 84 (by decide +kernel) (by decide +kernel)), ⟨by decide +kernel, by decide +kernel, by decide +kernel⟩, rfl, Or.inr ⟨"CnfCompiler", List.mem_of_getElem? (i := 704) (by decide +kernel)⟩⟩, (gt_at 706 (by decide +kernel) (by decide +kernel)), (gt_at 46 (by decide +kernel) (by decide +kernel))⟩
theorem flX8_205 : FL RX8 205 0 1 := ⟨_, rfl, by decide, Or.inr ⟨"CnfCompiler", List.mem_of_getElem? (i := 173) (by decide +kernel)⟩⟩
theorem clX8_208 : CLv RX8 208 mX0_clauseAt 1 := ⟨⟨(gt_at 741 (by decide +kernel) (by decide +kernel)), (gt_at 84 (by decide +kernel) (by decide +kernel)), ⟨by decide +kernel, by decide +kernel, by decide +kernel⟩, rfl, Or.inr ⟨"CnfCompiler", List.mem_of_getElem? (i := 738) (by decide +kernel)⟩⟩, (gt_at 740 (by decide +kernel) (by decide +kernel)), (gt_at 52 (by decide +kernel) (by decide +kernel))⟩
theorem clX8_112 : CLv RX8 112 mX6_deleteClause 1 := ⟨⟨(gt_at 389 (by decide +kernel) (by decide +kernel)), (gt_at 80 (by decide +kernel) (by decide +kernel)), ⟨by decide +kernel, by decide +kernel, by decide +kernel⟩, rfl, Or.inr ⟨"CnfCompiler", List.mem_of_getElem? (i := 386) (by decide +kernel)⟩⟩, (gt_at 388 (by decide +kernel) (by decide +kernel)), (gt_at 8 (by decide +kernel) (by decide +kernel))⟩
theorem clX8_132 : CLv RX8 132 mX6_replaceWeight 2 := ⟨⟨(gt_at 428 (by decide +kernel) (by decide +kernel)), (gt_at 80 (by decide +kernel) (by decide +kernel)), ⟨by decide +kernel, by decide +kernel, by decide +kernel⟩, rfl, Or.inr ⟨"CnfCompiler", List.mem_of_getElem? (i := 425) (by decide +kernel)⟩⟩, (gt_at 427 (by decide +kernel) (by decide +kernel)), (gt_at 10 (by decide +kernel) (by decide +kernel))⟩
theorem clX8_173 : CLv RX8 173 mX8_models 0 := ⟨⟨(gt_at 566 (by decide +kernel) (by decide +kernel)), (gt_at 79 (by decide +kernel) (by decide +kernel)), ⟨by decide +kernel, by decide +kernel, by decide +kernel⟩, rfl, Or.inl (gt_at 634 (by decide +kernel) (by decide +kernel))⟩, (gt_at 564 (by decide +kernel) (by decide +kernel)), (gt_at 565 (by decide +kernel) (by decide +kernel))⟩
theorem clX8_176 : CLs RX8 176 mX8_bitsOfShare 1 := ⟨⟨(gt_at 637 (by decide +kernel) (by decide +kernel)), (gt_at 79 (by decide +kernel) (by decide +kernel)), ⟨by decide +kernel, by decide +kernel, by decide +kernel⟩, rfl, Or.inl (gt_at 635 (by decide +kernel) (by decide +kernel))⟩, (gt_at 636 (by decide +kernel) (by decide +kernel))⟩
theorem clX8_212 : CLv RX8 212 mX4_restoreInto 1 := ⟨⟨(gt_at 749 (by decide +kernel) (by decide +kernel)), (gt_at 82 (by decide +kernel) (by decide +kernel)), ⟨by decide +kernel, by decide +kernel, by decide +kernel⟩, rfl, Or.inr ⟨"CnfCompiler", List.mem_of_getElem? (i := 746) (by decide +kernel)⟩⟩, (gt_at 748 (by decide +kernel) (by decide +kernel)), (gt_at 53 (by decide +kernel) (by decide +kernel))⟩
theorem kcX9_65 : Cond.constantLong RX9 65 (-10) ∈ gtbl := (gt_at 874 (by decide +kernel) (by decide +kernel))
theorem kcX9_67 : Cond.constantLong RX9 67 (10) ∈ gtbl := (gt_at 875 (by decide +kernel) (by decide +kernel))
theorem clX9_69 : CLs RX9 69 mX9_in 3 := ⟨⟨(gt_at 878 (by decide +kernel) (by decide +kernel)), (gt_at 89 (by decide +kernel) (by decide +kernel)), ⟨by decide +kernel, by decide +kernel, by decide +kernel⟩, rfl, Or.inl (gt_at 876 (by decide +kernel) (by decide +kernel))⟩, (gt_at 877 (by decide +kernel) (by decide +kernel))⟩
theorem clX9_84 : CLv RX9 84 mX9_err 1 := ⟨⟨(gt_at 869 (by decide +kernel) (by decide +kernel)), (gt_at 89 (by decide +kernel) (by decide +kernel)), ⟨by decide +kernel, by decide +kernel, by decide +kernel⟩, rfl, Or.inl (gt_at 866 (by decide +kernel) (by decide +kernel))⟩, (gt_at 868 (by decide +kernel) (by decide +kernel)), (gt_at 54 (by decide +kernel) (by decide +kernel))⟩
theorem clX9_88 : CLs RX9 88 mX9_bitOf 1 := ⟨⟨(gt_at 881 (by decide +kernel) (by decide +kernel)), (gt_at 89 (by decide +kernel) (by decide +kernel)), ⟨by decide +kernel, by decide +kernel, by decide +kernel⟩, rfl, Or.inl (gt_at 879 (by decide +kernel) (by decide +kernel))⟩, (gt_at 880 (by decide +kernel) (by decide +kernel))⟩
theorem clX9_91 : CLs RX9 91 mX9_variables 1 := ⟨⟨(gt_at 884 (by decide +kernel) (by decide +kernel)), (gt_at 89 (by decide +kernel) (by decide +kernel)), ⟨by decide +kernel, by decide +kernel, by decide +kernel⟩, rfl, Or.inl (gt_at 882 (by decide +kernel) (by decide +kernel))⟩, (gt_at 883 (by decide +kernel) (by decide +kernel))⟩
theorem flX9_7 : FL RX9 7 9 0 := ⟨_, rfl, by decide, Or.inl (gt_at 771 (by decide +kernel) (by decide +kernel))⟩
theorem clX9_94 : CLv RX9 94 mX9_saves 0 := ⟨⟨(gt_at 888 (by decide +kernel) (by decide +kernel)), (gt_at 89 (by decide +kernel) (by decide +kernel)), ⟨by decide +kernel, by decide +kernel, by decide +kernel⟩, rfl, Or.inl (gt_at 885 (by decide +kernel) (by decide +kernel))⟩, (gt_at 887 (by decide +kernel) (by decide +kernel)), (gt_at 55 (by decide +kernel) (by decide +kernel))⟩
theorem clX9_166 : CLv RX9 166 mX9_manyOf 1 := ⟨⟨(gt_at 981 (by decide +kernel) (by decide +kernel)), (gt_at 89 (by decide +kernel) (by decide +kernel)), ⟨by decide +kernel, by decide +kernel, by decide +kernel⟩, rfl, Or.inl (gt_at 978 (by decide +kernel) (by decide +kernel))⟩, (gt_at 980 (by decide +kernel) (by decide +kernel)), (gt_at 67 (by decide +kernel) (by decide +kernel))⟩
theorem kcX9_217 : Cond.constantLong RX9 217 (127) ∈ gtbl := (gt_at 1078 (by decide +kernel) (by decide +kernel))
theorem flX9_219 : FL RX9 219 9 5 := ⟨_, rfl, by decide, Or.inl (gt_at 776 (by decide +kernel) (by decide +kernel))⟩
theorem flX9_19 : FL RX9 19 9 4 := ⟨_, rfl, by decide, Or.inl (gt_at 775 (by decide +kernel) (by decide +kernel))⟩
theorem fpX9_219 : FP RX9 219 9 5 .int := ⟨_, rfl, by decide, rfl, by decide +kernel, Or.inl (gt_at 776 (by decide +kernel) (by decide +kernel))⟩
theorem clX9_104 : CLs RX9 104 mX9_isLiteral 1 := ⟨⟨(gt_at 914 (by decide +kernel) (by decide +kernel)), (gt_at 89 (by decide +kernel) (by decide +kernel)), ⟨by decide +kernel, by decide +kernel, by decide +kernel⟩, rfl, Or.inl (gt_at 912 (by decide +kernel) (by decide +kernel))⟩, (gt_at 913 (by decide +kernel) (by decide +kernel))⟩
theorem clX9_107 : CLv RX9 107 mX9_assumed 0 := ⟨⟨(gt_at 918 (by decide +kernel) (by decide +kernel)), (gt_at 89 (by decide +kernel) (by decide +kernel)), ⟨by decide +kernel, by decide +kernel, by decide +kernel⟩, rfl, Or.inl (gt_at 915 (by decide +kernel) (by decide +kernel))⟩, (gt_at 917 (by decide +kernel) (by decide +kernel)), (gt_at 57 (by decide +kernel) (by decide +kernel))⟩
theorem clX9_101 : CLs RX9 101 mX9_ones 1 := ⟨⟨(gt_at 907 (by decide +kernel) (by decide +kernel)), (gt_at 89 (by decide +kernel) (by decide +kernel)), ⟨by decide +kernel, by decide +kernel, by decide +kernel⟩, rfl, Or.inl (gt_at 905 (by decide +kernel) (by decide +kernel))⟩, (gt_at 906 (by decide +kernel) (by decide +kernel))⟩
theorem clX9_151 : CLv RX9 151 mX9_enters 1 := ⟨⟨(gt_at 950 (by decide +kernel) (by decide +kernel)), (gt_at 89 (by decide +kernel) (by decide +kernel)), ⟨by decide +kernel, by decide +kernel, by decide +kernel⟩, rfl, Or.inl (gt_at 947 (by decide +kernel) (by decide +kernel))⟩, (gt_at 949 (by decide +kernel) (by decide +kernel)), (gt_at 61 (by decide +kernel) (by decide +kernel))⟩
theorem flX9_56 : FL RX9 56 9 23 := ⟨_, rfl, by decide, Or.inl (gt_at 794 (by decide +kernel) (by decide +kernel))⟩
theorem flX9_34 : FL RX9 34 9 11 := ⟨_, rfl, by decide, Or.inl (gt_at 782 (by decide +kernel) (by decide +kernel))⟩
theorem clX9_154 : CLv RX9 154 mX9_goesDeeper 1 := ⟨⟨(gt_at 969 (by decide +kernel) (by decide +kernel)), (gt_at 89 (by decide +kernel) (by decide +kernel)), ⟨by decide +kernel, by decide +kernel, by decide +kernel⟩, rfl, Or.inl (gt_at 966 (by decide +kernel) (by decide +kernel))⟩, (gt_at 968 (by decide +kernel) (by decide +kernel)), (gt_at 65 (by decide +kernel) (by decide +kernel))⟩
theorem flX9_50 : FL RX9 50 9 21 := ⟨_, rfl, by decide, Or.inl (gt_at 792 (by decide +kernel) (by decide +kernel))⟩
theorem clX9_97 : CLv RX9 97 mX9_isClause 1 := ⟨⟨(gt_at 896 (by decide +kernel) (by decide +kernel)), (gt_at 89 (by decide +kernel) (by decide +kernel)), ⟨by decide +kernel, by decide +kernel, by decide +kernel⟩, rfl, Or.inl (gt_at 893 (by decide +kernel) (by decide +kernel))⟩, (gt_at 895 (by decide +kernel) (by decide +kernel)), (gt_at 56 (by decide +kernel) (by decide +kernel))⟩
theorem flX9_77 : FL RX9 77 9 6 := ⟨_, rfl, by decide, Or.inl (gt_at 777 (by decide +kernel) (by decide +kernel))⟩
theorem fpX9_77 : FP RX9 77 9 6 .boolean := ⟨_, rfl, by decide, rfl, by decide +kernel, Or.inl (gt_at 777 (by decide +kernel) (by decide +kernel))⟩
theorem flX9_41 : FL RX9 41 9 13 := ⟨_, rfl, by decide, Or.inl (gt_at 784 (by decide +kernel) (by decide +kernel))⟩
theorem fpX9_135 : FP RX9 135 9 14 .int := ⟨_, rfl, by decide, rfl, by decide +kernel, Or.inl (gt_at 785 (by decide +kernel) (by decide +kernel))⟩
theorem fpX9_138 : FP RX9 138 9 15 .int := ⟨_, rfl, by decide, rfl, by decide +kernel, Or.inl (gt_at 786 (by decide +kernel) (by decide +kernel))⟩
theorem fpX9_129 : FP RX9 129 9 16 .boolean := ⟨_, rfl, by decide, rfl, by decide +kernel, Or.inl (gt_at 787 (by decide +kernel) (by decide +kernel))⟩
theorem fpX9_126 : FP RX9 126 9 17 .boolean := ⟨_, rfl, by decide, rfl, by decide +kernel, Or.inl (gt_at 788 (by decide +kernel) (by decide +kernel))⟩
theorem flX9_47 : FL RX9 47 9 20 := ⟨_, rfl, by decide, Or.inl (gt_at 791 (by decide +kernel) (by decide +kernel))⟩
theorem clX9_122 : CLv RX9 122 mX9_puts 2 := ⟨⟨(gt_at 942 (by decide +kernel) (by decide +kernel)), (gt_at 89 (by decide +kernel) (by decide +kernel)), ⟨by decide +kernel, by decide +kernel, by decide +kernel⟩, rfl, Or.inl (gt_at 939 (by decide +kernel) (by decide +kernel))⟩, (gt_at 941 (by decide +kernel) (by decide +kernel)), (gt_at 59 (by decide +kernel) (by decide +kernel))⟩
theorem clX9_157 : CLv RX9 157 mX9_builds 0 := ⟨⟨(gt_at 946 (by decide +kernel) (by decide +kernel)), (gt_at 89 (by decide +kernel) (by decide +kernel)), ⟨by decide +kernel, by decide +kernel, by decide +kernel⟩, rfl, Or.inl (gt_at 943 (by decide +kernel) (by decide +kernel))⟩, (gt_at 945 (by decide +kernel) (by decide +kernel)), (gt_at 60 (by decide +kernel) (by decide +kernel))⟩
theorem fpX9_160 : FP RX9 160 9 18 .int := ⟨_, rfl, by decide, rfl, by decide +kernel, Or.inl (gt_at 789 (by decide +kernel) (by decide +kernel))⟩
theorem clX9_163 : CLv RX9 163 mX9_compiles 0 := ⟨⟨(gt_at 938 (by decide +kernel) (by decide +kernel)), (gt_at 89 (by decide +kernel) (by decide +kernel)), ⟨by decide +kernel, by decide +kernel, by decide +kernel⟩, rfl, Or.inl (gt_at 935 (by decide +kernel) (by decide +kernel))⟩, (gt_at 937 (by decide +kernel) (by decide +kernel)), (gt_at 58 (by decide +kernel) (by decide +kernel))⟩
theorem flX9_160 : FL RX9 160 9 18 := ⟨_, rfl, by decide, Or.inl (gt_at 789 (by decide +kernel) (by decide +kernel))⟩
theorem flX9_31 : FL RX9 31 9 10 := ⟨_, rfl, by decide, Or.inl (gt_at 781 (by decide +kernel) (by decide +kernel))⟩
theorem flX9_44 : FL RX9 44 9 19 := ⟨_, rfl, by decide, Or.inl (gt_at 790 (by decide +kernel) (by decide +kernel))⟩
theorem kcX9_250 : Cond.constantLong RX9 250 (2671) ∈ gtbl := (gt_at 1114 (by decide +kernel) (by decide +kernel))
theorem flX9_16 : FL RX9 16 9 3 := ⟨_, rfl, by decide, Or.inl (gt_at 774 (by decide +kernel) (by decide +kernel))⟩
theorem clX9_252 : CLs RX9 252 mX9_mixed 2 := ⟨⟨(gt_at 1117 (by decide +kernel) (by decide +kernel)), (gt_at 89 (by decide +kernel) (by decide +kernel)), ⟨by decide +kernel, by decide +kernel, by decide +kernel⟩, rfl, Or.inl (gt_at 1115 (by decide +kernel) (by decide +kernel))⟩, (gt_at 1116 (by decide +kernel) (by decide +kernel))⟩
theorem clX9_256 : CLv RX9 256 mX9_nodes 0 := ⟨⟨(gt_at 934 (by decide +kernel) (by decide +kernel)), (gt_at 89 (by decide +kernel) (by decide +kernel)), ⟨by decide +kernel, by decide +kernel, by decide +kernel⟩, rfl, Or.inl (gt_at 1119 (by decide +kernel) (by decide +kernel))⟩, (gt_at 932 (by decide +kernel) (by decide +kernel)), (gt_at 933 (by decide +kernel) (by decide +kernel))⟩
theorem clX9_259 : CLv RX9 259 mX9_decisionNodes 0 := ⟨⟨(gt_at 977 (by decide +kernel) (by decide +kernel)), (gt_at 89 (by decide +kernel) (by decide +kernel)), ⟨by decide +kernel, by decide +kernel, by decide +kernel⟩, rfl, Or.inl (gt_at 1120 (by decide +kernel) (by decide +kernel))⟩, (gt_at 975 (by decide +kernel) (by decide +kernel)), (gt_at 976 (by decide +kernel) (by decide +kernel))⟩
theorem clX9_262 : CLv RX9 262 mX9_andNodes 0 := ⟨⟨(gt_at 985 (by decide +kernel) (by decide +kernel)), (gt_at 89 (by decide +kernel) (by decide +kernel)), ⟨by decide +kernel, by decide +kernel, by decide +kernel⟩, rfl, Or.inl (gt_at 1121 (by decide +kernel) (by decide +kernel))⟩, (gt_at 983 (by decide +kernel) (by decide +kernel)), (gt_at 984 (by decide +kernel) (by decide +kernel))⟩
theorem clX9_265 : CLv RX9 265 mX9_depth 0 := ⟨⟨(gt_at 989 (by decide +kernel) (by decide +kernel)), (gt_at 89 (by decide +kernel) (by decide +kernel)), ⟨by decide +kernel, by decide +kernel, by decide +kernel⟩, rfl, Or.inl (gt_at 1122 (by decide +kernel) (by decide +kernel))⟩, (gt_at 987 (by decide +kernel) (by decide +kernel)), (gt_at 988 (by decide +kernel) (by decide +kernel))⟩
theorem clX9_268 : CLv RX9 268 mX9_rootVariable 0 := ⟨⟨(gt_at 993 (by decide +kernel) (by decide +kernel)), (gt_at 89 (by decide +kernel) (by decide +kernel)), ⟨by decide +kernel, by decide +kernel, by decide +kernel⟩, rfl, Or.inl (gt_at 1123 (by decide +kernel) (by decide +kernel))⟩, (gt_at 991 (by decide +kernel) (by decide +kernel)), (gt_at 992 (by decide +kernel) (by decide +kernel))⟩
theorem clX9_271 : CLv RX9 271 mX9_components 0 := ⟨⟨(gt_at 997 (by decide +kernel) (by decide +kernel)), (gt_at 89 (by decide +kernel) (by decide +kernel)), ⟨by decide +kernel, by decide +kernel, by decide +kernel⟩, rfl, Or.inl (gt_at 1124 (by decide +kernel) (by decide +kernel))⟩, (gt_at 995 (by decide +kernel) (by decide +kernel)), (gt_at 996 (by decide +kernel) (by decide +kernel))⟩
theorem clX9_182 : CLv RX9 182 mX9_models 0 := ⟨⟨(gt_at 1001 (by decide +kernel) (by decide +kernel)), (gt_at 89 (by decide +kernel) (by decide +kernel)), ⟨by decide +kernel, by decide +kernel, by decide +kernel⟩, rfl, Or.inl (gt_at 1026 (by decide +kernel) (by decide +kernel))⟩, (gt_at 999 (by decide +kernel) (by decide +kernel)), (gt_at 1000 (by decide +kernel) (by decide +kernel))⟩
theorem clX9_274 : CLv RX9 274 mX9_weightedCount 0 := ⟨⟨(gt_at 1021 (by decide +kernel) (by decide +kernel)), (gt_at 89 (by decide +kernel) (by decide +kernel)), ⟨by decide +kernel, by decide +kernel, by decide +kernel⟩, rfl, Or.inl (gt_at 1125 (by decide +kernel) (by decide +kernel))⟩, (gt_at 1019 (by decide +kernel) (by decide +kernel)), (gt_at 1020 (by decide +kernel) (by decide +kernel))⟩
theorem clX9_278 : CLv RX9 278 mX9_leastModel 0 := ⟨⟨(gt_at 1045 (by decide +kernel) (by decide +kernel)), (gt_at 89 (by decide +kernel) (by decide +kernel)), ⟨by decide +kernel, by decide +kernel, by decide +kernel⟩, rfl, Or.inl (gt_at 1126 (by decide +kernel) (by decide +kernel))⟩, (gt_at 1043 (by decide +kernel) (by decide +kernel)), (gt_at 1044 (by decide +kernel) (by decide +kernel))⟩
theorem flX9_73 : FL RX9 73 9 2 := ⟨_, rfl, by decide, Or.inl (gt_at 773 (by decide +kernel) (by decide +kernel))⟩
theorem clX9_132 : CLv RX9 132 mX9_finds 1 := ⟨⟨(gt_at 954 (by decide +kernel) (by decide +kernel)), (gt_at 89 (by decide +kernel) (by decide +kernel)), ⟨by decide +kernel, by decide +kernel, by decide +kernel⟩, rfl, Or.inl (gt_at 951 (by decide +kernel) (by decide +kernel))⟩, (gt_at 953 (by decide +kernel) (by decide +kernel)), (gt_at 62 (by decide +kernel) (by decide +kernel))⟩
theorem flX9_135 : FL RX9 135 9 14 := ⟨_, rfl, by decide, Or.inl (gt_at 785 (by decide +kernel) (by decide +kernel))⟩
theorem flX9_22 : FL RX9 22 9 7 := ⟨_, rfl, by decide, Or.inl (gt_at 778 (by decide +kernel) (by decide +kernel))⟩
theorem flX9_138 : FL RX9 138 9 15 := ⟨_, rfl, by decide, Or.inl (gt_at 786 (by decide +kernel) (by decide +kernel))⟩
theorem flX9_25 : FL RX9 25 9 8 := ⟨_, rfl, by decide, Or.inl (gt_at 779 (by decide +kernel) (by decide +kernel))⟩
theorem flX9_38 : FL RX9 38 9 12 := ⟨_, rfl, by decide, Or.inl (gt_at 783 (by decide +kernel) (by decide +kernel))⟩
theorem flX9_28 : FL RX9 28 9 9 := ⟨_, rfl, by decide, Or.inl (gt_at 780 (by decide +kernel) (by decide +kernel))⟩
theorem clX9_141 : CLv RX9 141 mX9_connected 2 := ⟨⟨(gt_at 961 (by decide +kernel) (by decide +kernel)), (gt_at 89 (by decide +kernel) (by decide +kernel)), ⟨by decide +kernel, by decide +kernel, by decide +kernel⟩, rfl, Or.inl (gt_at 958 (by decide +kernel) (by decide +kernel))⟩, (gt_at 960 (by decide +kernel) (by decide +kernel)), (gt_at 63 (by decide +kernel) (by decide +kernel))⟩
theorem clX9_145 : CLv RX9 145 mX9_deciding 1 := ⟨⟨(gt_at 965 (by decide +kernel) (by decide +kernel)), (gt_at 89 (by decide +kernel) (by decide +kernel)), ⟨by decide +kernel, by decide +kernel, by decide +kernel⟩, rfl, Or.inl (gt_at 962 (by decide +kernel) (by decide +kernel))⟩, (gt_at 964 (by decide +kernel) (by decide +kernel)), (gt_at 64 (by decide +kernel) (by decide +kernel))⟩
theorem flX9_53 : FL RX9 53 9 22 := ⟨_, rfl, by decide, Or.inl (gt_at 793 (by decide +kernel) (by decide +kernel))⟩
theorem kcX9_244 : Cond.constantLong RX9 244 (-5) ∈ gtbl := (gt_at 1108 (by decide +kernel) (by decide +kernel))
theorem kcX9_246 : Cond.constantLong RX9 246 (-2) ∈ gtbl := (gt_at 1109 (by decide +kernel) (by decide +kernel))
theorem clX9_195 : CLv RX9 195 mX9_explains 2 := ⟨⟨(gt_at 1059 (by decide +kernel) (by decide +kernel)), (gt_at 89 (by decide +kernel) (by decide +kernel)), ⟨by decide +kernel, by decide +kernel, by decide +kernel⟩, rfl, Or.inl (gt_at 1056 (by decide +kernel) (by decide +kernel))⟩, (gt_at 1058 (by decide +kernel) (by decide +kernel)), (gt_at 72 (by decide +kernel) (by decide +kernel))⟩
theorem clX9_192 : CLs RX9 192 mX9_literalBy 1 := ⟨⟨(gt_at 1062 (by decide +kernel) (by decide +kernel)), (gt_at 89 (by decide +kernel) (by decide +kernel)), ⟨by decide +kernel, by decide +kernel, by decide +kernel⟩, rfl, Or.inl (gt_at 1060 (by decide +kernel) (by decide +kernel))⟩, (gt_at 1061 (by decide +kernel) (by decide +kernel))⟩
theorem clX9_199 : CLv RX9 199 mX9_mayBe 3 := ⟨⟨(gt_at 1066 (by decide +kernel) (by decide +kernel)), (gt_at 89 (by decide +kernel) (by decide +kernel)), ⟨by decide +kernel, by decide +kernel, by decide +kernel⟩, rfl, Or.inl (gt_at 1063 (by decide +kernel) (by decide +kernel))⟩, (gt_at 1065 (by decide +kernel) (by decide +kernel)), (gt_at 73 (by decide +kernel) (by decide +kernel))⟩
theorem kcX9_203 : Cond.constant RX9 203 (100000) ∈ gtbl := (gt_at 1067 (by decide +kernel) (by decide +kernel))
theorem clX9_204 : CLv RX9 204 mX9_explainedFrom 4 := ⟨⟨(gt_at 1071 (by decide +kernel) (by decide +kernel)), (gt_at 89 (by decide +kernel) (by decide +kernel)), ⟨by decide +kernel, by decide +kernel, by decide +kernel⟩, rfl, Or.inl (gt_at 1068 (by decide +kernel) (by decide +kernel))⟩, (gt_at 1070 (by decide +kernel) (by decide +kernel)), (gt_at 74 (by decide +kernel) (by decide +kernel))⟩
theorem kcX9_208 : Cond.constant RX9 208 (200000) ∈ gtbl := (gt_at 1072 (by decide +kernel) (by decide +kernel))
theorem kcX9_209 : Cond.constant RX9 209 (300000) ∈ gtbl := (gt_at 1073 (by decide +kernel) (by decide +kernel))
theorem clX9_179 : CLv RX9 179 mX9_modelsBy 1 := ⟨⟨(gt_at 1005 (by decide +kernel) (by decide +kernel)), (gt_at 89 (by decide +kernel) (by decide +kernel)), ⟨by decide +kernel, by decide +kernel, by decide +kernel⟩, rfl, Or.inl (gt_at 1002 (by decide +kernel) (by decide +kernel))⟩, (gt_at 1004 (by decide +kernel) (by decide +kernel)), (gt_at 68 (by decide +kernel) (by decide +kernel))⟩
theorem kcX9_210 : Cond.constantLong RX9 210 (-1) ∈ gtbl := (gt_at 1050 (by decide +kernel) (by decide +kernel))
theorem kcX9_212 : Cond.constantLong RX9 212 (2) ∈ gtbl := (gt_at 1051 (by decide +kernel) (by decide +kernel))
theorem clX9_214 : CLv RX9 214 mX9_explained 1 := ⟨⟨(gt_at 1055 (by decide +kernel) (by decide +kernel)), (gt_at 89 (by decide +kernel) (by decide +kernel)), ⟨by decide +kernel, by decide +kernel, by decide +kernel⟩, rfl, Or.inl (gt_at 1052 (by decide +kernel) (by decide +kernel))⟩, (gt_at 1054 (by decide +kernel) (by decide +kernel)), (gt_at 71 (by decide +kernel) (by decide +kernel))⟩
theorem kcX9_116 : Cond.constantLong RX9 116 (1048583) ∈ gtbl := (gt_at 955 (by decide +kernel) (by decide +kernel))
theorem kcX9_118 : Cond.constantLong RX9 118 (2147483647) ∈ gtbl := (gt_at 956 (by decide +kernel) (by decide +kernel))
theorem kcX9_120 : Cond.constantLong RX9 120 (16384) ∈ gtbl := (gt_at 957 (by decide +kernel) (by decide +kernel))
theorem clX9_148 : CLv RX9 148 mX9_sets 2 := ⟨⟨(gt_at 973 (by decide +kernel) (by decide +kernel)), (gt_at 89 (by decide +kernel) (by decide +kernel)), ⟨by decide +kernel, by decide +kernel, by decide +kernel⟩, rfl, Or.inl (gt_at 970 (by decide +kernel) (by decide +kernel))⟩, (gt_at 972 (by decide +kernel) (by decide +kernel)), (gt_at 66 (by decide +kernel) (by decide +kernel))⟩
theorem clX9_173 : CLv RX9 173 mX9_isModel 1 := ⟨⟨(gt_at 1013 (by decide +kernel) (by decide +kernel)), (gt_at 89 (by decide +kernel) (by decide +kernel)), ⟨by decide +kernel, by decide +kernel, by decide +kernel⟩, rfl, Or.inl (gt_at 1010 (by decide +kernel) (by decide +kernel))⟩, (gt_at 1012 (by decide +kernel) (by decide +kernel)), (gt_at 70 (by decide +kernel) (by decide +kernel))⟩
theorem clX9_1 : Cond.methodLink RX9 1 objectInit ∈ gtbl := (gt_at 769 (by decide +kernel) (by decide +kernel))
theorem fpX9_7 : FF RX9 7 9 0 (.array .int) := ⟨_, rfl, by decide, rfl, rfl, by decide +kernel, (gt_at 771 (by decide +kernel) (by decide +kernel))⟩
theorem fpX9_13 : FF RX9 13 9 1 (.array .int) := ⟨_, rfl, by decide, rfl, rfl, by decide +kernel, (gt_at 772 (by decide +kernel) (by decide +kernel))⟩
theorem fpX9_16 : FF RX9 16 9 3 (.array .int) := ⟨_, rfl, by decide, rfl, rfl, by decide +kernel, (gt_at 774 (by decide +kernel) (by decide +kernel))⟩
theorem fpX9_19 : FF RX9 19 9 4 (.array .int) := ⟨_, rfl, by decide, rfl, rfl, by decide +kernel, (gt_at 775 (by decide +kernel) (by decide +kernel))⟩
theorem fpX9_22 : FF RX9 22 9 7 (.array .int) := ⟨_, rfl, by decide, rfl, rfl, by decide +kernel, (gt_at 778 (by decide +kernel) (by decide +kernel))⟩
theorem fpX9_25 : FF RX9 25 9 8 (.array .int) := ⟨_, rfl, by decide, rfl, rfl, by decide +kernel, (gt_at 779 (by decide +kernel) (by decide +kernel))⟩
theorem fpX9_28 : FF RX9 28 9 9 (.array .int) := ⟨_, rfl, by decide, rfl, rfl, by decide +kernel, (gt_at 780 (by decide +kernel) (by decide +kernel))⟩
theorem fpX9_31 : FF RX9 31 9 10 (.array .int) := ⟨_, rfl, by decide, rfl, rfl, by decide +kernel, (gt_at 781 (by decide +kernel) (by decide +kernel))⟩
theorem fpX9_34 : FF RX9 34 9 11 (.array .int) := ⟨_, rfl, by decide, rfl, rfl, by decide +kernel, (gt_at 782 (by decide +kernel) (by decide +kernel))⟩
theorem kcX9_37 : Cond.constant RX9 37 (65536) ∈ gtbl := (gt_at 770 (by decide +kernel) (by decide +kernel))
theorem fpX9_38 : FF RX9 38 9 12 (.array .int) := ⟨_, rfl, by decide, rfl, rfl, by decide +kernel, (gt_at 783 (by decide +kernel) (by decide +kernel))⟩
theorem fpX9_41 : FF RX9 41 9 13 (.array .int) := ⟨_, rfl, by decide, rfl, rfl, by decide +kernel, (gt_at 784 (by decide +kernel) (by decide +kernel))⟩
theorem fpX9_44 : FF RX9 44 9 19 (.array .int) := ⟨_, rfl, by decide, rfl, rfl, by decide +kernel, (gt_at 790 (by decide +kernel) (by decide +kernel))⟩
theorem fpX9_47 : FF RX9 47 9 20 (.array .int) := ⟨_, rfl, by decide, rfl, rfl, by decide +kernel, (gt_at 791 (by decide +kernel) (by decide +kernel))⟩
theorem fpX9_50 : FF RX9 50 9 21 (.array .int) := ⟨_, rfl, by decide, rfl, rfl, by decide +kernel, (gt_at 792 (by decide +kernel) (by decide +kernel))⟩
theorem fpX9_53 : FF RX9 53 9 22 (.array .int) := ⟨_, rfl, by decide, rfl, rfl, by decide +kernel, (gt_at 793 (by decide +kernel) (by decide +kernel))⟩
theorem fpX9_56 : FF RX9 56 9 23 (.array .int) := ⟨_, rfl, by decide, rfl, rfl, by decide +kernel, (gt_at 794 (by decide +kernel) (by decide +kernel))⟩
theorem fpX9_59 : FF RX9 59 9 24 (.array .int) := ⟨_, rfl, by decide, rfl, rfl, by decide +kernel, (gt_at 795 (by decide +kernel) (by decide +kernel))⟩
theorem fpX9_62 : FF RX9 62 9 28 (.array .int) := ⟨_, rfl, by decide, rfl, rfl, by decide +kernel, (gt_at 799 (by decide +kernel) (by decide +kernel))⟩
theorem kcX9_222 : Cond.constantLong RX9 222 (48) ∈ gtbl := (gt_at 1094 (by decide +kernel) (by decide +kernel))
theorem kcX9_224 : Cond.constantLong RX9 224 (57) ∈ gtbl := (gt_at 1095 (by decide +kernel) (by decide +kernel))
theorem flX9_81 : FL RX9 81 9 26 := ⟨_, rfl, by decide, Or.inl (gt_at 797 (by decide +kernel) (by decide +kernel))⟩
theorem fpX9_81 : FP RX9 81 9 26 .boolean := ⟨_, rfl, by decide, rfl, by decide +kernel, Or.inl (gt_at 797 (by decide +kernel) (by decide +kernel))⟩
theorem fpX9_170 : FP RX9 170 9 25 .int := ⟨_, rfl, by decide, rfl, by decide +kernel, Or.inl (gt_at 796 (by decide +kernel) (by decide +kernel))⟩
theorem flX9_59 : FL RX9 59 9 24 := ⟨_, rfl, by decide, Or.inl (gt_at 795 (by decide +kernel) (by decide +kernel))⟩
theorem flX9_170 : FL RX9 170 9 25 := ⟨_, rfl, by decide, Or.inl (gt_at 796 (by decide +kernel) (by decide +kernel))⟩
theorem flX9_226 : FL RX9 226 9 27 := ⟨_, rfl, by decide, Or.inl (gt_at 798 (by decide +kernel) (by decide +kernel))⟩
theorem clX9_229 : CLv RX9 229 mX9_byteAt 1 := ⟨⟨(gt_at 1103 (by decide +kernel) (by decide +kernel)), (gt_at 89 (by decide +kernel) (by decide +kernel)), ⟨by decide +kernel, by decide +kernel, by decide +kernel⟩, rfl, Or.inl (gt_at 1100 (by decide +kernel) (by decide +kernel))⟩, (gt_at 1102 (by decide +kernel) (by decide +kernel)), (gt_at 77 (by decide +kernel) (by decide +kernel))⟩
theorem clX9_232 : CLs RX9 232 mX9_isFigure 1 := ⟨⟨(gt_at 1093 (by decide +kernel) (by decide +kernel)), (gt_at 89 (by decide +kernel) (by decide +kernel)), ⟨by decide +kernel, by decide +kernel, by decide +kernel⟩, rfl, Or.inl (gt_at 1091 (by decide +kernel) (by decide +kernel))⟩, (gt_at 1092 (by decide +kernel) (by decide +kernel))⟩
theorem fpX9_226 : FP RX9 226 9 27 .int := ⟨_, rfl, by decide, rfl, by decide +kernel, Or.inl (gt_at 798 (by decide +kernel) (by decide +kernel))⟩
theorem kcX9_248 : Cond.constantLong RX9 248 (31) ∈ gtbl := (gt_at 1118 (by decide +kernel) (by decide +kernel))
theorem clX9_176 : CLv RX9 176 mX9_lists 0 := ⟨⟨(gt_at 1009 (by decide +kernel) (by decide +kernel)), (gt_at 89 (by decide +kernel) (by decide +kernel)), ⟨by decide +kernel, by decide +kernel, by decide +kernel⟩, rfl, Or.inl (gt_at 1006 (by decide +kernel) (by decide +kernel))⟩, (gt_at 1008 (by decide +kernel) (by decide +kernel)), (gt_at 69 (by decide +kernel) (by decide +kernel))⟩
theorem flX9_129 : FL RX9 129 9 16 := ⟨_, rfl, by decide, Or.inl (gt_at 787 (by decide +kernel) (by decide +kernel))⟩
theorem flX9_126 : FL RX9 126 9 17 := ⟨_, rfl, by decide, Or.inl (gt_at 788 (by decide +kernel) (by decide +kernel))⟩
theorem clX9_241 : CLv RX9 241 mX9_reads 0 := ⟨⟨(gt_at 1090 (by decide +kernel) (by decide +kernel)), (gt_at 89 (by decide +kernel) (by decide +kernel)), ⟨by decide +kernel, by decide +kernel, by decide +kernel⟩, rfl, Or.inl (gt_at 1087 (by decide +kernel) (by decide +kernel))⟩, (gt_at 1089 (by decide +kernel) (by decide +kernel)), (gt_at 75 (by decide +kernel) (by decide +kernel))⟩
theorem flX9_235 : FL RX9 235 9 29 := ⟨_, rfl, by decide, Or.inl (gt_at 800 (by decide +kernel) (by decide +kernel))⟩
theorem flX9_62 : FL RX9 62 9 28 := ⟨_, rfl, by decide, Or.inl (gt_at 799 (by decide +kernel) (by decide +kernel))⟩
theorem fpX9_235 : FP RX9 235 9 29 .int := ⟨_, rfl, by decide, rfl, by decide +kernel, Or.inl (gt_at 800 (by decide +kernel) (by decide +kernel))⟩
theorem clX9_238 : CLv RX9 238 mX9_literalHere 1 := ⟨⟨(gt_at 1099 (by decide +kernel) (by decide +kernel)), (gt_at 89 (by decide +kernel) (by decide +kernel)), ⟨by decide +kernel, by decide +kernel, by decide +kernel⟩, rfl, Or.inl (gt_at 1096 (by decide +kernel) (by decide +kernel))⟩, (gt_at 1098 (by decide +kernel) (by decide +kernel)), (gt_at 76 (by decide +kernel) (by decide +kernel))⟩
theorem flX9_13 : FL RX9 13 9 1 := ⟨_, rfl, by decide, Or.inl (gt_at 772 (by decide +kernel) (by decide +kernel))⟩
theorem fpX9_73 : FP RX9 73 9 2 .int := ⟨_, rfl, by decide, rfl, by decide +kernel, Or.inl (gt_at 773 (by decide +kernel) (by decide +kernel))⟩
theorem kcX9_111 : Cond.constantLong RX9 111 (9) ∈ gtbl := (gt_at 927 (by decide +kernel) (by decide +kernel))
theorem clX9_113 : CLs RX9 113 mX9_weightAt 1 := ⟨⟨(gt_at 930 (by decide +kernel) (by decide +kernel)), (gt_at 89 (by decide +kernel) (by decide +kernel)), ⟨by decide +kernel, by decide +kernel, by decide +kernel⟩, rfl, Or.inl (gt_at 928 (by decide +kernel) (by decide +kernel))⟩, (gt_at 929 (by decide +kernel) (by decide +kernel))⟩
theorem kcX9_185 : Cond.constantFloat RX9 185 (1149239296) ∈ gtbl := (gt_at 1027 (by decide +kernel) (by decide +kernel))
theorem clX9_186 : CLs RX9 186 mJxf58ca_floatToIntBits_5c35a 1 := ⟨⟨(gt_at 1030 (by decide +kernel) (by decide +kernel)), (gt_at 95 (by decide +kernel) (by decide +kernel)), ⟨by decide +kernel, by decide +kernel, by decide +kernel⟩, rfl, Or.inl (gt_at 1028 (by decide +kernel) (by decide +kernel))⟩, (gt_at 1029 (by decide +kernel) (by decide +kernel))⟩
theorem ac_int : Cond.arrayClass .int ∈ gtbl := (gt_at 132 (by decide +kernel) (by decide +kernel))
theorem ac_long : Cond.arrayClass .long ∈ gtbl := (gt_at 250 (by decide +kernel) (by decide +kernel))
theorem oi_1 : Cond.instanceMethod objectInit ∈ gtbl := (gt_at 102 (by decide +kernel) (by decide +kernel))
theorem oi_2 : Cond.code objectInit ⟨#[0xb1]⟩ 1 none ∈ gtbl := (gt_at 103 (by decide +kernel) (by decide +kernel))
theorem mmax_1 : Cond.static Lib.Math.max.name ∈ gtbl := (gt_at 497 (by decide +kernel) (by decide +kernel))
theorem mmax_2 : Cond.code Lib.Math.max.name Lib.Math.max.code 2 (some .int) ∈ gtbl := (gt_at 498 (by decide +kernel) (by decide +kernel))
theorem mmin_1 : Cond.static Lib.Math.min.name ∈ gtbl := (gt_at 526 (by decide +kernel) (by decide +kernel))
theorem mmin_2 : Cond.code Lib.Math.min.name Lib.Math.min.code 2 (some .int) ∈ gtbl := (gt_at 527 (by decide +kernel) (by decide +kernel))
theorem mi_1 : Cond.initialized "java/lang/Math" ∈ gtbl := (gt_at 93 (by decide +kernel) (by decide +kernel))
theorem ac_1 : Cond.native arraycopyName ∈ gtbl := (gt_at 359 (by decide +kernel) (by decide +kernel))
theorem ac_2 : Cond.static arraycopyName ∈ gtbl := (gt_at 358 (by decide +kernel) (by decide +kernel))
theorem ac_3 : Cond.initialized "java/lang/System" ∈ gtbl := (gt_at 90 (by decide +kernel) (by decide +kernel))
