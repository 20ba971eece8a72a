theorem dX8_addClause_84 : decode cX8_addClause 84 = .ok (.ifCond .eq 10, 3) := by decide +kernel
theorem dX8_addClause_87 : decode cX8_addClause 87 = .ok (.aload_n 0, 1) := by decide +kernel
theorem dX8_addClause_88 : decode cX8_addClause 88 = .ok (.bipush (-3), 2) := by decide +kernel
theorem dX8_addClause_90 : decode cX8_addClause 90 = .ok (.invokevirtual 83, 3) := by decide +kernel
theorem dX8_addClause_93 : decode cX8_addClause 93 = .ok (.ireturn, 1) := by decide +kernel
theorem dX8_addClause_94 : decode cX8_addClause 94 = .ok (.aload_n 0, 1) := by decide +kernel
theorem dX8_addClause_95 : decode cX8_addClause 95 = .ok (.getfield 12, 3) := by decide +kernel
theorem dX8_addClause_98 : decode cX8_addClause 98 = .ok (.getfield 91, 3) := by decide +kernel
theorem dX8_addClause_101 : decode cX8_addClause 101 = .ok (.bipush 16, 2) := by decide +kernel
theorem dX8_addClause_103 : decode cX8_addClause 103 = .ok (.if_icmp .lt 10, 3) := by decide +kernel
theorem dX8_addClause_106 : decode cX8_addClause 106 = .ok (.aload_n 0, 1) := by decide +kernel
theorem dX8_addClause_107 : decode cX8_addClause 107 = .ok (.bipush (-4), 2) := by decide +kernel
theorem dX8_addClause_109 : decode cX8_addClause 109 = .ok (.invokevirtual 83, 3) := by decide +kernel
theorem dX8_addClause_112 : decode cX8_addClause 112 = .ok (.ireturn, 1) := by decide +kernel
theorem dX8_addClause_113 : decode cX8_addClause 113 = .ok (.aload_n 0, 1) := by decide +kernel
theorem dX8_addClause_114 : decode cX8_addClause 114 = .ok (.getfield 19, 3) := by decide +kernel
theorem dX8_addClause_117 : decode cX8_addClause 117 = .ok (.aload_n 0, 1) := by decide +kernel
theorem dX8_addClause_118 : decode cX8_addClause 118 = .ok (.getfield 12, 3) := by decide +kernel
theorem dX8_addClause_121 : decode cX8_addClause 121 = .ok (.invokevirtual 95, 3) := by decide +kernel
theorem dX8_addClause_124 : decode cX8_addClause 124 = .ok (.aload_n 0, 1) := by decide +kernel
theorem dX8_addClause_125 : decode cX8_addClause 125 = .ok (.getfield 12, 3) := by decide +kernel
theorem dX8_addClause_128 : decode cX8_addClause 128 = .ok (.iload_n 1, 1) := by decide +kernel
theorem dX8_addClause_129 : decode cX8_addClause 129 = .ok (.invokestatic 99, 3) := by decide +kernel
theorem dX8_addClause_132 : decode cX8_addClause 132 = .ok (.iload_n 2, 1) := by decide +kernel
theorem dX8_addClause_133 : decode cX8_addClause 133 = .ok (.invokestatic 99, 3) := by decide +kernel
theorem dX8_addClause_136 : decode cX8_addClause 136 = .ok (.ior, 1) := by decide +kernel
theorem dX8_addClause_137 : decode cX8_addClause 137 = .ok (.iload_n 3, 1) := by decide +kernel
theorem dX8_addClause_138 : decode cX8_addClause 138 = .ok (.invokestatic 99, 3) := by decide +kernel
theorem dX8_addClause_141 : decode cX8_addClause 141 = .ok (.ior, 1) := by decide +kernel
theorem dX8_addClause_142 : decode cX8_addClause 142 = .ok (.iload 4, 2) := by decide +kernel
theorem dX8_addClause_144 : decode cX8_addClause 144 = .ok (.invokestatic 99, 3) := by decide +kernel
theorem dX8_addClause_147 : decode cX8_addClause 147 = .ok (.ior, 1) := by decide +kernel
theorem dX8_addClause_148 : decode cX8_addClause 148 = .ok (.invokevirtual 102, 3) := by decide +kernel
theorem dX8_addClause_151 : decode cX8_addClause 151 = .ok (.aload_n 0, 1) := by decide +kernel
theorem dX8_addClause_152 : decode cX8_addClause 152 = .ok (.invokevirtual 106, 3) := by decide +kernel
theorem dX8_addClause_155 : decode cX8_addClause 155 = .ok (.aload_n 0, 1) := by decide +kernel
theorem dX8_addClause_156 : decode cX8_addClause 156 = .ok (.getfield 12, 3) := by decide +kernel
theorem dX8_addClause_159 : decode cX8_addClause 159 = .ok (.getfield 91, 3) := by decide +kernel
theorem dX8_addClause_162 : decode cX8_addClause 162 = .ok (.iconst 1, 1) := by decide +kernel
theorem dX8_addClause_163 : decode cX8_addClause 163 = .ok (.isub, 1) := by decide +kernel
theorem dX8_addClause_164 : decode cX8_addClause 164 = .ok (.ireturn, 1) := by decide +kernel
theorem dX8_removeClause_0 : decode cX8_removeClause 0 = .ok (.aload_n 0, 1) := by decide +kernel
theorem dX8_removeClause_1 : decode cX8_removeClause 1 = .ok (.getfield 12, 3) := by decide +kernel
theorem dX8_removeClause_4 : decode cX8_removeClause 4 = .ok (.iload_n 1, 1) := by decide +kernel
theorem dX8_removeClause_5 : decode cX8_removeClause 5 = .ok (.invokevirtual 109, 3) := by decide +kernel
theorem dX8_removeClause_8 : decode cX8_removeClause 8 = .ok (.ifCond .ne 10, 3) := by decide +kernel
theorem dX8_removeClause_11 : decode cX8_removeClause 11 = .ok (.aload_n 0, 1) := by decide +kernel
theorem dX8_removeClause_12 : decode cX8_removeClause 12 = .ok (.bipush (-2), 2) := by decide +kernel
theorem dX8_removeClause_14 : decode cX8_removeClause 14 = .ok (.invokevirtual 83, 3) := by decide +kernel
theorem dX8_removeClause_17 : decode cX8_removeClause 17 = .ok (.ireturn, 1) := by decide +kernel
theorem dX8_removeClause_18 : decode cX8_removeClause 18 = .ok (.aload_n 0, 1) := by decide +kernel
theorem dX8_removeClause_19 : decode cX8_removeClause 19 = .ok (.getfield 19, 3) := by decide +kernel
theorem dX8_removeClause_22 : decode cX8_removeClause 22 = .ok (.aload_n 0, 1) := by decide +kernel
theorem dX8_removeClause_23 : decode cX8_removeClause 23 = .ok (.getfield 12, 3) := by decide +kernel
theorem dX8_removeClause_26 : decode cX8_removeClause 26 = .ok (.invokevirtual 95, 3) := by decide +kernel
theorem dX8_removeClause_29 : decode cX8_removeClause 29 = .ok (.aload_n 0, 1) := by decide +kernel
theorem dX8_removeClause_30 : decode cX8_removeClause 30 = .ok (.getfield 12, 3) := by decide +kernel
theorem dX8_removeClause_33 : decode cX8_removeClause 33 = .ok (.iload_n 1, 1) := by decide +kernel
theorem dX8_removeClause_34 : decode cX8_removeClause 34 = .ok (.invokevirtual 112, 3) := by decide +kernel
theorem dX8_removeClause_37 : decode cX8_removeClause 37 = .ok (.aload_n 0, 1) := by decide +kernel
theorem dX8_removeClause_38 : decode cX8_removeClause 38 = .ok (.invokevirtual 106, 3) := by decide +kernel
theorem dX8_removeClause_41 : decode cX8_removeClause 41 = .ok (.aload_n 0, 1) := by decide +kernel
theorem dX8_removeClause_42 : decode cX8_removeClause 42 = .ok (.getfield 12, 3) := by decide +kernel
theorem dX8_removeClause_45 : decode cX8_removeClause 45 = .ok (.getfield 91, 3) := by decide +kernel
theorem dX8_removeClause_48 : decode cX8_removeClause 48 = .ok (.ireturn, 1) := by decide +kernel
theorem dX8_clauses_0 : decode cX8_clauses 0 = .ok (.aload_n 0, 1) := by decide +kernel
theorem dX8_clauses_1 : decode cX8_clauses 1 = .ok (.getfield 12, 3) := by decide +kernel
theorem dX8_clauses_4 : decode cX8_clauses 4 = .ok (.getfield 91, 3) := by decide +kernel
theorem dX8_clauses_7 : decode cX8_clauses 7 = .ok (.ireturn, 1) := by decide +kernel
theorem dX8_clauseSize_0 : decode cX8_clauseSize 0 = .ok (.aload_n 0, 1) := by decide +kernel
theorem dX8_clauseSize_1 : decode cX8_clauseSize 1 = .ok (.getfield 12, 3) := by decide +kernel
theorem dX8_clauseSize_4 : decode cX8_clauseSize 4 = .ok (.iload_n 1, 1) := by decide +kernel
theorem dX8_clauseSize_5 : decode cX8_clauseSize 5 = .ok (.invokevirtual 109, 3) := by decide +kernel
theorem dX8_clauseSize_8 : decode cX8_clauseSize 8 = .ok (.ifCond .ne 10, 3) := by decide +kernel
theorem dX8_clauseSize_11 : decode cX8_clauseSize 11 = .ok (.aload_n 0, 1) := by decide +kernel
theorem dX8_clauseSize_12 : decode cX8_clauseSize 12 = .ok (.bipush (-2), 2) := by decide +kernel
theorem dX8_clauseSize_14 : decode cX8_clauseSize 14 = .ok (.invokevirtual 83, 3) := by decide +kernel
theorem dX8_clauseSize_17 : decode cX8_clauseSize 17 = .ok (.ireturn, 1) := by decide +kernel
theorem dX8_clauseSize_18 : decode cX8_clauseSize 18 = .ok (.aload_n 0, 1) := by decide +kernel
theorem dX8_clauseSize_19 : decode cX8_clauseSize 19 = .ok (.getfield 12, 3) := by decide +kernel
theorem dX8_clauseSize_22 : decode cX8_clauseSize 22 = .ok (.iload_n 1, 1) := by decide +kernel
theorem dX8_clauseSize_23 : decode cX8_clauseSize 23 = .ok (.invokevirtual 115, 3) := by decide +kernel
theorem dX8_clauseSize_26 : decode cX8_clauseSize 26 = .ok (.invokestatic 118, 3) := by decide +kernel
theorem dX8_clauseSize_29 : decode cX8_clauseSize 29 = .ok (.ireturn, 1) := by decide +kernel
theorem dX8_assume_0 : decode cX8_assume 0 = .ok (.iload_n 1, 1) := by decide +kernel
theorem dX8_assume_1 : decode cX8_assume 1 = .ok (.invokestatic 76, 3) := by decide +kernel
theorem dX8_assume_4 : decode cX8_assume 4 = .ok (.ifCond .ne 10, 3) := by decide +kernel
theorem dX8_assume_7 : decode cX8_assume 7 = .ok (.aload_n 0, 1) := by decide +kernel
theorem dX8_assume_8 : decode cX8_assume 8 = .ok (.bipush (-2), 2) := by decide +kernel
theorem dX8_assume_10 : decode cX8_assume 10 = .ok (.invokevirtual 83, 3) := by decide +kernel
theorem dX8_assume_13 : decode cX8_assume 13 = .ok (.ireturn, 1) := by decide +kernel
theorem dX8_assume_14 : decode cX8_assume 14 = .ok (.aload_n 0, 1) := by decide +kernel
theorem dX8_assume_15 : decode cX8_assume 15 = .ok (.getfield 12, 3) := by decide +kernel
theorem dX8_assume_18 : decode cX8_assume 18 = .ok (.getfield 123, 3) := by decide +kernel
theorem dX8_assume_21 : decode cX8_assume 21 = .ok (.invokestatic 126, 3) := by decide +kernel
theorem dX8_assume_24 : decode cX8_assume 24 = .ok (.iload_n 1, 1) := by decide +kernel
theorem dX8_assume_25 : decode cX8_assume 25 = .ok (.invokestatic 99, 3) := by decide +kernel
theorem dX8_assume_28 : decode cX8_assume 28 = .ok (.invokestatic 126, 3) := by decide +kernel
theorem dX8_assume_31 : decode cX8_assume 31 = .ok (.iand, 1) := by decide +kernel
theorem dX8_assume_32 : decode cX8_assume 32 = .ok (.ifCond .eq 10, 3) := by decide +kernel
theorem dX8_assume_35 : decode cX8_assume 35 = .ok (.aload_n 0, 1) := by decide +kernel
theorem dX8_assume_36 : decode cX8_assume 36 = .ok (.bipush (-3), 2) := by decide +kernel
theorem dX8_assume_38 : decode cX8_assume 38 = .ok (.invokevirtual 83, 3) := by decide +kernel
theorem dX8_assume_41 : decode cX8_assume 41 = .ok (.ireturn, 1) := by decide +kernel
theorem dX8_assume_42 : decode cX8_assume 42 = .ok (.aload_n 0, 1) := by decide +kernel
theorem dX8_assume_43 : decode cX8_assume 43 = .ok (.getfield 19, 3) := by decide +kernel
theorem dX8_assume_46 : decode cX8_assume 46 = .ok (.aload_n 0, 1) := by decide +kernel
theorem dX8_assume_47 : decode cX8_assume 47 = .ok (.getfield 12, 3) := by decide +kernel
theorem dX8_assume_50 : decode cX8_assume 50 = .ok (.invokevirtual 95, 3) := by decide +kernel
theorem dX8_assume_53 : decode cX8_assume 53 = .ok (.aload_n 0, 1) := by decide +kernel
theorem dX8_assume_54 : decode cX8_assume 54 = .ok (.getfield 12, 3) := by decide +kernel
theorem dX8_assume_57 : decode cX8_assume 57 = .ok (.dup, 1) := by decide +kernel
theorem dX8_assume_58 : decode cX8_assume 58 = .ok (.getfield 123, 3) := by decide +kernel
theorem dX8_assume_61 : decode cX8_assume 61 = .ok (.iload_n 1, 1) := by decide +kernel
theorem dX8_assume_62 : decode cX8_assume 62 = .ok (.invokestatic 99, 3) := by decide +kernel
theorem dX8_assume_65 : decode cX8_assume 65 = .ok (.ior, 1) := by decide +kernel
theorem dX8_assume_66 : decode cX8_assume 66 = .ok (.putfield 123, 3) := by decide +kernel
theorem dX8_assume_69 : decode cX8_assume 69 = .ok (.aload_n 0, 1) := by decide +kernel
theorem dX8_assume_70 : decode cX8_assume 70 = .ok (.invokevirtual 106, 3) := by decide +kernel
theorem dX8_assume_73 : decode cX8_assume 73 = .ok (.aload_n 0, 1) := by decide +kernel
theorem dX8_assume_74 : decode cX8_assume 74 = .ok (.getfield 12, 3) := by decide +kernel
theorem dX8_assume_77 : decode cX8_assume 77 = .ok (.getfield 123, 3) := by decide +kernel
theorem dX8_assume_80 : decode cX8_assume 80 = .ok (.invokestatic 118, 3) := by decide +kernel
theorem dX8_assume_83 : decode cX8_assume 83 = .ok (.ireturn, 1) := by decide +kernel
theorem dX8_retractAll_0 : decode cX8_retractAll 0 = .ok (.aload_n 0, 1) := by decide +kernel
theorem dX8_retractAll_1 : decode cX8_retractAll 1 = .ok (.getfield 12, 3) := by decide +kernel
theorem dX8_retractAll_4 : decode cX8_retractAll 4 = .ok (.getfield 123, 3) := by decide +kernel
theorem dX8_retractAll_7 : decode cX8_retractAll 7 = .ok (.invokestatic 118, 3) := by decide +kernel
theorem dX8_retractAll_10 : decode cX8_retractAll 10 = .ok (.istore_n 1, 1) := by decide +kernel
theorem dX8_retractAll_11 : decode cX8_retractAll 11 = .ok (.aload_n 0, 1) := by decide +kernel
theorem dX8_retractAll_12 : decode cX8_retractAll 12 = .ok (.getfield 19, 3) := by decide +kernel
theorem dX8_retractAll_15 : decode cX8_retractAll 15 = .ok (.aload_n 0, 1) := by decide +kernel
theorem dX8_retractAll_16 : decode cX8_retractAll 16 = .ok (.getfield 12, 3) := by decide +kernel
theorem dX8_retractAll_19 : decode cX8_retractAll 19 = .ok (.invokevirtual 95, 3) := by decide +kernel
theorem dX8_retractAll_22 : decode cX8_retractAll 22 = .ok (.aload_n 0, 1) := by decide +kernel
theorem dX8_retractAll_23 : decode cX8_retractAll 23 = .ok (.getfield 12, 3) := by decide +kernel
theorem dX8_retractAll_26 : decode cX8_retractAll 26 = .ok (.iconst 0, 1) := by decide +kernel
theorem dX8_retractAll_27 : decode cX8_retractAll 27 = .ok (.putfield 123, 3) := by decide +kernel
theorem dX8_retractAll_30 : decode cX8_retractAll 30 = .ok (.aload_n 0, 1) := by decide +kernel
theorem dX8_retractAll_31 : decode cX8_retractAll 31 = .ok (.invokevirtual 106, 3) := by decide +kernel
theorem dX8_retractAll_34 : decode cX8_retractAll 34 = .ok (.iload_n 1, 1) := by decide +kernel
theorem dX8_retractAll_35 : decode cX8_retractAll 35 = .ok (.ireturn, 1) := by decide +kernel
theorem dX8_setWeight_0 : decode cX8_setWeight 0 = .ok (.iload_n 1, 1) := by decide +kernel
theorem dX8_setWeight_1 : decode cX8_setWeight 1 = .ok (.invokestatic 76, 3) := by decide +kernel
theorem dX8_setWeight_4 : decode cX8_setWeight 4 = .ok (.ifCond .eq 13, 3) := by decide +kernel
theorem dX8_setWeight_7 : decode cX8_setWeight 7 = .ok (.iload_n 2, 1) := by decide +kernel
theorem dX8_setWeight_8 : decode cX8_setWeight 8 = .ok (.ifCond .lt 9, 3) := by decide +kernel
theorem dX8_setWeight_11 : decode cX8_setWeight 11 = .ok (.iload_n 2, 1) := by decide +kernel
theorem dX8_setWeight_12 : decode cX8_setWeight 12 = .ok (.bipush 9, 2) := by decide +kernel
theorem dX8_setWeight_14 : decode cX8_setWeight 14 = .ok (.if_icmp .le 10, 3) := by decide +kernel
theorem dX8_setWeight_17 : decode cX8_setWeight 17 = .ok (.aload_n 0, 1) := by decide +kernel
theorem dX8_setWeight_18 : decode cX8_setWeight 18 = .ok (.bipush (-2), 2) := by decide +kernel
theorem dX8_setWeight_20 : decode cX8_setWeight 20 = .ok (.invokevirtual 83, 3) := by decide +kernel
theorem dX8_setWeight_23 : decode cX8_setWeight 23 = .ok (.ireturn, 1) := by decide +kernel
theorem dX8_setWeight_24 : decode cX8_setWeight 24 = .ok (.aload_n 0, 1) := by decide +kernel
theorem dX8_setWeight_25 : decode cX8_setWeight 25 = .ok (.getfield 19, 3) := by decide +kernel
theorem dX8_setWeight_28 : decode cX8_setWeight 28 = .ok (.aload_n 0, 1) := by decide +kernel
theorem dX8_setWeight_29 : decode cX8_setWeight 29 = .ok (.getfield 12, 3) := by decide +kernel
theorem dX8_setWeight_32 : decode cX8_setWeight 32 = .ok (.invokevirtual 95, 3) := by decide +kernel
theorem dX8_setWeight_35 : decode cX8_setWeight 35 = .ok (.aload_n 0, 1) := by decide +kernel
theorem dX8_setWeight_36 : decode cX8_setWeight 36 = .ok (.getfield 12, 3) := by decide +kernel
theorem dX8_setWeight_39 : decode cX8_setWeight 39 = .ok (.iload_n 1, 1) := by decide +kernel
theorem dX8_setWeight_40 : decode cX8_setWeight 40 = .ok (.invokestatic 129, 3) := by decide +kernel
theorem dX8_setWeight_43 : decode cX8_setWeight 43 = .ok (.iload_n 2, 1) := by decide +kernel
theorem dX8_setWeight_44 : decode cX8_setWeight 44 = .ok (.invokevirtual 132, 3) := by decide +kernel
theorem dX8_setWeight_47 : decode cX8_setWeight 47 = .ok (.ireturn, 1) := by decide +kernel
theorem dX8_nodes_0 : decode cX8_nodes 0 = .ok (.aload_n 0, 1) := by decide +kernel
theorem dX8_nodes_1 : decode cX8_nodes 1 = .ok (.invokevirtual 136, 3) := by decide +kernel
theorem dX8_nodes_4 : decode cX8_nodes 4 = .ok (.invokevirtual 140, 3) := by decide +kernel
theorem dX8_nodes_7 : decode cX8_nodes 7 = .ok (.ireturn, 1) := by decide +kernel
theorem dX8_decisionNodes_0 : decode cX8_decisionNodes 0 = .ok (.aload_n 0, 1) := by decide +kernel
theorem dX8_decisionNodes_1 : decode cX8_decisionNodes 1 = .ok (.invokevirtual 136, 3) := by decide +kernel
theorem dX8_decisionNodes_4 : decode cX8_decisionNodes 4 = .ok (.getfield 144, 3) := by decide +kernel
theorem dX8_decisionNodes_7 : decode cX8_decisionNodes 7 = .ok (.ireturn, 1) := by decide +kernel
theorem dX8_andNodes_0 : decode cX8_andNodes 0 = .ok (.aload_n 0, 1) := by decide +kernel
theorem dX8_andNodes_1 : decode cX8_andNodes 1 = .ok (.invokevirtual 136, 3) := by decide +kernel
theorem dX8_andNodes_4 : decode cX8_andNodes 4 = .ok (.getfield 147, 3) := by decide +kernel
theorem dX8_andNodes_7 : decode cX8_andNodes 7 = .ok (.ireturn, 1) := by decide +kernel
theorem dX8_depth_0 : decode cX8_depth 0 = .ok (.aload_n 0, 1) := by decide +kernel
theorem dX8_depth_1 : decode cX8_depth 1 = .ok (.invokevirtual 136, 3) := by decide +kernel
theorem dX8_depth_4 : decode cX8_depth 4 = .ok (.getfield 150, 3) := by decide +kernel
theorem dX8_depth_7 : decode cX8_depth 7 = .ok (.ireturn, 1) := by decide +kernel
theorem dX8_rootVariable_0 : decode cX8_rootVariable 0 = .ok (.aload_n 0, 1) := by decide +kernel
theorem dX8_rootVariable_1 : decode cX8_rootVariable 1 = .ok (.invokevirtual 136, 3) := by decide +kernel
theorem dX8_rootVariable_4 : decode cX8_rootVariable 4 = .ok (.invokevirtual 153, 3) := by decide +kernel
theorem dX8_rootVariable_7 : decode cX8_rootVariable 7 = .ok (.ireturn, 1) := by decide +kernel
theorem dX8_components_0 : decode cX8_components 0 = .ok (.aload_n 0, 1) := by decide +kernel
theorem dX8_components_1 : decode cX8_components 1 = .ok (.invokevirtual 136, 3) := by decide +kernel
theorem dX8_components_4 : decode cX8_components 4 = .ok (.invokevirtual 156, 3) := by decide +kernel
theorem dX8_components_7 : decode cX8_components 7 = .ok (.ireturn, 1) := by decide +kernel
theorem dX8_models_0 : decode cX8_models 0 = .ok (.aload_n 0, 1) := by decide +kernel
theorem dX8_models_1 : decode cX8_models 1 = .ok (.invokevirtual 159, 3) := by decide +kernel
theorem dX8_models_4 : decode cX8_models 4 = .ok (.invokevirtual 163, 3) := by decide +kernel
theorem dX8_models_7 : decode cX8_models 7 = .ok (.ireturn, 1) := by decide +kernel
theorem dX8_modelsWith_0 : decode cX8_modelsWith 0 = .ok (.iload_n 1, 1) := by decide +kernel
theorem dX8_modelsWith_1 : decode cX8_modelsWith 1 = .ok (.invokestatic 76, 3) := by decide +kernel
theorem dX8_modelsWith_4 : decode cX8_modelsWith 4 = .ok (.ifCond .ne 10, 3) := by decide +kernel
theorem dX8_modelsWith_7 : decode cX8_modelsWith 7 = .ok (.aload_n 0, 1) := by decide +kernel
theorem dX8_modelsWith_8 : decode cX8_modelsWith 8 = .ok (.bipush (-2), 2) := by decide +kernel
theorem dX8_modelsWith_10 : decode cX8_modelsWith 10 = .ok (.invokevirtual 83, 3) := by decide +kernel
theorem dX8_modelsWith_13 : decode cX8_modelsWith 13 = .ok (.ireturn, 1) := by decide +kernel
theorem dX8_modelsWith_14 : decode cX8_modelsWith 14 = .ok (.aload_n 0, 1) := by decide +kernel
theorem dX8_modelsWith_15 : decode cX8_modelsWith 15 = .ok (.invokevirtual 159, 3) := by decide +kernel
theorem dX8_modelsWith_18 : decode cX8_modelsWith 18 = .ok (.iload_n 1, 1) := by decide +kernel
theorem dX8_modelsWith_19 : decode cX8_modelsWith 19 = .ok (.invokestatic 129, 3) := by decide +kernel
theorem dX8_modelsWith_22 : decode cX8_modelsWith 22 = .ok (.invokevirtual 166, 3) := by decide +kernel
theorem dX8_modelsWith_25 : decode cX8_modelsWith 25 = .ok (.ireturn, 1) := by decide +kernel
theorem dX8_weightedCount_0 : decode cX8_weightedCount 0 = .ok (.aload_n 0, 1) := by decide +kernel
theorem dX8_weightedCount_1 : decode cX8_weightedCount 1 = .ok (.getfield 54, 3) := by decide +kernel
theorem dX8_weightedCount_4 : decode cX8_weightedCount 4 = .ok (.aload_n 0, 1) := by decide +kernel
theorem dX8_weightedCount_5 : decode cX8_weightedCount 5 = .ok (.invokevirtual 159, 3) := by decide +kernel
theorem dX8_weightedCount_8 : decode cX8_weightedCount 8 = .ok (.aload_n 0, 1) := by decide +kernel
theorem dX8_weightedCount_9 : decode cX8_weightedCount 9 = .ok (.getfield 12, 3) := by decide +kernel
theorem dX8_weightedCount_12 : decode cX8_weightedCount 12 = .ok (.invokevirtual 169, 3) := by decide +kernel
theorem dX8_weightedCount_15 : decode cX8_weightedCount 15 = .ok (.lreturn, 1) := by decide +kernel
theorem dX8_shareBits_0 : decode cX8_shareBits 0 = .ok (.aload_n 0, 1) := by decide +kernel
theorem dX8_shareBits_1 : decode cX8_shareBits 1 = .ok (.invokevirtual 173, 3) := by decide +kernel
theorem dX8_shareBits_4 : decode cX8_shareBits 4 = .ok (.invokestatic 176, 3) := by decide +kernel
theorem dX8_shareBits_7 : decode cX8_shareBits 7 = .ok (.ireturn, 1) := by decide +kernel
theorem dX8_implied_0 : decode cX8_implied 0 = .ok (.iload_n 1, 1) := by decide +kernel
theorem dX8_implied_1 : decode cX8_implied 1 = .ok (.iconst 1, 1) := by decide +kernel
theorem dX8_implied_2 : decode cX8_implied 2 = .ok (.if_icmp .eq 15, 3) := by decide +kernel
theorem dX8_implied_5 : decode cX8_implied 5 = .ok (.iload_n 1, 1) := by decide +kernel
theorem dX8_implied_6 : decode cX8_implied 6 = .ok (.iconst (-1), 1) := by decide +kernel
theorem dX8_implied_7 : decode cX8_implied 7 = .ok (.if_icmp .eq 10, 3) := by decide +kernel
theorem dX8_implied_10 : decode cX8_implied 10 = .ok (.aload_n 0, 1) := by decide +kernel
theorem dX8_implied_11 : decode cX8_implied 11 = .ok (.bipush (-2), 2) := by decide +kernel
theorem dX8_implied_13 : decode cX8_implied 13 = .ok (.invokevirtual 83, 3) := by decide +kernel
theorem dX8_implied_16 : decode cX8_implied 16 = .ok (.ireturn, 1) := by decide +kernel
theorem dX8_implied_17 : decode cX8_implied 17 = .ok (.aload_n 0, 1) := by decide +kernel
theorem dX8_implied_18 : decode cX8_implied 18 = .ok (.invokevirtual 159, 3) := by decide +kernel
theorem dX8_implied_21 : decode cX8_implied 21 = .ok (.astore_n 2, 1) := by decide +kernel
theorem dX8_implied_22 : decode cX8_implied 22 = .ok (.iconst 0, 1) := by decide +kernel
theorem dX8_implied_23 : decode cX8_implied 23 = .ok (.istore_n 3, 1) := by decide +kernel
theorem dX8_implied_24 : decode cX8_implied 24 = .ok (.iconst 1, 1) := by decide +kernel
theorem dX8_implied_25 : decode cX8_implied 25 = .ok (.istore 4, 2) := by decide +kernel
theorem dX8_implied_27 : decode cX8_implied 27 = .ok (.iload 4, 2) := by decide +kernel
theorem dX8_implied_29 : decode cX8_implied 29 = .ok (.bipush 10, 2) := by decide +kernel
theorem dX8_implied_31 : decode cX8_implied 31 = .ok (.if_icmp .gt 33, 3) := by decide +kernel
theorem dX8_implied_34 : decode cX8_implied 34 = .ok (.aload_n 2, 1) := by decide +kernel
theorem dX8_implied_35 : decode cX8_implied 35 = .ok (.iload_n 1, 1) := by decide +kernel
theorem dX8_implied_36 : decode cX8_implied 36 = .ok (.ineg, 1) := by decide +kernel
theorem dX8_implied_37 : decode cX8_implied 37 = .ok (.iload 4, 2) := by decide +kernel
theorem dX8_implied_39 : decode cX8_implied 39 = .ok (.imul, 1) := by decide +kernel
theorem dX8_implied_40 : decode cX8_implied 40 = .ok (.invokestatic 129, 3) := by decide +kernel
theorem dX8_implied_43 : decode cX8_implied 43 = .ok (.invokevirtual 166, 3) := by decide +kernel
theorem dX8_implied_46 : decode cX8_implied 46 = .ok (.ifCond .ne 12, 3) := by decide +kernel
theorem dX8_implied_49 : decode cX8_implied 49 = .ok (.iload_n 3, 1) := by decide +kernel
theorem dX8_implied_50 : decode cX8_implied 50 = .ok (.iconst 1, 1) := by decide +kernel
theorem dX8_implied_51 : decode cX8_implied 51 = .ok (.iload 4, 2) := by decide +kernel
theorem dX8_implied_53 : decode cX8_implied 53 = .ok (.iconst 1, 1) := by decide +kernel
theorem dX8_implied_54 : decode cX8_implied 54 = .ok (.isub, 1) := by decide +kernel
theorem dX8_implied_55 : decode cX8_implied 55 = .ok (.ishl, 1) := by decide +kernel
theorem dX8_implied_56 : decode cX8_implied 56 = .ok (.ior, 1) := by decide +kernel
theorem dX8_implied_57 : decode cX8_implied 57 = .ok (.istore_n 3, 1) := by decide +kernel
theorem dX8_implied_58 : decode cX8_implied 58 = .ok (.iinc 4 1, 3) := by decide +kernel
theorem dX8_implied_61 : decode cX8_implied 61 = .ok (.goto (-34), 3) := by decide +kernel
theorem dX8_implied_64 : decode cX8_implied 64 = .ok (.iload_n 3, 1) := by decide +kernel
theorem dX8_implied_65 : decode cX8_implied 65 = .ok (.ireturn, 1) := by decide +kernel
theorem dX8_leastModel_0 : decode cX8_leastModel 0 = .ok (.aload_n 0, 1) := by decide +kernel
theorem dX8_leastModel_1 : decode cX8_leastModel 1 = .ok (.invokevirtual 159, 3) := by decide +kernel
theorem dX8_leastModel_4 : decode cX8_leastModel 4 = .ok (.invokevirtual 179, 3) := by decide +kernel
theorem dX8_leastModel_7 : decode cX8_leastModel 7 = .ok (.ireturn, 1) := by decide +kernel
theorem dX8_explanation_0 : decode cX8_explanation 0 = .ok (.iload_n 1, 1) := by decide +kernel
theorem dX8_explanation_1 : decode cX8_explanation 1 = .ok (.invokestatic 76, 3) := by decide +kernel
theorem dX8_explanation_4 : decode cX8_explanation 4 = .ok (.ifCond .eq 13, 3) := by decide +kernel
theorem dX8_explanation_7 : decode cX8_explanation 7 = .ok (.iload_n 2, 1) := by decide +kernel
theorem dX8_explanation_8 : decode cX8_explanation 8 = .ok (.iconst (-1), 1) := by decide +kernel
theorem dX8_explanation_9 : decode cX8_explanation 9 = .ok (.if_icmp .lt 8, 3) := by decide +kernel
theorem dX8_explanation_12 : decode cX8_explanation 12 = .ok (.iload_n 2, 1) := by decide +kernel
theorem dX8_explanation_13 : decode cX8_explanation 13 = .ok (.iconst 3, 1) := by decide +kernel
theorem dX8_explanation_14 : decode cX8_explanation 14 = .ok (.if_icmp .lt 13, 3) := by decide +kernel
theorem dX8_explanation_17 : decode cX8_explanation 17 = .ok (.aload_n 0, 1) := by decide +kernel
theorem dX8_explanation_18 : decode cX8_explanation 18 = .ok (.bipush (-2), 2) := by decide +kernel
theorem dX8_explanation_20 : decode cX8_explanation 20 = .ok (.invokevirtual 83, 3) := by decide +kernel
theorem dX8_explanation_23 : decode cX8_explanation 23 = .ok (.pop, 1) := by decide +kernel
theorem dX8_explanation_24 : decode cX8_explanation 24 = .ok (.bipush (-102), 2) := by decide +kernel
theorem dX8_explanation_26 : decode cX8_explanation 26 = .ok (.ireturn, 1) := by decide +kernel
theorem dX8_explanation_27 : decode cX8_explanation 27 = .ok (.aload_n 0, 1) := by decide +kernel
theorem dX8_explanation_28 : decode cX8_explanation 28 = .ok (.getfield 61, 3) := by decide +kernel
theorem dX8_explanation_31 : decode cX8_explanation 31 = .ok (.getfield 182, 3) := by decide +kernel
theorem dX8_explanation_34 : decode cX8_explanation 34 = .ok (.iload_n 1, 1) := by decide +kernel
theorem dX8_explanation_35 : decode cX8_explanation 35 = .ok (.invokestatic 129, 3) := by decide +kernel
theorem dX8_explanation_38 : decode cX8_explanation 38 = .ok (.if_icmp .eq 25, 3) := by decide +kernel
theorem dX8_explanation_41 : decode cX8_explanation 41 = .ok (.aload_n 0, 1) := by decide +kernel
theorem dX8_explanation_42 : decode cX8_explanation 42 = .ok (.getfield 61, 3) := by decide +kernel
theorem dX8_explanation_45 : decode cX8_explanation 45 = .ok (.iload_n 1, 1) := by decide +kernel
theorem dX8_explanation_46 : decode cX8_explanation 46 = .ok (.invokestatic 129, 3) := by decide +kernel
theorem dX8_explanation_49 : decode cX8_explanation 49 = .ok (.aload_n 0, 1) := by decide +kernel
theorem dX8_explanation_50 : decode cX8_explanation 50 = .ok (.invokevirtual 159, 3) := by decide +kernel
theorem dX8_explanation_53 : decode cX8_explanation 53 = .ok (.aload_n 0, 1) := by decide +kernel
theorem dX8_explanation_54 : decode cX8_explanation 54 = .ok (.getfield 12, 3) := by decide +kernel
theorem dX8_explanation_57 : decode cX8_explanation 57 = .ok (.getfield 123, 3) := by decide +kernel
theorem dX8_explanation_60 : decode cX8_explanation 60 = .ok (.invokevirtual 185, 3) := by decide +kernel
theorem dX8_explanation_63 : decode cX8_explanation 63 = .ok (.iload_n 2, 1) := by decide +kernel
theorem dX8_explanation_64 : decode cX8_explanation 64 = .ok (.iconst (-1), 1) := by decide +kernel
theorem dX8_explanation_65 : decode cX8_explanation 65 = .ok (.if_icmp .ne 13, 3) := by decide +kernel
theorem dX8_explanation_68 : decode cX8_explanation 68 = .ok (.aload_n 0, 1) := by decide +kernel
theorem dX8_explanation_69 : decode cX8_explanation 69 = .ok (.getfield 61, 3) := by decide +kernel
theorem dX8_explanation_72 : decode cX8_explanation 72 = .ok (.getfield 189, 3) := by decide +kernel
theorem dX8_explanation_75 : decode cX8_explanation 75 = .ok (.goto 11, 3) := by decide +kernel
theorem dX8_explanation_78 : decode cX8_explanation 78 = .ok (.aload_n 0, 1) := by decide +kernel
theorem dX8_explanation_79 : decode cX8_explanation 79 = .ok (.getfield 61, 3) := by decide +kernel
theorem dX8_explanation_82 : decode cX8_explanation 82 = .ok (.iload_n 2, 1) := by decide +kernel
theorem dX8_explanation_83 : decode cX8_explanation 83 = .ok (.invokevirtual 192, 3) := by decide +kernel
theorem dX8_explanation_86 : decode cX8_explanation 86 = .ok (.ireturn, 1) := by decide +kernel
theorem dX8_append_0 : decode cX8_append 0 = .ok (.iload_n 1, 1) := by decide +kernel
theorem dX8_append_1 : decode cX8_append 1 = .ok (.ifCond .lt 9, 3) := by decide +kernel
theorem dX8_append_4 : decode cX8_append 4 = .ok (.iload_n 1, 1) := by decide +kernel
theorem dX8_append_5 : decode cX8_append 5 = .ok (.bipush 127, 2) := by decide +kernel
theorem dX8_append_7 : decode cX8_append 7 = .ok (.if_icmp .le 10, 3) := by decide +kernel
theorem dX8_append_10 : decode cX8_append 10 = .ok (.aload_n 0, 1) := by decide +kernel
theorem dX8_append_11 : decode cX8_append 11 = .ok (.bipush (-2), 2) := by decide +kernel
theorem dX8_append_13 : decode cX8_append 13 = .ok (.invokevirtual 83, 3) := by decide +kernel
theorem dX8_append_16 : decode cX8_append 16 = .ok (.ireturn, 1) := by decide +kernel
theorem dX8_append_17 : decode cX8_append 17 = .ok (.aload_n 0, 1) := by decide +kernel
theorem dX8_append_18 : decode cX8_append 18 = .ok (.getfield 26, 3) := by decide +kernel
theorem dX8_append_21 : decode cX8_append 21 = .ok (.getfield 195, 3) := by decide +kernel
theorem dX8_append_24 : decode cX8_append 24 = .ok (.sipush 150, 3) := by decide +kernel
theorem dX8_append_27 : decode cX8_append 27 = .ok (.if_icmp .lt 10, 3) := by decide +kernel
theorem dX8_append_30 : decode cX8_append 30 = .ok (.aload_n 0, 1) := by decide +kernel
theorem dX8_append_31 : decode cX8_append 31 = .ok (.bipush (-4), 2) := by decide +kernel
theorem dX8_append_33 : decode cX8_append 33 = .ok (.invokevirtual 83, 3) := by decide +kernel
theorem dX8_append_36 : decode cX8_append 36 = .ok (.ireturn, 1) := by decide +kernel
theorem dX8_append_37 : decode cX8_append 37 = .ok (.aload_n 0, 1) := by decide +kernel
theorem dX8_append_38 : decode cX8_append 38 = .ok (.getfield 26, 3) := by decide +kernel
theorem dX8_append_41 : decode cX8_append 41 = .ok (.iload_n 1, 1) := by decide +kernel
theorem dX8_append_42 : decode cX8_append 42 = .ok (.invokevirtual 198, 3) := by decide +kernel
theorem dX8_append_45 : decode cX8_append 45 = .ok (.aload_n 0, 1) := by decide +kernel
theorem dX8_append_46 : decode cX8_append 46 = .ok (.getfield 26, 3) := by decide +kernel
theorem dX8_append_49 : decode cX8_append 49 = .ok (.getfield 195, 3) := by decide +kernel
theorem dX8_append_52 : decode cX8_append 52 = .ok (.ireturn, 1) := by decide +kernel
theorem dX8_clearText_0 : decode cX8_clearText 0 = .ok (.aload_n 0, 1) := by decide +kernel
theorem dX8_clearText_1 : decode cX8_clearText 1 = .ok (.getfield 26, 3) := by decide +kernel
theorem dX8_clearText_4 : decode cX8_clearText 4 = .ok (.getfield 195, 3) := by decide +kernel
theorem dX8_clearText_7 : decode cX8_clearText 7 = .ok (.istore_n 1, 1) := by decide +kernel
theorem dX8_clearText_8 : decode cX8_clearText 8 = .ok (.aload_n 0, 1) := by decide +kernel
theorem dX8_clearText_9 : decode cX8_clearText 9 = .ok (.getfield 26, 3) := by decide +kernel
theorem dX8_clearText_12 : decode cX8_clearText 12 = .ok (.iconst 0, 1) := by decide +kernel
theorem dX8_clearText_13 : decode cX8_clearText 13 = .ok (.putfield 195, 3) := by decide +kernel
theorem dX8_clearText_16 : decode cX8_clearText 16 = .ok (.iload_n 1, 1) := by decide +kernel
theorem dX8_clearText_17 : decode cX8_clearText 17 = .ok (.ireturn, 1) := by decide +kernel
theorem dX8_parse_0 : decode cX8_parse 0 = .ok (.aload_n 0, 1) := by decide +kernel
theorem dX8_parse_1 : decode cX8_parse 1 = .ok (.getfield 33, 3) := by decide +kernel
theorem dX8_parse_4 : decode cX8_parse 4 = .ok (.aload_n 0, 1) := by decide +kernel
theorem dX8_parse_5 : decode cX8_parse 5 = .ok (.getfield 26, 3) := by decide +kernel
theorem dX8_parse_8 : decode cX8_parse 8 = .ok (.bipush 16, 2) := by decide +kernel
theorem dX8_parse_10 : decode cX8_parse 10 = .ok (.aload_n 0, 1) := by decide +kernel
theorem dX8_parse_11 : decode cX8_parse 11 = .ok (.getfield 12, 3) := by decide +kernel
theorem dX8_parse_14 : decode cX8_parse 14 = .ok (.getfield 91, 3) := by decide +kernel
theorem dX8_parse_17 : decode cX8_parse 17 = .ok (.isub, 1) := by decide +kernel
theorem dX8_parse_18 : decode cX8_parse 18 = .ok (.invokevirtual 201, 3) := by decide +kernel
theorem dX8_parse_21 : decode cX8_parse 21 = .ok (.istore_n 1, 1) := by decide +kernel
theorem dX8_parse_22 : decode cX8_parse 22 = .ok (.iload_n 1, 1) := by decide +kernel
theorem dX8_parse_23 : decode cX8_parse 23 = .ok (.iconst (-1), 1) := by decide +kernel
theorem dX8_parse_24 : decode cX8_parse 24 = .ok (.if_icmp .eq 8, 3) := by decide +kernel
theorem dX8_parse_27 : decode cX8_parse 27 = .ok (.bipush (-10), 2) := by decide +kernel
theorem dX8_parse_29 : decode cX8_parse 29 = .ok (.iload_n 1, 1) := by decide +kernel
theorem dX8_parse_30 : decode cX8_parse 30 = .ok (.isub, 1) := by decide +kernel
theorem dX8_parse_31 : decode cX8_parse 31 = .ok (.ireturn, 1) := by decide +kernel
theorem dX8_parse_32 : decode cX8_parse 32 = .ok (.aload_n 0, 1) := by decide +kernel
theorem dX8_parse_33 : decode cX8_parse 33 = .ok (.getfield 19, 3) := by decide +kernel
theorem dX8_parse_36 : decode cX8_parse 36 = .ok (.aload_n 0, 1) := by decide +kernel
theorem dX8_parse_37 : decode cX8_parse 37 = .ok (.getfield 12, 3) := by decide +kernel
theorem dX8_parse_40 : decode cX8_parse 40 = .ok (.invokevirtual 95, 3) := by decide +kernel
theorem dX8_parse_43 : decode cX8_parse 43 = .ok (.iconst 0, 1) := by decide +kernel
theorem dX8_parse_44 : decode cX8_parse 44 = .ok (.istore_n 2, 1) := by decide +kernel
theorem dX8_parse_45 : decode cX8_parse 45 = .ok (.iload_n 2, 1) := by decide +kernel
theorem dX8_parse_46 : decode cX8_parse 46 = .ok (.aload_n 0, 1) := by decide +kernel
theorem dX8_parse_47 : decode cX8_parse 47 = .ok (.getfield 33, 3) := by decide +kernel
theorem dX8_parse_50 : decode cX8_parse 50 = .ok (.getfield 205, 3) := by decide +kernel
theorem dX8_parse_53 : decode cX8_parse 53 = .ok (.if_icmp .ge 24, 3) := by decide +kernel
theorem dX8_parse_56 : decode cX8_parse 56 = .ok (.aload_n 0, 1) := by decide +kernel
theorem dX8_parse_57 : decode cX8_parse 57 = .ok (.getfield 12, 3) := by decide +kernel
theorem dX8_parse_60 : decode cX8_parse 60 = .ok (.aload_n 0, 1) := by decide +kernel
theorem dX8_parse_61 : decode cX8_parse 61 = .ok (.getfield 33, 3) := by decide +kernel
theorem dX8_parse_64 : decode cX8_parse 64 = .ok (.iload_n 2, 1) := by decide +kernel
theorem dX8_parse_65 : decode cX8_parse 65 = .ok (.invokevirtual 208, 3) := by decide +kernel
theorem dX8_parse_68 : decode cX8_parse 68 = .ok (.invokevirtual 102, 3) := by decide +kernel
theorem dX8_parse_71 : decode cX8_parse 71 = .ok (.iinc 2 1, 3) := by decide +kernel
theorem dX8_parse_74 : decode cX8_parse 74 = .ok (.goto (-29), 3) := by decide +kernel
theorem dX8_parse_77 : decode cX8_parse 77 = .ok (.aload_n 0, 1) := by decide +kernel
theorem dX8_parse_78 : decode cX8_parse 78 = .ok (.invokevirtual 106, 3) := by decide +kernel
theorem dX8_parse_81 : decode cX8_parse 81 = .ok (.aload_n 0, 1) := by decide +kernel
theorem dX8_parse_82 : decode cX8_parse 82 = .ok (.getfield 33, 3) := by decide +kernel
theorem dX8_parse_85 : decode cX8_parse 85 = .ok (.getfield 205, 3) := by decide +kernel
theorem dX8_parse_88 : decode cX8_parse 88 = .ok (.ireturn, 1) := by decide +kernel
theorem dX8_undo_0 : decode cX8_undo 0 = .ok (.aload_n 0, 1) := by decide +kernel
theorem dX8_undo_1 : decode cX8_undo 1 = .ok (.getfield 19, 3) := by decide +kernel
theorem dX8_undo_4 : decode cX8_undo 4 = .ok (.getfield 209, 3) := by decide +kernel
theorem dX8_undo_7 : decode cX8_undo 7 = .ok (.ifCond .ne 10, 3) := by decide +kernel
theorem dX8_undo_10 : decode cX8_undo 10 = .ok (.aload_n 0, 1) := by decide +kernel
theorem dX8_undo_11 : decode cX8_undo 11 = .ok (.bipush (-5), 2) := by decide +kernel
theorem dX8_undo_13 : decode cX8_undo 13 = .ok (.invokevirtual 83, 3) := by decide +kernel
theorem dX8_undo_16 : decode cX8_undo 16 = .ok (.ireturn, 1) := by decide +kernel
theorem dX8_undo_17 : decode cX8_undo 17 = .ok (.aload_n 0, 1) := by decide +kernel
theorem dX8_undo_18 : decode cX8_undo 18 = .ok (.getfield 19, 3) := by decide +kernel
theorem dX8_undo_21 : decode cX8_undo 21 = .ok (.aload_n 0, 1) := by decide +kernel
theorem dX8_undo_22 : decode cX8_undo 22 = .ok (.getfield 12, 3) := by decide +kernel
theorem dX8_undo_25 : decode cX8_undo 25 = .ok (.invokevirtual 212, 3) := by decide +kernel
theorem dX8_undo_28 : decode cX8_undo 28 = .ok (.aload_n 0, 1) := by decide +kernel
theorem dX8_undo_29 : decode cX8_undo 29 = .ok (.invokevirtual 106, 3) := by decide +kernel
theorem dX8_undo_32 : decode cX8_undo 32 = .ok (.aload_n 0, 1) := by decide +kernel
theorem dX8_undo_33 : decode cX8_undo 33 = .ok (.getfield 19, 3) := by decide +kernel
theorem dX8_undo_36 : decode cX8_undo 36 = .ok (.getfield 209, 3) := by decide +kernel
theorem dX8_undo_39 : decode cX8_undo 39 = .ok (.ireturn, 1) := by decide +kernel
theorem dX8_errorCount_0 : decode cX8_errorCount 0 = .ok (.iload_n 1, 1) := by decide +kernel
theorem dX8_errorCount_1 : decode cX8_errorCount 1 = .ok (.invokestatic 215, 3) := by decide +kernel
theorem dX8_errorCount_4 : decode cX8_errorCount 4 = .ok (.ifCond .ne 10, 3) := by decide +kernel
theorem dX8_errorCount_7 : decode cX8_errorCount 7 = .ok (.aload_n 0, 1) := by decide +kernel
theorem dX8_errorCount_8 : decode cX8_errorCount 8 = .ok (.bipush (-2), 2) := by decide +kernel
theorem dX8_errorCount_10 : decode cX8_errorCount 10 = .ok (.invokevirtual 83, 3) := by decide +kernel
theorem dX8_errorCount_13 : decode cX8_errorCount 13 = .ok (.ireturn, 1) := by decide +kernel
theorem dX8_errorCount_14 : decode cX8_errorCount 14 = .ok (.aload_n 0, 1) := by decide +kernel
theorem dX8_errorCount_15 : decode cX8_errorCount 15 = .ok (.getfield 65, 3) := by decide +kernel
theorem dX8_errorCount_18 : decode cX8_errorCount 18 = .ok (.bipush (-2), 2) := by decide +kernel
theorem dX8_errorCount_20 : decode cX8_errorCount 20 = .ok (.iload_n 1, 1) := by decide +kernel
theorem dX8_errorCount_21 : decode cX8_errorCount 21 = .ok (.isub, 1) := by decide +kernel
theorem dX8_errorCount_22 : decode cX8_errorCount 22 = .ok (.iaload, 1) := by decide +kernel
theorem dX8_errorCount_23 : decode cX8_errorCount 23 = .ok (.ireturn, 1) := by decide +kernel
theorem dX8_digest_0 : decode cX8_digest 0 = .ok (.ldc2_w 218, 3) := by decide +kernel
theorem dX8_digest_3 : decode cX8_digest 3 = .ok (.lstore_n 1, 1) := by decide +kernel
theorem dX8_digest_4 : decode cX8_digest 4 = .ok (.iconst 0, 1) := by decide +kernel
theorem dX8_digest_5 : decode cX8_digest 5 = .ok (.istore_n 3, 1) := by decide +kernel
theorem dX8_digest_6 : decode cX8_digest 6 = .ok (.iload_n 3, 1) := by decide +kernel
theorem dX8_digest_7 : decode cX8_digest 7 = .ok (.iconst 4, 1) := by decide +kernel
theorem dX8_digest_8 : decode cX8_digest 8 = .ok (.if_icmp .ge 23, 3) := by decide +kernel
theorem dX8_digest_11 : decode cX8_digest 11 = .ok (.ldc2_w 220, 3) := by decide +kernel
theorem dX8_digest_14 : decode cX8_digest 14 = .ok (.lload_n 1, 1) := by decide +kernel
theorem dX8_digest_15 : decode cX8_digest 15 = .ok (.lmul, 1) := by decide +kernel
theorem dX8_digest_16 : decode cX8_digest 16 = .ok (.aload_n 0, 1) := by decide +kernel
theorem dX8_digest_17 : decode cX8_digest 17 = .ok (.getfield 65, 3) := by decide +kernel
theorem dX8_digest_20 : decode cX8_digest 20 = .ok (.iload_n 3, 1) := by decide +kernel
theorem dX8_digest_21 : decode cX8_digest 21 = .ok (.iaload, 1) := by decide +kernel
theorem dX8_digest_22 : decode cX8_digest 22 = .ok (.i2l, 1) := by decide +kernel
theorem dX8_digest_23 : decode cX8_digest 23 = .ok (.ladd, 1) := by decide +kernel
theorem dX8_digest_24 : decode cX8_digest 24 = .ok (.lstore_n 1, 1) := by decide +kernel
theorem dX8_digest_25 : decode cX8_digest 25 = .ok (.iinc 3 1, 3) := by decide +kernel
theorem dX8_digest_28 : decode cX8_digest 28 = .ok (.goto (-22), 3) := by decide +kernel
theorem dX8_digest_31 : decode cX8_digest 31 = .ok (.ldc2_w 220, 3) := by decide +kernel
theorem dX8_digest_34 : decode cX8_digest 34 = .ok (.lload_n 1, 1) := by decide +kernel
theorem dX8_digest_35 : decode cX8_digest 35 = .ok (.lmul, 1) := by decide +kernel
theorem dX8_digest_36 : decode cX8_digest 36 = .ok (.aload_n 0, 1) := by decide +kernel
theorem dX8_digest_37 : decode cX8_digest 37 = .ok (.getfield 26, 3) := by decide +kernel
theorem dX8_digest_40 : decode cX8_digest 40 = .ok (.getfield 195, 3) := by decide +kernel
theorem dX8_digest_43 : decode cX8_digest 43 = .ok (.i2l, 1) := by decide +kernel
theorem dX8_digest_44 : decode cX8_digest 44 = .ok (.ladd, 1) := by decide +kernel
theorem dX8_digest_45 : decode cX8_digest 45 = .ok (.lstore_n 1, 1) := by decide +kernel
theorem dX8_digest_46 : decode cX8_digest 46 = .ok (.ldc2_w 220, 3) := by decide +kernel
theorem dX8_digest_49 : decode cX8_digest 49 = .ok (.lload_n 1, 1) := by decide +kernel
theorem dX8_digest_50 : decode cX8_digest 50 = .ok (.lmul, 1) := by decide +kernel
theorem dX8_digest_51 : decode cX8_digest 51 = .ok (.aload_n 0, 1) := by decide +kernel
theorem dX8_digest_52 : decode cX8_digest 52 = .ok (.getfield 12, 3) := by decide +kernel
theorem dX8_digest_55 : decode cX8_digest 55 = .ok (.getfield 91, 3) := by decide +kernel
theorem dX8_digest_58 : decode cX8_digest 58 = .ok (.i2l, 1) := by decide +kernel
theorem dX8_digest_59 : decode cX8_digest 59 = .ok (.ladd, 1) := by decide +kernel
theorem dX8_digest_60 : decode cX8_digest 60 = .ok (.lstore_n 1, 1) := by decide +kernel
theorem dX8_digest_61 : decode cX8_digest 61 = .ok (.iconst 0, 1) := by decide +kernel
theorem dX8_digest_62 : decode cX8_digest 62 = .ok (.istore_n 3, 1) := by decide +kernel
theorem dX8_digest_63 : decode cX8_digest 63 = .ok (.iload_n 3, 1) := by decide +kernel
theorem dX8_digest_64 : decode cX8_digest 64 = .ok (.aload_n 0, 1) := by decide +kernel
theorem dX8_digest_65 : decode cX8_digest 65 = .ok (.getfield 12, 3) := by decide +kernel
theorem dX8_digest_68 : decode cX8_digest 68 = .ok (.getfield 91, 3) := by decide +kernel
theorem dX8_digest_71 : decode cX8_digest 71 = .ok (.if_icmp .ge 28, 3) := by decide +kernel
theorem dX8_digest_74 : decode cX8_digest 74 = .ok (.ldc2_w 220, 3) := by decide +kernel
theorem dX8_digest_77 : decode cX8_digest 77 = .ok (.lload_n 1, 1) := by decide +kernel
theorem dX8_digest_78 : decode cX8_digest 78 = .ok (.lmul, 1) := by decide +kernel
theorem dX8_digest_79 : decode cX8_digest 79 = .ok (.aload_n 0, 1) := by decide +kernel
theorem dX8_digest_80 : decode cX8_digest 80 = .ok (.getfield 12, 3) := by decide +kernel
theorem dX8_digest_83 : decode cX8_digest 83 = .ok (.iload_n 3, 1) := by decide +kernel
theorem dX8_digest_84 : decode cX8_digest 84 = .ok (.invokevirtual 115, 3) := by decide +kernel
theorem dX8_digest_87 : decode cX8_digest 87 = .ok (.invokestatic 118, 3) := by decide +kernel
theorem dX8_digest_90 : decode cX8_digest 90 = .ok (.i2l, 1) := by decide +kernel
theorem dX8_digest_91 : decode cX8_digest 91 = .ok (.ladd, 1) := by decide +kernel
theorem dX8_digest_92 : decode cX8_digest 92 = .ok (.lstore_n 1, 1) := by decide +kernel
theorem dX8_digest_93 : decode cX8_digest 93 = .ok (.iinc 3 1, 3) := by decide +kernel
theorem dX8_digest_96 : decode cX8_digest 96 = .ok (.goto (-33), 3) := by decide +kernel
theorem dX8_digest_99 : decode cX8_digest 99 = .ok (.ldc2_w 220, 3) := by decide +kernel
theorem dX8_digest_102 : decode cX8_digest 102 = .ok (.lload_n 1, 1) := by decide +kernel
theorem dX8_digest_103 : decode cX8_digest 103 = .ok (.lmul, 1) := by decide +kernel
theorem dX8_digest_104 : decode cX8_digest 104 = .ok (.aload_n 0, 1) := by decide +kernel
theorem dX8_digest_105 : decode cX8_digest 105 = .ok (.getfield 12, 3) := by decide +kernel
theorem dX8_digest_108 : decode cX8_digest 108 = .ok (.getfield 123, 3) := by decide +kernel
theorem dX8_digest_111 : decode cX8_digest 111 = .ok (.invokestatic 118, 3) := by decide +kernel
theorem dX8_digest_114 : decode cX8_digest 114 = .ok (.i2l, 1) := by decide +kernel
theorem dX8_digest_115 : decode cX8_digest 115 = .ok (.ladd, 1) := by decide +kernel
theorem dX8_digest_116 : decode cX8_digest 116 = .ok (.lstore_n 1, 1) := by decide +kernel
theorem dX8_digest_117 : decode cX8_digest 117 = .ok (.iconst 2, 1) := by decide +kernel
theorem dX8_digest_118 : decode cX8_digest 118 = .ok (.istore_n 3, 1) := by decide +kernel
theorem dX8_digest_119 : decode cX8_digest 119 = .ok (.iload_n 3, 1) := by decide +kernel
theorem dX8_digest_120 : decode cX8_digest 120 = .ok (.bipush 21, 2) := by decide +kernel
theorem dX8_digest_122 : decode cX8_digest 122 = .ok (.if_icmp .gt 25, 3) := by decide +kernel
theorem dX8_digest_125 : decode cX8_digest 125 = .ok (.ldc2_w 220, 3) := by decide +kernel
theorem dX8_digest_128 : decode cX8_digest 128 = .ok (.lload_n 1, 1) := by decide +kernel
theorem dX8_digest_129 : decode cX8_digest 129 = .ok (.lmul, 1) := by decide +kernel
theorem dX8_digest_130 : decode cX8_digest 130 = .ok (.aload_n 0, 1) := by decide +kernel
theorem dX8_digest_131 : decode cX8_digest 131 = .ok (.getfield 12, 3) := by decide +kernel
theorem dX8_digest_134 : decode cX8_digest 134 = .ok (.iload_n 3, 1) := by decide +kernel
theorem dX8_digest_135 : decode cX8_digest 135 = .ok (.invokevirtual 222, 3) := by decide +kernel
theorem dX8_digest_138 : decode cX8_digest 138 = .ok (.i2l, 1) := by decide +kernel
theorem dX8_digest_139 : decode cX8_digest 139 = .ok (.ladd, 1) := by decide +kernel
theorem dX8_digest_140 : decode cX8_digest 140 = .ok (.lstore_n 1, 1) := by decide +kernel
theorem dX8_digest_141 : decode cX8_digest 141 = .ok (.iinc 3 1, 3) := by decide +kernel
theorem dX8_digest_144 : decode cX8_digest 144 = .ok (.goto (-25), 3) := by decide +kernel
theorem dX8_digest_147 : decode cX8_digest 147 = .ok (.lload_n 1, 1) := by decide +kernel
theorem dX8_digest_148 : decode cX8_digest 148 = .ok (.aload_n 0, 1) := by decide +kernel
theorem dX8_digest_149 : decode cX8_digest 149 = .ok (.invokevirtual 136, 3) := by decide +kernel
theorem dX8_digest_152 : decode cX8_digest 152 = .ok (.invokestatic 225, 3) := by decide +kernel
theorem dX8_digest_155 : decode cX8_digest 155 = .ok (.lstore_n 1, 1) := by decide +kernel
theorem dX8_digest_156 : decode cX8_digest 156 = .ok (.aload_n 0, 1) := by decide +kernel
theorem dX8_digest_157 : decode cX8_digest 157 = .ok (.invokevirtual 159, 3) := by decide +kernel
theorem dX8_digest_160 : decode cX8_digest 160 = .ok (.astore_n 3, 1) := by decide +kernel
theorem dX8_digest_161 : decode cX8_digest 161 = .ok (.ldc2_w 220, 3) := by decide +kernel
theorem dX8_digest_164 : decode cX8_digest 164 = .ok (.lload_n 1, 1) := by decide +kernel
theorem dX8_digest_165 : decode cX8_digest 165 = .ok (.lmul, 1) := by decide +kernel
theorem dX8_digest_166 : decode cX8_digest 166 = .ok (.aload_n 3, 1) := by decide +kernel
theorem dX8_digest_167 : decode cX8_digest 167 = .ok (.invokevirtual 163, 3) := by decide +kernel
theorem dX8_digest_170 : decode cX8_digest 170 = .ok (.i2l, 1) := by decide +kernel
theorem dX8_digest_171 : decode cX8_digest 171 = .ok (.ladd, 1) := by decide +kernel
theorem dX8_digest_172 : decode cX8_digest 172 = .ok (.lstore_n 1, 1) := by decide +kernel
theorem dX8_digest_173 : decode cX8_digest 173 = .ok (.ldc2_w 220, 3) := by decide +kernel
theorem dX8_digest_176 : decode cX8_digest 176 = .ok (.lload_n 1, 1) := by decide +kernel
theorem dX8_digest_177 : decode cX8_digest 177 = .ok (.lmul, 1) := by decide +kernel
theorem dX8_digest_178 : decode cX8_digest 178 = .ok (.aload_n 0, 1) := by decide +kernel
theorem dX8_digest_179 : decode cX8_digest 179 = .ok (.getfield 54, 3) := by decide +kernel
theorem dX8_digest_182 : decode cX8_digest 182 = .ok (.aload_n 3, 1) := by decide +kernel
theorem dX8_digest_183 : decode cX8_digest 183 = .ok (.aload_n 0, 1) := by decide +kernel
theorem dX8_digest_184 : decode cX8_digest 184 = .ok (.getfield 12, 3) := by decide +kernel
theorem dX8_digest_187 : decode cX8_digest 187 = .ok (.invokevirtual 169, 3) := by decide +kernel
theorem dX8_digest_190 : decode cX8_digest 190 = .ok (.ladd, 1) := by decide +kernel
theorem dX8_digest_191 : decode cX8_digest 191 = .ok (.lstore_n 1, 1) := by decide +kernel
theorem dX8_digest_192 : decode cX8_digest 192 = .ok (.ldc2_w 220, 3) := by decide +kernel
theorem dX8_digest_195 : decode cX8_digest 195 = .ok (.lload_n 1, 1) := by decide +kernel
theorem dX8_digest_196 : decode cX8_digest 196 = .ok (.lmul, 1) := by decide +kernel
theorem dX8_digest_197 : decode cX8_digest 197 = .ok (.aload_n 3, 1) := by decide +kernel
theorem dX8_digest_198 : decode cX8_digest 198 = .ok (.invokevirtual 179, 3) := by decide +kernel
theorem dX8_digest_201 : decode cX8_digest 201 = .ok (.i2l, 1) := by decide +kernel
theorem dX8_digest_202 : decode cX8_digest 202 = .ok (.ladd, 1) := by decide +kernel
theorem dX8_digest_203 : decode cX8_digest 203 = .ok (.lstore_n 1, 1) := by decide +kernel
theorem dX8_digest_204 : decode cX8_digest 204 = .ok (.ldc2_w 220, 3) := by decide +kernel
theorem dX8_digest_207 : decode cX8_digest 207 = .ok (.lload_n 1, 1) := by decide +kernel
theorem dX8_digest_208 : decode cX8_digest 208 = .ok (.lmul, 1) := by decide +kernel
theorem dX8_digest_209 : decode cX8_digest 209 = .ok (.aload_n 0, 1) := by decide +kernel
theorem dX8_digest_210 : decode cX8_digest 210 = .ok (.getfield 19, 3) := by decide +kernel
theorem dX8_digest_213 : decode cX8_digest 213 = .ok (.getfield 209, 3) := by decide +kernel
theorem dX8_digest_216 : decode cX8_digest 216 = .ok (.i2l, 1) := by decide +kernel
theorem dX8_digest_217 : decode cX8_digest 217 = .ok (.ladd, 1) := by decide +kernel
theorem dX8_digest_218 : decode cX8_digest 218 = .ok (.lreturn, 1) := by decide +kernel
theorem dX8_fail_0 : decode cX8_fail 0 = .ok (.iload_n 1, 1) := by decide +kernel
theorem dX8_fail_1 : decode cX8_fail 1 = .ok (.invokestatic 215, 3) := by decide +kernel
theorem dX8_fail_4 : decode cX8_fail 4 = .ok (.ifCond .eq 16, 3) := by decide +kernel
theorem dX8_fail_7 : decode cX8_fail 7 = .ok (.aload_n 0, 1) := by decide +kernel
theorem dX8_fail_8 : decode cX8_fail 8 = .ok (.getfield 65, 3) := by decide +kernel
theorem dX8_fail_11 : decode cX8_fail 11 = .ok (.bipush (-2), 2) := by decide +kernel
theorem dX8_fail_13 : decode cX8_fail 13 = .ok (.iload_n 1, 1) := by decide +kernel
theorem dX8_fail_14 : decode cX8_fail 14 = .ok (.isub, 1) := by decide +kernel
theorem dX8_fail_15 : decode cX8_fail 15 = .ok (.dup2, 1) := by decide +kernel
theorem dX8_fail_16 : decode cX8_fail 16 = .ok (.iaload, 1) := by decide +kernel
theorem dX8_fail_17 : decode cX8_fail 17 = .ok (.iconst 1, 1) := by decide +kernel
theorem dX8_fail_18 : decode cX8_fail 18 = .ok (.iadd, 1) := by decide +kernel
theorem dX8_fail_19 : decode cX8_fail 19 = .ok (.iastore, 1) := by decide +kernel
theorem dX8_fail_20 : decode cX8_fail 20 = .ok (.iload_n 1, 1) := by decide +kernel
theorem dX8_fail_21 : decode cX8_fail 21 = .ok (.ireturn, 1) := by decide +kernel
theorem dX8_digestOfGraph_0 : decode cX8_digestOfGraph 0 = .ok (.ldc2_w 220, 3) := by decide +kernel
theorem dX8_digestOfGraph_3 : decode cX8_digestOfGraph 3 = .ok (.lload_n 0, 1) := by decide +kernel
theorem dX8_digestOfGraph_4 : decode cX8_digestOfGraph 4 = .ok (.lmul, 1) := by decide +kernel
theorem dX8_digestOfGraph_5 : decode cX8_digestOfGraph 5 = .ok (.aload_n 2, 1) := by decide +kernel
theorem dX8_digestOfGraph_6 : decode cX8_digestOfGraph 6 = .ok (.invokevirtual 140, 3) := by decide +kernel
theorem dX8_digestOfGraph_9 : decode cX8_digestOfGraph 9 = .ok (.i2l, 1) := by decide +kernel
theorem dX8_digestOfGraph_10 : decode cX8_digestOfGraph 10 = .ok (.ladd, 1) := by decide +kernel
theorem dX8_digestOfGraph_11 : decode cX8_digestOfGraph 11 = .ok (.lstore_n 3, 1) := by decide +kernel
theorem dX8_digestOfGraph_12 : decode cX8_digestOfGraph 12 = .ok (.ldc2_w 220, 3) := by decide +kernel
theorem dX8_digestOfGraph_15 : decode cX8_digestOfGraph 15 = .ok (.lload_n 3, 1) := by decide +kernel
theorem dX8_digestOfGraph_16 : decode cX8_digestOfGraph 16 = .ok (.lmul, 1) := by decide +kernel
theorem dX8_digestOfGraph_17 : decode cX8_digestOfGraph 17 = .ok (.aload_n 2, 1) := by decide +kernel
theorem dX8_digestOfGraph_18 : decode cX8_digestOfGraph 18 = .ok (.getfield 144, 3) := by decide +kernel
theorem dX8_digestOfGraph_21 : decode cX8_digestOfGraph 21 = .ok (.i2l, 1) := by decide +kernel
theorem dX8_digestOfGraph_22 : decode cX8_digestOfGraph 22 = .ok (.ladd, 1) := by decide +kernel
theorem dX8_digestOfGraph_23 : decode cX8_digestOfGraph 23 = .ok (.lstore_n 3, 1) := by decide +kernel
theorem dX8_digestOfGraph_24 : decode cX8_digestOfGraph 24 = .ok (.ldc2_w 220, 3) := by decide +kernel
theorem dX8_digestOfGraph_27 : decode cX8_digestOfGraph 27 = .ok (.lload_n 3, 1) := by decide +kernel
theorem dX8_digestOfGraph_28 : decode cX8_digestOfGraph 28 = .ok (.lmul, 1) := by decide +kernel
theorem dX8_digestOfGraph_29 : decode cX8_digestOfGraph 29 = .ok (.aload_n 2, 1) := by decide +kernel
theorem dX8_digestOfGraph_30 : decode cX8_digestOfGraph 30 = .ok (.getfield 147, 3) := by decide +kernel
theorem dX8_digestOfGraph_33 : decode cX8_digestOfGraph 33 = .ok (.i2l, 1) := by decide +kernel
theorem dX8_digestOfGraph_34 : decode cX8_digestOfGraph 34 = .ok (.ladd, 1) := by decide +kernel
theorem dX8_digestOfGraph_35 : decode cX8_digestOfGraph 35 = .ok (.lstore_n 3, 1) := by decide +kernel
theorem dX8_digestOfGraph_36 : decode cX8_digestOfGraph 36 = .ok (.ldc2_w 220, 3) := by decide +kernel
theorem dX8_digestOfGraph_39 : decode cX8_digestOfGraph 39 = .ok (.lload_n 3, 1) := by decide +kernel
theorem dX8_digestOfGraph_40 : decode cX8_digestOfGraph 40 = .ok (.lmul, 1) := by decide +kernel
theorem dX8_digestOfGraph_41 : decode cX8_digestOfGraph 41 = .ok (.aload_n 2, 1) := by decide +kernel
theorem dX8_digestOfGraph_42 : decode cX8_digestOfGraph 42 = .ok (.getfield 150, 3) := by decide +kernel
theorem dX8_digestOfGraph_45 : decode cX8_digestOfGraph 45 = .ok (.i2l, 1) := by decide +kernel
theorem dX8_digestOfGraph_46 : decode cX8_digestOfGraph 46 = .ok (.ladd, 1) := by decide +kernel
theorem dX8_digestOfGraph_47 : decode cX8_digestOfGraph 47 = .ok (.lstore_n 3, 1) := by decide +kernel
theorem dX8_digestOfGraph_48 : decode cX8_digestOfGraph 48 = .ok (.ldc2_w 220, 3) := by decide +kernel
theorem dX8_digestOfGraph_51 : decode cX8_digestOfGraph 51 = .ok (.lload_n 3, 1) := by decide +kernel
theorem dX8_digestOfGraph_52 : decode cX8_digestOfGraph 52 = .ok (.lmul, 1) := by decide +kernel
theorem dX8_digestOfGraph_53 : decode cX8_digestOfGraph 53 = .ok (.aload_n 2, 1) := by decide +kernel
theorem dX8_digestOfGraph_54 : decode cX8_digestOfGraph 54 = .ok (.invokevirtual 153, 3) := by decide +kernel
theorem dX8_digestOfGraph_57 : decode cX8_digestOfGraph 57 = .ok (.i2l, 1) := by decide +kernel
theorem dX8_digestOfGraph_58 : decode cX8_digestOfGraph 58 = .ok (.ladd, 1) := by decide +kernel
theorem dX8_digestOfGraph_59 : decode cX8_digestOfGraph 59 = .ok (.lstore_n 3, 1) := by decide +kernel
theorem dX8_digestOfGraph_60 : decode cX8_digestOfGraph 60 = .ok (.ldc2_w 220, 3) := by decide +kernel
theorem dX8_digestOfGraph_63 : decode cX8_digestOfGraph 63 = .ok (.lload_n 3, 1) := by decide +kernel
theorem dX8_digestOfGraph_64 : decode cX8_digestOfGraph 64 = .ok (.lmul, 1) := by decide +kernel
theorem dX8_digestOfGraph_65 : decode cX8_digestOfGraph 65 = .ok (.aload_n 2, 1) := by decide +kernel
theorem dX8_digestOfGraph_66 : decode cX8_digestOfGraph 66 = .ok (.invokevirtual 156, 3) := by decide +kernel
theorem dX8_digestOfGraph_69 : decode cX8_digestOfGraph 69 = .ok (.i2l, 1) := by decide +kernel
theorem dX8_digestOfGraph_70 : decode cX8_digestOfGraph 70 = .ok (.ladd, 1) := by decide +kernel
theorem dX8_digestOfGraph_71 : decode cX8_digestOfGraph 71 = .ok (.lreturn, 1) := by decide +kernel
theorem dX8_formulaHasChanged_0 : decode cX8_formulaHasChanged 0 = .ok (.aload_n 0, 1) := by decide +kernel
theorem dX8_formulaHasChanged_1 : decode cX8_formulaHasChanged 1 = .ok (.iconst 0, 1) := by decide +kernel
theorem dX8_formulaHasChanged_2 : decode cX8_formulaHasChanged 2 = .ok (.putfield 69, 3) := by decide +kernel
theorem dX8_formulaHasChanged_5 : decode cX8_formulaHasChanged 5 = .ok (.aload_n 0, 1) := by decide +kernel
theorem dX8_formulaHasChanged_6 : decode cX8_formulaHasChanged 6 = .ok (.iconst 0, 1) := by decide +kernel
theorem dX8_formulaHasChanged_7 : decode cX8_formulaHasChanged 7 = .ok (.putfield 73, 3) := by decide +kernel
theorem dX8_formulaHasChanged_10 : decode cX8_formulaHasChanged 10 = .ok (.aload_n 0, 1) := by decide +kernel
theorem dX8_formulaHasChanged_11 : decode cX8_formulaHasChanged 11 = .ok (.getfield 61, 3) := by decide +kernel
theorem dX8_formulaHasChanged_14 : decode cX8_formulaHasChanged 14 = .ok (.invokevirtual 229, 3) := by decide +kernel
theorem dX8_formulaHasChanged_17 : decode cX8_formulaHasChanged 17 = .ok (.return_, 1) := by decide +kernel
theorem dX8_freshGraph_0 : decode cX8_freshGraph 0 = .ok (.aload_n 0, 1) := by decide +kernel
theorem dX8_freshGraph_1 : decode cX8_freshGraph 1 = .ok (.getfield 69, 3) := by decide +kernel
theorem dX8_freshGraph_4 : decode cX8_freshGraph 4 = .ok (.ifCond .ne 19, 3) := by decide +kernel
theorem dX8_freshGraph_7 : decode cX8_freshGraph 7 = .ok (.aload_n 0, 1) := by decide +kernel
theorem dX8_freshGraph_8 : decode cX8_freshGraph 8 = .ok (.getfield 40, 3) := by decide +kernel
theorem dX8_freshGraph_11 : decode cX8_freshGraph 11 = .ok (.aload_n 0, 1) := by decide +kernel
theorem dX8_freshGraph_12 : decode cX8_freshGraph 12 = .ok (.getfield 12, 3) := by decide +kernel
theorem dX8_freshGraph_15 : decode cX8_freshGraph 15 = .ok (.invokevirtual 232, 3) := by decide +kernel
theorem dX8_freshGraph_18 : decode cX8_freshGraph 18 = .ok (.aload_n 0, 1) := by decide +kernel
theorem dX8_freshGraph_19 : decode cX8_freshGraph 19 = .ok (.iconst 1, 1) := by decide +kernel
theorem dX8_freshGraph_20 : decode cX8_freshGraph 20 = .ok (.putfield 69, 3) := by decide +kernel
theorem dX8_freshGraph_23 : decode cX8_freshGraph 23 = .ok (.aload_n 0, 1) := by decide +kernel
theorem dX8_freshGraph_24 : decode cX8_freshGraph 24 = .ok (.getfield 40, 3) := by decide +kernel
theorem dX8_freshGraph_27 : decode cX8_freshGraph 27 = .ok (.areturn, 1) := by decide +kernel
theorem dX8_freshModelSet_0 : decode cX8_freshModelSet 0 = .ok (.aload_n 0, 1) := by decide +kernel
theorem dX8_freshModelSet_1 : decode cX8_freshModelSet 1 = .ok (.getfield 73, 3) := by decide +kernel
theorem dX8_freshModelSet_4 : decode cX8_freshModelSet 4 = .ok (.ifCond .ne 19, 3) := by decide +kernel
theorem dX8_freshModelSet_7 : decode cX8_freshModelSet 7 = .ok (.aload_n 0, 1) := by decide +kernel
theorem dX8_freshModelSet_8 : decode cX8_freshModelSet 8 = .ok (.getfield 47, 3) := by decide +kernel
theorem dX8_freshModelSet_11 : decode cX8_freshModelSet 11 = .ok (.aload_n 0, 1) := by decide +kernel
theorem dX8_freshModelSet_12 : decode cX8_freshModelSet 12 = .ok (.getfield 12, 3) := by decide +kernel
theorem dX8_freshModelSet_15 : decode cX8_freshModelSet 15 = .ok (.invokevirtual 235, 3) := by decide +kernel
theorem dX8_freshModelSet_18 : decode cX8_freshModelSet 18 = .ok (.aload_n 0, 1) := by decide +kernel
theorem dX8_freshModelSet_19 : decode cX8_freshModelSet 19 = .ok (.iconst 1, 1) := by decide +kernel
theorem dX8_freshModelSet_20 : decode cX8_freshModelSet 20 = .ok (.putfield 73, 3) := by decide +kernel
theorem dX8_freshModelSet_23 : decode cX8_freshModelSet 23 = .ok (.aload_n 0, 1) := by decide +kernel
theorem dX8_freshModelSet_24 : decode cX8_freshModelSet 24 = .ok (.getfield 47, 3) := by decide +kernel
theorem dX8_freshModelSet_27 : decode cX8_freshModelSet 27 = .ok (.areturn, 1) := by decide +kernel
theorem dX8_isErrorCode_0 : decode cX8_isErrorCode 0 = .ok (.iload_n 0, 1) := by decide +kernel
theorem dX8_isErrorCode_1 : decode cX8_isErrorCode 1 = .ok (.bipush (-2), 2) := by decide +kernel
theorem dX8_isErrorCode_3 : decode cX8_isErrorCode 3 = .ok (.if_icmp .gt 13, 3) := by decide +kernel
theorem dX8_isErrorCode_6 : decode cX8_isErrorCode 6 = .ok (.iload_n 0, 1) := by decide +kernel
theorem dX8_isErrorCode_7 : decode cX8_isErrorCode 7 = .ok (.bipush (-6), 2) := by decide +kernel
theorem dX8_isErrorCode_9 : decode cX8_isErrorCode 9 = .ok (.if_icmp .le 7, 3) := by decide +kernel
theorem dX8_isErrorCode_12 : decode cX8_isErrorCode 12 = .ok (.iconst 1, 1) := by decide +kernel
theorem dX8_isErrorCode_13 : decode cX8_isErrorCode 13 = .ok (.goto 4, 3) := by decide +kernel
theorem dX8_isErrorCode_16 : decode cX8_isErrorCode 16 = .ok (.iconst 0, 1) := by decide +kernel
theorem dX8_isErrorCode_17 : decode cX8_isErrorCode 17 = .ok (.ireturn, 1) := by decide +kernel
theorem dX8_isLiteralOrZero_0 : decode cX8_isLiteralOrZero 0 = .ok (.iload_n 0, 1) := by decide +kernel
theorem dX8_isLiteralOrZero_1 : decode cX8_isLiteralOrZero 1 = .ok (.bipush (-10), 2) := by decide +kernel
theorem dX8_isLiteralOrZero_3 : decode cX8_isLiteralOrZero 3 = .ok (.if_icmp .lt 13, 3) := by decide +kernel
theorem dX8_isLiteralOrZero_6 : decode cX8_isLiteralOrZero 6 = .ok (.iload_n 0, 1) := by decide +kernel
theorem dX8_isLiteralOrZero_7 : decode cX8_isLiteralOrZero 7 = .ok (.bipush 10, 2) := by decide +kernel
theorem dX8_isLiteralOrZero_9 : decode cX8_isLiteralOrZero 9 = .ok (.if_icmp .gt 7, 3) := by decide +kernel
theorem dX8_isLiteralOrZero_12 : decode cX8_isLiteralOrZero 12 = .ok (.iconst 1, 1) := by decide +kernel
theorem dX8_isLiteralOrZero_13 : decode cX8_isLiteralOrZero 13 = .ok (.goto 4, 3) := by decide +kernel
theorem dX8_isLiteralOrZero_16 : decode cX8_isLiteralOrZero 16 = .ok (.iconst 0, 1) := by decide +kernel
theorem dX8_isLiteralOrZero_17 : decode cX8_isLiteralOrZero 17 = .ok (.ireturn, 1) := by decide +kernel
theorem dX8_isLiteral_0 : decode cX8_isLiteral 0 = .ok (.iload_n 0, 1) := by decide +kernel
theorem dX8_isLiteral_1 : decode cX8_isLiteral 1 = .ok (.ifCond .eq 14, 3) := by decide +kernel
theorem dX8_isLiteral_4 : decode cX8_isLiteral 4 = .ok (.iload_n 0, 1) := by decide +kernel
theorem dX8_isLiteral_5 : decode cX8_isLiteral 5 = .ok (.invokestatic 80, 3) := by decide +kernel
theorem dX8_isLiteral_8 : decode cX8_isLiteral 8 = .ok (.ifCond .eq 7, 3) := by decide +kernel
theorem dX8_isLiteral_11 : decode cX8_isLiteral 11 = .ok (.iconst 1, 1) := by decide +kernel
theorem dX8_isLiteral_12 : decode cX8_isLiteral 12 = .ok (.goto 4, 3) := by decide +kernel
theorem dX8_isLiteral_15 : decode cX8_isLiteral 15 = .ok (.iconst 0, 1) := by decide +kernel
theorem dX8_isLiteral_16 : decode cX8_isLiteral 16 = .ok (.ireturn, 1) := by decide +kernel
theorem dX8_sameVariable_0 : decode cX8_sameVariable 0 = .ok (.iload_n 0, 1) := by decide +kernel
theorem dX8_sameVariable_1 : decode cX8_sameVariable 1 = .ok (.ifCond .eq 18, 3) := by decide +kernel
theorem dX8_sameVariable_4 : decode cX8_sameVariable 4 = .ok (.iload_n 0, 1) := by decide +kernel
theorem dX8_sameVariable_5 : decode cX8_sameVariable 5 = .ok (.iload_n 1, 1) := by decide +kernel
theorem dX8_sameVariable_6 : decode cX8_sameVariable 6 = .ok (.if_icmp .eq 9, 3) := by decide +kernel
theorem dX8_sameVariable_9 : decode cX8_sameVariable 9 = .ok (.iload_n 0, 1) := by decide +kernel
theorem dX8_sameVariable_10 : decode cX8_sameVariable 10 = .ok (.iload_n 1, 1) := by decide +kernel
theorem dX8_sameVariable_11 : decode cX8_sameVariable 11 = .ok (.ineg, 1) := by decide +kernel
theorem dX8_sameVariable_12 : decode cX8_sameVariable 12 = .ok (.if_icmp .ne 7, 3) := by decide +kernel
theorem dX8_sameVariable_15 : decode cX8_sameVariable 15 = .ok (.iconst 1, 1) := by decide +kernel
theorem dX8_sameVariable_16 : decode cX8_sameVariable 16 = .ok (.goto 4, 3) := by decide +kernel
theorem dX8_sameVariable_19 : decode cX8_sameVariable 19 = .ok (.iconst 0, 1) := by decide +kernel
theorem dX8_sameVariable_20 : decode cX8_sameVariable 20 = .ok (.ireturn, 1) := by decide +kernel
theorem dX8_codeOf_0 : decode cX8_codeOf 0 = .ok (.iload_n 0, 1) := by decide +kernel
theorem dX8_codeOf_1 : decode cX8_codeOf 1 = .ok (.ifCond .le 9, 3) := by decide +kernel
theorem dX8_codeOf_4 : decode cX8_codeOf 4 = .ok (.iconst 2, 1) := by decide +kernel
theorem dX8_codeOf_5 : decode cX8_codeOf 5 = .ok (.iload_n 0, 1) := by decide +kernel
theorem dX8_codeOf_6 : decode cX8_codeOf 6 = .ok (.imul, 1) := by decide +kernel
theorem dX8_codeOf_7 : decode cX8_codeOf 7 = .ok (.goto 9, 3) := by decide +kernel
theorem dX8_codeOf_10 : decode cX8_codeOf 10 = .ok (.bipush (-2), 2) := by decide +kernel
theorem dX8_codeOf_12 : decode cX8_codeOf 12 = .ok (.iload_n 0, 1) := by decide +kernel
theorem dX8_codeOf_13 : decode cX8_codeOf 13 = .ok (.imul, 1) := by decide +kernel
