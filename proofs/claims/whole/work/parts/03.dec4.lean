theorem dX8_codeOf_14 : decode cX8_codeOf 14 = .ok (.iconst 1, 1) := by decide +kernel
theorem dX8_codeOf_15 : decode cX8_codeOf 15 = .ok (.iadd, 1) := by decide +kernel
theorem dX8_codeOf_16 : decode cX8_codeOf 16 = .ok (.ireturn, 1) := by decide +kernel
theorem dX8_literalOf_0 : decode cX8_literalOf 0 = .ok (.iload_n 0, 1) := by decide +kernel
theorem dX8_literalOf_1 : decode cX8_literalOf 1 = .ok (.iconst 1, 1) := by decide +kernel
theorem dX8_literalOf_2 : decode cX8_literalOf 2 = .ok (.iand, 1) := by decide +kernel
theorem dX8_literalOf_3 : decode cX8_literalOf 3 = .ok (.ifCond .ne 9, 3) := by decide +kernel
theorem dX8_literalOf_6 : decode cX8_literalOf 6 = .ok (.iload_n 0, 1) := by decide +kernel
theorem dX8_literalOf_7 : decode cX8_literalOf 7 = .ok (.iconst 1, 1) := by decide +kernel
theorem dX8_literalOf_8 : decode cX8_literalOf 8 = .ok (.ishr, 1) := by decide +kernel
theorem dX8_literalOf_9 : decode cX8_literalOf 9 = .ok (.goto 7, 3) := by decide +kernel
theorem dX8_literalOf_12 : decode cX8_literalOf 12 = .ok (.iload_n 0, 1) := by decide +kernel
theorem dX8_literalOf_13 : decode cX8_literalOf 13 = .ok (.iconst 1, 1) := by decide +kernel
theorem dX8_literalOf_14 : decode cX8_literalOf 14 = .ok (.ishr, 1) := by decide +kernel
theorem dX8_literalOf_15 : decode cX8_literalOf 15 = .ok (.ineg, 1) := by decide +kernel
theorem dX8_literalOf_16 : decode cX8_literalOf 16 = .ok (.ireturn, 1) := by decide +kernel
theorem dX8_bitOf_0 : decode cX8_bitOf 0 = .ok (.iload_n 0, 1) := by decide +kernel
theorem dX8_bitOf_1 : decode cX8_bitOf 1 = .ok (.ifCond .ne 7, 3) := by decide +kernel
theorem dX8_bitOf_4 : decode cX8_bitOf 4 = .ok (.iconst 0, 1) := by decide +kernel
theorem dX8_bitOf_5 : decode cX8_bitOf 5 = .ok (.goto 9, 3) := by decide +kernel
theorem dX8_bitOf_8 : decode cX8_bitOf 8 = .ok (.iconst 1, 1) := by decide +kernel
theorem dX8_bitOf_9 : decode cX8_bitOf 9 = .ok (.iload_n 0, 1) := by decide +kernel
theorem dX8_bitOf_10 : decode cX8_bitOf 10 = .ok (.invokestatic 129, 3) := by decide +kernel
theorem dX8_bitOf_13 : decode cX8_bitOf 13 = .ok (.ishl, 1) := by decide +kernel
theorem dX8_bitOf_14 : decode cX8_bitOf 14 = .ok (.ireturn, 1) := by decide +kernel
theorem dX8_contains_0 : decode cX8_contains 0 = .ok (.iload_n 0, 1) := by decide +kernel
theorem dX8_contains_1 : decode cX8_contains 1 = .ok (.iload_n 1, 1) := by decide +kernel
theorem dX8_contains_2 : decode cX8_contains 2 = .ok (.ishr, 1) := by decide +kernel
theorem dX8_contains_3 : decode cX8_contains 3 = .ok (.iconst 1, 1) := by decide +kernel
theorem dX8_contains_4 : decode cX8_contains 4 = .ok (.iand, 1) := by decide +kernel
theorem dX8_contains_5 : decode cX8_contains 5 = .ok (.ifCond .eq 7, 3) := by decide +kernel
theorem dX8_contains_8 : decode cX8_contains 8 = .ok (.iconst 1, 1) := by decide +kernel
theorem dX8_contains_9 : decode cX8_contains 9 = .ok (.goto 4, 3) := by decide +kernel
theorem dX8_contains_12 : decode cX8_contains 12 = .ok (.iconst 0, 1) := by decide +kernel
theorem dX8_contains_13 : decode cX8_contains 13 = .ok (.ireturn, 1) := by decide +kernel
theorem dX8_variablesOf_0 : decode cX8_variablesOf 0 = .ok (.iload_n 0, 1) := by decide +kernel
theorem dX8_variablesOf_1 : decode cX8_variablesOf 1 = .ok (.iload_n 0, 1) := by decide +kernel
theorem dX8_variablesOf_2 : decode cX8_variablesOf 2 = .ok (.iconst 1, 1) := by decide +kernel
theorem dX8_variablesOf_3 : decode cX8_variablesOf 3 = .ok (.ishr, 1) := by decide +kernel
theorem dX8_variablesOf_4 : decode cX8_variablesOf 4 = .ok (.ior, 1) := by decide +kernel
theorem dX8_variablesOf_5 : decode cX8_variablesOf 5 = .ok (.ldc 238, 2) := by decide +kernel
theorem dX8_variablesOf_7 : decode cX8_variablesOf 7 = .ok (.iand, 1) := by decide +kernel
theorem dX8_variablesOf_8 : decode cX8_variablesOf 8 = .ok (.ireturn, 1) := by decide +kernel
theorem dX8_oppositesOf_0 : decode cX8_oppositesOf 0 = .ok (.iload_n 0, 1) := by decide +kernel
theorem dX8_oppositesOf_1 : decode cX8_oppositesOf 1 = .ok (.ldc 238, 2) := by decide +kernel
theorem dX8_oppositesOf_3 : decode cX8_oppositesOf 3 = .ok (.iand, 1) := by decide +kernel
theorem dX8_oppositesOf_4 : decode cX8_oppositesOf 4 = .ok (.iconst 1, 1) := by decide +kernel
theorem dX8_oppositesOf_5 : decode cX8_oppositesOf 5 = .ok (.ishl, 1) := by decide +kernel
theorem dX8_oppositesOf_6 : decode cX8_oppositesOf 6 = .ok (.iload_n 0, 1) := by decide +kernel
theorem dX8_oppositesOf_7 : decode cX8_oppositesOf 7 = .ok (.iconst 1, 1) := by decide +kernel
theorem dX8_oppositesOf_8 : decode cX8_oppositesOf 8 = .ok (.ishr, 1) := by decide +kernel
theorem dX8_oppositesOf_9 : decode cX8_oppositesOf 9 = .ok (.ldc 238, 2) := by decide +kernel
theorem dX8_oppositesOf_11 : decode cX8_oppositesOf 11 = .ok (.iand, 1) := by decide +kernel
theorem dX8_oppositesOf_12 : decode cX8_oppositesOf 12 = .ok (.ior, 1) := by decide +kernel
theorem dX8_oppositesOf_13 : decode cX8_oppositesOf 13 = .ok (.ireturn, 1) := by decide +kernel
theorem dX8_bitsOfShare_0 : decode cX8_bitsOfShare 0 = .ok (.iload_n 0, 1) := by decide +kernel
theorem dX8_bitsOfShare_1 : decode cX8_bitsOfShare 1 = .ok (.ifCond .gt 5, 3) := by decide +kernel
theorem dX8_bitsOfShare_4 : decode cX8_bitsOfShare 4 = .ok (.iconst 0, 1) := by decide +kernel
theorem dX8_bitsOfShare_5 : decode cX8_bitsOfShare 5 = .ok (.ireturn, 1) := by decide +kernel
theorem dX8_bitsOfShare_6 : decode cX8_bitsOfShare 6 = .ok (.bipush 31, 2) := by decide +kernel
theorem dX8_bitsOfShare_8 : decode cX8_bitsOfShare 8 = .ok (.iload_n 0, 1) := by decide +kernel
theorem dX8_bitsOfShare_9 : decode cX8_bitsOfShare 9 = .ok (.invokestatic 239, 3) := by decide +kernel
theorem dX8_bitsOfShare_12 : decode cX8_bitsOfShare 12 = .ok (.isub, 1) := by decide +kernel
theorem dX8_bitsOfShare_13 : decode cX8_bitsOfShare 13 = .ok (.istore_n 1, 1) := by decide +kernel
theorem dX8_bitsOfShare_14 : decode cX8_bitsOfShare 14 = .ok (.iload_n 1, 1) := by decide +kernel
theorem dX8_bitsOfShare_15 : decode cX8_bitsOfShare 15 = .ok (.bipush 10, 2) := by decide +kernel
theorem dX8_bitsOfShare_17 : decode cX8_bitsOfShare 17 = .ok (.isub, 1) := by decide +kernel
theorem dX8_bitsOfShare_18 : decode cX8_bitsOfShare 18 = .ok (.bipush 127, 2) := by decide +kernel
theorem dX8_bitsOfShare_20 : decode cX8_bitsOfShare 20 = .ok (.iadd, 1) := by decide +kernel
theorem dX8_bitsOfShare_21 : decode cX8_bitsOfShare 21 = .ok (.istore_n 2, 1) := by decide +kernel
theorem dX8_bitsOfShare_22 : decode cX8_bitsOfShare 22 = .ok (.iload_n 0, 1) := by decide +kernel
theorem dX8_bitsOfShare_23 : decode cX8_bitsOfShare 23 = .ok (.iconst 1, 1) := by decide +kernel
theorem dX8_bitsOfShare_24 : decode cX8_bitsOfShare 24 = .ok (.iload_n 1, 1) := by decide +kernel
theorem dX8_bitsOfShare_25 : decode cX8_bitsOfShare 25 = .ok (.ishl, 1) := by decide +kernel
theorem dX8_bitsOfShare_26 : decode cX8_bitsOfShare 26 = .ok (.isub, 1) := by decide +kernel
theorem dX8_bitsOfShare_27 : decode cX8_bitsOfShare 27 = .ok (.bipush 23, 2) := by decide +kernel
theorem dX8_bitsOfShare_29 : decode cX8_bitsOfShare 29 = .ok (.iload_n 1, 1) := by decide +kernel
theorem dX8_bitsOfShare_30 : decode cX8_bitsOfShare 30 = .ok (.isub, 1) := by decide +kernel
theorem dX8_bitsOfShare_31 : decode cX8_bitsOfShare 31 = .ok (.ishl, 1) := by decide +kernel
theorem dX8_bitsOfShare_32 : decode cX8_bitsOfShare 32 = .ok (.istore_n 3, 1) := by decide +kernel
theorem dX8_bitsOfShare_33 : decode cX8_bitsOfShare 33 = .ok (.iload_n 2, 1) := by decide +kernel
theorem dX8_bitsOfShare_34 : decode cX8_bitsOfShare 34 = .ok (.bipush 23, 2) := by decide +kernel
theorem dX8_bitsOfShare_36 : decode cX8_bitsOfShare 36 = .ok (.ishl, 1) := by decide +kernel
theorem dX8_bitsOfShare_37 : decode cX8_bitsOfShare 37 = .ok (.iload_n 3, 1) := by decide +kernel
theorem dX8_bitsOfShare_38 : decode cX8_bitsOfShare 38 = .ok (.ior, 1) := by decide +kernel
theorem dX8_bitsOfShare_39 : decode cX8_bitsOfShare 39 = .ok (.ireturn, 1) := by decide +kernel
theorem dX9_init_0 : decode cX9_init 0 = .ok (.aload_n 0, 1) := by decide +kernel
theorem dX9_init_1 : decode cX9_init 1 = .ok (.invokespecial 1, 3) := by decide +kernel
theorem dX9_init_4 : decode cX9_init 4 = .ok (.aload_n 0, 1) := by decide +kernel
theorem dX9_init_5 : decode cX9_init 5 = .ok (.bipush 39, 2) := by decide +kernel
theorem dX9_init_7 : decode cX9_init 7 = .ok (.newarray .int, 2) := by decide +kernel
theorem dX9_init_9 : decode cX9_init 9 = .ok (.putfield 7, 3) := by decide +kernel
theorem dX9_init_12 : decode cX9_init 12 = .ok (.aload_n 0, 1) := by decide +kernel
theorem dX9_init_13 : decode cX9_init 13 = .ok (.sipush 195, 3) := by decide +kernel
theorem dX9_init_16 : decode cX9_init 16 = .ok (.newarray .int, 2) := by decide +kernel
theorem dX9_init_18 : decode cX9_init 18 = .ok (.putfield 13, 3) := by decide +kernel
theorem dX9_init_21 : decode cX9_init 21 = .ok (.aload_n 0, 1) := by decide +kernel
theorem dX9_init_22 : decode cX9_init 22 = .ok (.iconst 4, 1) := by decide +kernel
theorem dX9_init_23 : decode cX9_init 23 = .ok (.newarray .int, 2) := by decide +kernel
theorem dX9_init_25 : decode cX9_init 25 = .ok (.putfield 16, 3) := by decide +kernel
theorem dX9_init_28 : decode cX9_init 28 = .ok (.aload_n 0, 1) := by decide +kernel
theorem dX9_init_29 : decode cX9_init 29 = .ok (.sipush 150, 3) := by decide +kernel
theorem dX9_init_32 : decode cX9_init 32 = .ok (.newarray .int, 2) := by decide +kernel
theorem dX9_init_34 : decode cX9_init 34 = .ok (.putfield 19, 3) := by decide +kernel
theorem dX9_init_37 : decode cX9_init 37 = .ok (.aload_n 0, 1) := by decide +kernel
theorem dX9_init_38 : decode cX9_init 38 = .ok (.sipush 4096, 3) := by decide +kernel
theorem dX9_init_41 : decode cX9_init 41 = .ok (.newarray .int, 2) := by decide +kernel
theorem dX9_init_43 : decode cX9_init 43 = .ok (.putfield 22, 3) := by decide +kernel
theorem dX9_init_46 : decode cX9_init 46 = .ok (.aload_n 0, 1) := by decide +kernel
theorem dX9_init_47 : decode cX9_init 47 = .ok (.sipush 4096, 3) := by decide +kernel
theorem dX9_init_50 : decode cX9_init 50 = .ok (.newarray .int, 2) := by decide +kernel
theorem dX9_init_52 : decode cX9_init 52 = .ok (.putfield 25, 3) := by decide +kernel
theorem dX9_init_55 : decode cX9_init 55 = .ok (.aload_n 0, 1) := by decide +kernel
theorem dX9_init_56 : decode cX9_init 56 = .ok (.sipush 4096, 3) := by decide +kernel
theorem dX9_init_59 : decode cX9_init 59 = .ok (.newarray .int, 2) := by decide +kernel
theorem dX9_init_61 : decode cX9_init 61 = .ok (.putfield 28, 3) := by decide +kernel
theorem dX9_init_64 : decode cX9_init 64 = .ok (.aload_n 0, 1) := by decide +kernel
theorem dX9_init_65 : decode cX9_init 65 = .ok (.sipush 4096, 3) := by decide +kernel
theorem dX9_init_68 : decode cX9_init 68 = .ok (.newarray .int, 2) := by decide +kernel
theorem dX9_init_70 : decode cX9_init 70 = .ok (.putfield 31, 3) := by decide +kernel
theorem dX9_init_73 : decode cX9_init 73 = .ok (.aload_n 0, 1) := by decide +kernel
theorem dX9_init_74 : decode cX9_init 74 = .ok (.sipush 4096, 3) := by decide +kernel
theorem dX9_init_77 : decode cX9_init 77 = .ok (.newarray .int, 2) := by decide +kernel
theorem dX9_init_79 : decode cX9_init 79 = .ok (.putfield 34, 3) := by decide +kernel
theorem dX9_init_82 : decode cX9_init 82 = .ok (.aload_n 0, 1) := by decide +kernel
theorem dX9_init_83 : decode cX9_init 83 = .ok (.ldc 37, 2) := by decide +kernel
theorem dX9_init_85 : decode cX9_init 85 = .ok (.newarray .int, 2) := by decide +kernel
theorem dX9_init_87 : decode cX9_init 87 = .ok (.putfield 38, 3) := by decide +kernel
theorem dX9_init_90 : decode cX9_init 90 = .ok (.aload_n 0, 1) := by decide +kernel
theorem dX9_init_91 : decode cX9_init 91 = .ok (.sipush 16384, 3) := by decide +kernel
theorem dX9_init_94 : decode cX9_init 94 = .ok (.newarray .int, 2) := by decide +kernel
theorem dX9_init_96 : decode cX9_init 96 = .ok (.putfield 41, 3) := by decide +kernel
theorem dX9_init_99 : decode cX9_init 99 = .ok (.aload_n 0, 1) := by decide +kernel
theorem dX9_init_100 : decode cX9_init 100 = .ok (.sipush 416, 3) := by decide +kernel
theorem dX9_init_103 : decode cX9_init 103 = .ok (.newarray .int, 2) := by decide +kernel
theorem dX9_init_105 : decode cX9_init 105 = .ok (.putfield 44, 3) := by decide +kernel
theorem dX9_init_108 : decode cX9_init 108 = .ok (.aload_n 0, 1) := by decide +kernel
theorem dX9_init_109 : decode cX9_init 109 = .ok (.bipush 26, 2) := by decide +kernel
theorem dX9_init_111 : decode cX9_init 111 = .ok (.newarray .int, 2) := by decide +kernel
theorem dX9_init_113 : decode cX9_init 113 = .ok (.putfield 47, 3) := by decide +kernel
theorem dX9_init_116 : decode cX9_init 116 = .ok (.aload_n 0, 1) := by decide +kernel
theorem dX9_init_117 : decode cX9_init 117 = .ok (.bipush 26, 2) := by decide +kernel
theorem dX9_init_119 : decode cX9_init 119 = .ok (.newarray .int, 2) := by decide +kernel
theorem dX9_init_121 : decode cX9_init 121 = .ok (.putfield 50, 3) := by decide +kernel
theorem dX9_init_124 : decode cX9_init 124 = .ok (.aload_n 0, 1) := by decide +kernel
theorem dX9_init_125 : decode cX9_init 125 = .ok (.bipush 26, 2) := by decide +kernel
theorem dX9_init_127 : decode cX9_init 127 = .ok (.newarray .int, 2) := by decide +kernel
theorem dX9_init_129 : decode cX9_init 129 = .ok (.putfield 53, 3) := by decide +kernel
theorem dX9_init_132 : decode cX9_init 132 = .ok (.aload_n 0, 1) := by decide +kernel
theorem dX9_init_133 : decode cX9_init 133 = .ok (.bipush 26, 2) := by decide +kernel
theorem dX9_init_135 : decode cX9_init 135 = .ok (.newarray .int, 2) := by decide +kernel
theorem dX9_init_137 : decode cX9_init 137 = .ok (.putfield 56, 3) := by decide +kernel
theorem dX9_init_140 : decode cX9_init 140 = .ok (.aload_n 0, 1) := by decide +kernel
theorem dX9_init_141 : decode cX9_init 141 = .ok (.sipush 1024, 3) := by decide +kernel
theorem dX9_init_144 : decode cX9_init 144 = .ok (.newarray .int, 2) := by decide +kernel
theorem dX9_init_146 : decode cX9_init 146 = .ok (.putfield 59, 3) := by decide +kernel
theorem dX9_init_149 : decode cX9_init 149 = .ok (.aload_n 0, 1) := by decide +kernel
theorem dX9_init_150 : decode cX9_init 150 = .ok (.bipush 16, 2) := by decide +kernel
theorem dX9_init_152 : decode cX9_init 152 = .ok (.newarray .int, 2) := by decide +kernel
theorem dX9_init_154 : decode cX9_init 154 = .ok (.putfield 62, 3) := by decide +kernel
theorem dX9_init_157 : decode cX9_init 157 = .ok (.iconst 0, 1) := by decide +kernel
theorem dX9_init_158 : decode cX9_init 158 = .ok (.istore_n 1, 1) := by decide +kernel
theorem dX9_init_159 : decode cX9_init 159 = .ok (.iload_n 1, 1) := by decide +kernel
theorem dX9_init_160 : decode cX9_init 160 = .ok (.bipush 20, 2) := by decide +kernel
theorem dX9_init_162 : decode cX9_init 162 = .ok (.if_icmp .ge 19, 3) := by decide +kernel
theorem dX9_init_165 : decode cX9_init 165 = .ok (.aload_n 0, 1) := by decide +kernel
theorem dX9_init_166 : decode cX9_init 166 = .ok (.getfield 7, 3) := by decide +kernel
theorem dX9_init_169 : decode cX9_init 169 = .ok (.bipush 19, 2) := by decide +kernel
theorem dX9_init_171 : decode cX9_init 171 = .ok (.iload_n 1, 1) := by decide +kernel
theorem dX9_init_172 : decode cX9_init 172 = .ok (.iadd, 1) := by decide +kernel
theorem dX9_init_173 : decode cX9_init 173 = .ok (.iconst 1, 1) := by decide +kernel
theorem dX9_init_174 : decode cX9_init 174 = .ok (.iastore, 1) := by decide +kernel
theorem dX9_init_175 : decode cX9_init 175 = .ok (.iinc 1 1, 3) := by decide +kernel
theorem dX9_init_178 : decode cX9_init 178 = .ok (.goto (-19), 3) := by decide +kernel
theorem dX9_init_181 : decode cX9_init 181 = .ok (.return_, 1) := by decide +kernel
theorem dX9_in_0 : decode cX9_in 0 = .ok (.lload_n 0, 1) := by decide +kernel
theorem dX9_in_1 : decode cX9_in 1 = .ok (.lload_n 2, 1) := by decide +kernel
theorem dX9_in_2 : decode cX9_in 2 = .ok (.lcmp, 1) := by decide +kernel
theorem dX9_in_3 : decode cX9_in 3 = .ok (.ifCond .lt 14, 3) := by decide +kernel
theorem dX9_in_6 : decode cX9_in 6 = .ok (.lload_n 0, 1) := by decide +kernel
theorem dX9_in_7 : decode cX9_in 7 = .ok (.lload 4, 2) := by decide +kernel
theorem dX9_in_9 : decode cX9_in 9 = .ok (.lcmp, 1) := by decide +kernel
theorem dX9_in_10 : decode cX9_in 10 = .ok (.ifCond .gt 7, 3) := by decide +kernel
theorem dX9_in_13 : decode cX9_in 13 = .ok (.iconst 1, 1) := by decide +kernel
theorem dX9_in_14 : decode cX9_in 14 = .ok (.goto 4, 3) := by decide +kernel
theorem dX9_in_17 : decode cX9_in 17 = .ok (.iconst 0, 1) := by decide +kernel
theorem dX9_in_18 : decode cX9_in 18 = .ok (.ireturn, 1) := by decide +kernel
theorem dX9_err_0 : decode cX9_err 0 = .ok (.aload_n 0, 1) := by decide +kernel
theorem dX9_err_1 : decode cX9_err 1 = .ok (.getfield 16, 3) := by decide +kernel
theorem dX9_err_4 : decode cX9_err 4 = .ok (.bipush (-2), 2) := by decide +kernel
theorem dX9_err_6 : decode cX9_err 6 = .ok (.iload_n 1, 1) := by decide +kernel
theorem dX9_err_7 : decode cX9_err 7 = .ok (.isub, 1) := by decide +kernel
theorem dX9_err_8 : decode cX9_err 8 = .ok (.dup2, 1) := by decide +kernel
theorem dX9_err_9 : decode cX9_err 9 = .ok (.iaload, 1) := by decide +kernel
theorem dX9_err_10 : decode cX9_err 10 = .ok (.iconst 1, 1) := by decide +kernel
theorem dX9_err_11 : decode cX9_err 11 = .ok (.iadd, 1) := by decide +kernel
theorem dX9_err_12 : decode cX9_err 12 = .ok (.iastore, 1) := by decide +kernel
theorem dX9_err_13 : decode cX9_err 13 = .ok (.iload_n 1, 1) := by decide +kernel
theorem dX9_err_14 : decode cX9_err 14 = .ok (.ireturn, 1) := by decide +kernel
theorem dX9_isLiteral_0 : decode cX9_isLiteral 0 = .ok (.iload_n 0, 1) := by decide +kernel
theorem dX9_isLiteral_1 : decode cX9_isLiteral 1 = .ok (.ifCond .eq 21, 3) := by decide +kernel
theorem dX9_isLiteral_4 : decode cX9_isLiteral 4 = .ok (.iload_n 0, 1) := by decide +kernel
theorem dX9_isLiteral_5 : decode cX9_isLiteral 5 = .ok (.i2l, 1) := by decide +kernel
theorem dX9_isLiteral_6 : decode cX9_isLiteral 6 = .ok (.ldc2_w 65, 3) := by decide +kernel
theorem dX9_isLiteral_9 : decode cX9_isLiteral 9 = .ok (.ldc2_w 67, 3) := by decide +kernel
theorem dX9_isLiteral_12 : decode cX9_isLiteral 12 = .ok (.invokestatic 69, 3) := by decide +kernel
theorem dX9_isLiteral_15 : decode cX9_isLiteral 15 = .ok (.ifCond .eq 7, 3) := by decide +kernel
theorem dX9_isLiteral_18 : decode cX9_isLiteral 18 = .ok (.iconst 1, 1) := by decide +kernel
theorem dX9_isLiteral_19 : decode cX9_isLiteral 19 = .ok (.goto 4, 3) := by decide +kernel
theorem dX9_isLiteral_22 : decode cX9_isLiteral 22 = .ok (.iconst 0, 1) := by decide +kernel
theorem dX9_isLiteral_23 : decode cX9_isLiteral 23 = .ok (.ireturn, 1) := by decide +kernel
theorem dX9_bitOf_0 : decode cX9_bitOf 0 = .ok (.iload_n 0, 1) := by decide +kernel
theorem dX9_bitOf_1 : decode cX9_bitOf 1 = .ok (.ifCond .le 11, 3) := by decide +kernel
theorem dX9_bitOf_4 : decode cX9_bitOf 4 = .ok (.iconst 1, 1) := by decide +kernel
theorem dX9_bitOf_5 : decode cX9_bitOf 5 = .ok (.iload_n 0, 1) := by decide +kernel
theorem dX9_bitOf_6 : decode cX9_bitOf 6 = .ok (.iconst 1, 1) := by decide +kernel
theorem dX9_bitOf_7 : decode cX9_bitOf 7 = .ok (.isub, 1) := by decide +kernel
theorem dX9_bitOf_8 : decode cX9_bitOf 8 = .ok (.ishl, 1) := by decide +kernel
theorem dX9_bitOf_9 : decode cX9_bitOf 9 = .ok (.goto 9, 3) := by decide +kernel
theorem dX9_bitOf_12 : decode cX9_bitOf 12 = .ok (.iconst 1, 1) := by decide +kernel
theorem dX9_bitOf_13 : decode cX9_bitOf 13 = .ok (.bipush 9, 2) := by decide +kernel
theorem dX9_bitOf_15 : decode cX9_bitOf 15 = .ok (.iload_n 0, 1) := by decide +kernel
theorem dX9_bitOf_16 : decode cX9_bitOf 16 = .ok (.isub, 1) := by decide +kernel
theorem dX9_bitOf_17 : decode cX9_bitOf 17 = .ok (.ishl, 1) := by decide +kernel
theorem dX9_bitOf_18 : decode cX9_bitOf 18 = .ok (.ireturn, 1) := by decide +kernel
theorem dX9_variables_0 : decode cX9_variables 0 = .ok (.iload_n 0, 1) := by decide +kernel
theorem dX9_variables_1 : decode cX9_variables 1 = .ok (.iload_n 0, 1) := by decide +kernel
theorem dX9_variables_2 : decode cX9_variables 2 = .ok (.bipush 10, 2) := by decide +kernel
theorem dX9_variables_4 : decode cX9_variables 4 = .ok (.ishr, 1) := by decide +kernel
theorem dX9_variables_5 : decode cX9_variables 5 = .ok (.ior, 1) := by decide +kernel
theorem dX9_variables_6 : decode cX9_variables 6 = .ok (.sipush 1023, 3) := by decide +kernel
theorem dX9_variables_9 : decode cX9_variables 9 = .ok (.iand, 1) := by decide +kernel
theorem dX9_variables_10 : decode cX9_variables 10 = .ok (.ireturn, 1) := by decide +kernel
theorem dX9_ones_0 : decode cX9_ones 0 = .ok (.iconst 0, 1) := by decide +kernel
theorem dX9_ones_1 : decode cX9_ones 1 = .ok (.istore_n 1, 1) := by decide +kernel
theorem dX9_ones_2 : decode cX9_ones 2 = .ok (.iload_n 0, 1) := by decide +kernel
theorem dX9_ones_3 : decode cX9_ones 3 = .ok (.istore_n 2, 1) := by decide +kernel
theorem dX9_ones_4 : decode cX9_ones 4 = .ok (.iload_n 2, 1) := by decide +kernel
theorem dX9_ones_5 : decode cX9_ones 5 = .ok (.ifCond .eq 15, 3) := by decide +kernel
theorem dX9_ones_8 : decode cX9_ones 8 = .ok (.iinc 1 1, 3) := by decide +kernel
theorem dX9_ones_11 : decode cX9_ones 11 = .ok (.iload_n 2, 1) := by decide +kernel
theorem dX9_ones_12 : decode cX9_ones 12 = .ok (.iload_n 2, 1) := by decide +kernel
theorem dX9_ones_13 : decode cX9_ones 13 = .ok (.iconst 1, 1) := by decide +kernel
theorem dX9_ones_14 : decode cX9_ones 14 = .ok (.isub, 1) := by decide +kernel
theorem dX9_ones_15 : decode cX9_ones 15 = .ok (.iand, 1) := by decide +kernel
theorem dX9_ones_16 : decode cX9_ones 16 = .ok (.istore_n 2, 1) := by decide +kernel
theorem dX9_ones_17 : decode cX9_ones 17 = .ok (.goto (-13), 3) := by decide +kernel
theorem dX9_ones_20 : decode cX9_ones 20 = .ok (.iload_n 1, 1) := by decide +kernel
theorem dX9_ones_21 : decode cX9_ones 21 = .ok (.ireturn, 1) := by decide +kernel
theorem dX9_saves_0 : decode cX9_saves 0 = .ok (.aload_n 0, 1) := by decide +kernel
theorem dX9_saves_1 : decode cX9_saves 1 = .ok (.getfield 73, 3) := by decide +kernel
theorem dX9_saves_4 : decode cX9_saves 4 = .ok (.iconst 5, 1) := by decide +kernel
theorem dX9_saves_5 : decode cX9_saves 5 = .ok (.if_icmp .ne 43, 3) := by decide +kernel
theorem dX9_saves_8 : decode cX9_saves 8 = .ok (.iconst 0, 1) := by decide +kernel
theorem dX9_saves_9 : decode cX9_saves 9 = .ok (.istore_n 1, 1) := by decide +kernel
theorem dX9_saves_10 : decode cX9_saves 10 = .ok (.iload_n 1, 1) := by decide +kernel
theorem dX9_saves_11 : decode cX9_saves 11 = .ok (.sipush 156, 3) := by decide +kernel
theorem dX9_saves_14 : decode cX9_saves 14 = .ok (.if_icmp .ge 24, 3) := by decide +kernel
theorem dX9_saves_17 : decode cX9_saves 17 = .ok (.aload_n 0, 1) := by decide +kernel
theorem dX9_saves_18 : decode cX9_saves 18 = .ok (.getfield 13, 3) := by decide +kernel
theorem dX9_saves_21 : decode cX9_saves 21 = .ok (.iload_n 1, 1) := by decide +kernel
theorem dX9_saves_22 : decode cX9_saves 22 = .ok (.aload_n 0, 1) := by decide +kernel
theorem dX9_saves_23 : decode cX9_saves 23 = .ok (.getfield 13, 3) := by decide +kernel
theorem dX9_saves_26 : decode cX9_saves 26 = .ok (.bipush 39, 2) := by decide +kernel
theorem dX9_saves_28 : decode cX9_saves 28 = .ok (.iload_n 1, 1) := by decide +kernel
theorem dX9_saves_29 : decode cX9_saves 29 = .ok (.iadd, 1) := by decide +kernel
theorem dX9_saves_30 : decode cX9_saves 30 = .ok (.iaload, 1) := by decide +kernel
theorem dX9_saves_31 : decode cX9_saves 31 = .ok (.iastore, 1) := by decide +kernel
theorem dX9_saves_32 : decode cX9_saves 32 = .ok (.iinc 1 1, 3) := by decide +kernel
theorem dX9_saves_35 : decode cX9_saves 35 = .ok (.goto (-25), 3) := by decide +kernel
theorem dX9_saves_38 : decode cX9_saves 38 = .ok (.aload_n 0, 1) := by decide +kernel
theorem dX9_saves_39 : decode cX9_saves 39 = .ok (.dup, 1) := by decide +kernel
theorem dX9_saves_40 : decode cX9_saves 40 = .ok (.getfield 73, 3) := by decide +kernel
theorem dX9_saves_43 : decode cX9_saves 43 = .ok (.iconst 1, 1) := by decide +kernel
theorem dX9_saves_44 : decode cX9_saves 44 = .ok (.isub, 1) := by decide +kernel
theorem dX9_saves_45 : decode cX9_saves 45 = .ok (.putfield 73, 3) := by decide +kernel
theorem dX9_saves_48 : decode cX9_saves 48 = .ok (.iconst 0, 1) := by decide +kernel
theorem dX9_saves_49 : decode cX9_saves 49 = .ok (.istore_n 1, 1) := by decide +kernel
theorem dX9_saves_50 : decode cX9_saves 50 = .ok (.iload_n 1, 1) := by decide +kernel
theorem dX9_saves_51 : decode cX9_saves 51 = .ok (.bipush 39, 2) := by decide +kernel
theorem dX9_saves_53 : decode cX9_saves 53 = .ok (.if_icmp .ge 29, 3) := by decide +kernel
theorem dX9_saves_56 : decode cX9_saves 56 = .ok (.aload_n 0, 1) := by decide +kernel
theorem dX9_saves_57 : decode cX9_saves 57 = .ok (.getfield 13, 3) := by decide +kernel
theorem dX9_saves_60 : decode cX9_saves 60 = .ok (.bipush 39, 2) := by decide +kernel
theorem dX9_saves_62 : decode cX9_saves 62 = .ok (.aload_n 0, 1) := by decide +kernel
theorem dX9_saves_63 : decode cX9_saves 63 = .ok (.getfield 73, 3) := by decide +kernel
theorem dX9_saves_66 : decode cX9_saves 66 = .ok (.imul, 1) := by decide +kernel
theorem dX9_saves_67 : decode cX9_saves 67 = .ok (.iload_n 1, 1) := by decide +kernel
theorem dX9_saves_68 : decode cX9_saves 68 = .ok (.iadd, 1) := by decide +kernel
theorem dX9_saves_69 : decode cX9_saves 69 = .ok (.aload_n 0, 1) := by decide +kernel
theorem dX9_saves_70 : decode cX9_saves 70 = .ok (.getfield 7, 3) := by decide +kernel
theorem dX9_saves_73 : decode cX9_saves 73 = .ok (.iload_n 1, 1) := by decide +kernel
theorem dX9_saves_74 : decode cX9_saves 74 = .ok (.iaload, 1) := by decide +kernel
theorem dX9_saves_75 : decode cX9_saves 75 = .ok (.iastore, 1) := by decide +kernel
theorem dX9_saves_76 : decode cX9_saves 76 = .ok (.iinc 1 1, 3) := by decide +kernel
theorem dX9_saves_79 : decode cX9_saves 79 = .ok (.goto (-29), 3) := by decide +kernel
theorem dX9_saves_82 : decode cX9_saves 82 = .ok (.aload_n 0, 1) := by decide +kernel
theorem dX9_saves_83 : decode cX9_saves 83 = .ok (.dup, 1) := by decide +kernel
theorem dX9_saves_84 : decode cX9_saves 84 = .ok (.getfield 73, 3) := by decide +kernel
theorem dX9_saves_87 : decode cX9_saves 87 = .ok (.iconst 1, 1) := by decide +kernel
theorem dX9_saves_88 : decode cX9_saves 88 = .ok (.iadd, 1) := by decide +kernel
theorem dX9_saves_89 : decode cX9_saves 89 = .ok (.putfield 73, 3) := by decide +kernel
theorem dX9_saves_92 : decode cX9_saves 92 = .ok (.aload_n 0, 1) := by decide +kernel
theorem dX9_saves_93 : decode cX9_saves 93 = .ok (.iconst 0, 1) := by decide +kernel
theorem dX9_saves_94 : decode cX9_saves 94 = .ok (.putfield 77, 3) := by decide +kernel
theorem dX9_saves_97 : decode cX9_saves 97 = .ok (.aload_n 0, 1) := by decide +kernel
theorem dX9_saves_98 : decode cX9_saves 98 = .ok (.iconst 0, 1) := by decide +kernel
theorem dX9_saves_99 : decode cX9_saves 99 = .ok (.putfield 81, 3) := by decide +kernel
theorem dX9_saves_102 : decode cX9_saves 102 = .ok (.return_, 1) := by decide +kernel
theorem dX9_undo_0 : decode cX9_undo 0 = .ok (.aload_n 0, 1) := by decide +kernel
theorem dX9_undo_1 : decode cX9_undo 1 = .ok (.getfield 73, 3) := by decide +kernel
theorem dX9_undo_4 : decode cX9_undo 4 = .ok (.ifCond .ne 10, 3) := by decide +kernel
theorem dX9_undo_7 : decode cX9_undo 7 = .ok (.aload_n 0, 1) := by decide +kernel
theorem dX9_undo_8 : decode cX9_undo 8 = .ok (.bipush (-5), 2) := by decide +kernel
theorem dX9_undo_10 : decode cX9_undo 10 = .ok (.invokevirtual 84, 3) := by decide +kernel
theorem dX9_undo_13 : decode cX9_undo 13 = .ok (.ireturn, 1) := by decide +kernel
theorem dX9_undo_14 : decode cX9_undo 14 = .ok (.aload_n 0, 1) := by decide +kernel
theorem dX9_undo_15 : decode cX9_undo 15 = .ok (.dup, 1) := by decide +kernel
theorem dX9_undo_16 : decode cX9_undo 16 = .ok (.getfield 73, 3) := by decide +kernel
theorem dX9_undo_19 : decode cX9_undo 19 = .ok (.iconst 1, 1) := by decide +kernel
theorem dX9_undo_20 : decode cX9_undo 20 = .ok (.isub, 1) := by decide +kernel
theorem dX9_undo_21 : decode cX9_undo 21 = .ok (.putfield 73, 3) := by decide +kernel
theorem dX9_undo_24 : decode cX9_undo 24 = .ok (.iconst 0, 1) := by decide +kernel
theorem dX9_undo_25 : decode cX9_undo 25 = .ok (.istore_n 1, 1) := by decide +kernel
theorem dX9_undo_26 : decode cX9_undo 26 = .ok (.iload_n 1, 1) := by decide +kernel
theorem dX9_undo_27 : decode cX9_undo 27 = .ok (.bipush 39, 2) := by decide +kernel
theorem dX9_undo_29 : decode cX9_undo 29 = .ok (.if_icmp .ge 29, 3) := by decide +kernel
theorem dX9_undo_32 : decode cX9_undo 32 = .ok (.aload_n 0, 1) := by decide +kernel
theorem dX9_undo_33 : decode cX9_undo 33 = .ok (.getfield 7, 3) := by decide +kernel
theorem dX9_undo_36 : decode cX9_undo 36 = .ok (.iload_n 1, 1) := by decide +kernel
theorem dX9_undo_37 : decode cX9_undo 37 = .ok (.aload_n 0, 1) := by decide +kernel
theorem dX9_undo_38 : decode cX9_undo 38 = .ok (.getfield 13, 3) := by decide +kernel
theorem dX9_undo_41 : decode cX9_undo 41 = .ok (.bipush 39, 2) := by decide +kernel
theorem dX9_undo_43 : decode cX9_undo 43 = .ok (.aload_n 0, 1) := by decide +kernel
theorem dX9_undo_44 : decode cX9_undo 44 = .ok (.getfield 73, 3) := by decide +kernel
theorem dX9_undo_47 : decode cX9_undo 47 = .ok (.imul, 1) := by decide +kernel
theorem dX9_undo_48 : decode cX9_undo 48 = .ok (.iload_n 1, 1) := by decide +kernel
theorem dX9_undo_49 : decode cX9_undo 49 = .ok (.iadd, 1) := by decide +kernel
theorem dX9_undo_50 : decode cX9_undo 50 = .ok (.iaload, 1) := by decide +kernel
theorem dX9_undo_51 : decode cX9_undo 51 = .ok (.iastore, 1) := by decide +kernel
theorem dX9_undo_52 : decode cX9_undo 52 = .ok (.iinc 1 1, 3) := by decide +kernel
theorem dX9_undo_55 : decode cX9_undo 55 = .ok (.goto (-29), 3) := by decide +kernel
theorem dX9_undo_58 : decode cX9_undo 58 = .ok (.aload_n 0, 1) := by decide +kernel
theorem dX9_undo_59 : decode cX9_undo 59 = .ok (.iconst 0, 1) := by decide +kernel
theorem dX9_undo_60 : decode cX9_undo 60 = .ok (.putfield 77, 3) := by decide +kernel
theorem dX9_undo_63 : decode cX9_undo 63 = .ok (.aload_n 0, 1) := by decide +kernel
theorem dX9_undo_64 : decode cX9_undo 64 = .ok (.iconst 0, 1) := by decide +kernel
theorem dX9_undo_65 : decode cX9_undo 65 = .ok (.putfield 81, 3) := by decide +kernel
theorem dX9_undo_68 : decode cX9_undo 68 = .ok (.aload_n 0, 1) := by decide +kernel
theorem dX9_undo_69 : decode cX9_undo 69 = .ok (.getfield 73, 3) := by decide +kernel
theorem dX9_undo_72 : decode cX9_undo 72 = .ok (.ireturn, 1) := by decide +kernel
theorem dX9_addClause_0 : decode cX9_addClause 0 = .ok (.iload_n 1, 1) := by decide +kernel
theorem dX9_addClause_1 : decode cX9_addClause 1 = .ok (.ifCond .eq 60, 3) := by decide +kernel
theorem dX9_addClause_4 : decode cX9_addClause 4 = .ok (.iload_n 1, 1) := by decide +kernel
theorem dX9_addClause_5 : decode cX9_addClause 5 = .ok (.i2l, 1) := by decide +kernel
theorem dX9_addClause_6 : decode cX9_addClause 6 = .ok (.ldc2_w 65, 3) := by decide +kernel
theorem dX9_addClause_9 : decode cX9_addClause 9 = .ok (.ldc2_w 67, 3) := by decide +kernel
theorem dX9_addClause_12 : decode cX9_addClause 12 = .ok (.invokestatic 69, 3) := by decide +kernel
theorem dX9_addClause_15 : decode cX9_addClause 15 = .ok (.ifCond .eq 46, 3) := by decide +kernel
theorem dX9_addClause_18 : decode cX9_addClause 18 = .ok (.iload_n 2, 1) := by decide +kernel
theorem dX9_addClause_19 : decode cX9_addClause 19 = .ok (.i2l, 1) := by decide +kernel
theorem dX9_addClause_20 : decode cX9_addClause 20 = .ok (.ldc2_w 65, 3) := by decide +kernel
theorem dX9_addClause_23 : decode cX9_addClause 23 = .ok (.ldc2_w 67, 3) := by decide +kernel
theorem dX9_addClause_26 : decode cX9_addClause 26 = .ok (.invokestatic 69, 3) := by decide +kernel
theorem dX9_addClause_29 : decode cX9_addClause 29 = .ok (.ifCond .eq 32, 3) := by decide +kernel
theorem dX9_addClause_32 : decode cX9_addClause 32 = .ok (.iload_n 3, 1) := by decide +kernel
theorem dX9_addClause_33 : decode cX9_addClause 33 = .ok (.i2l, 1) := by decide +kernel
theorem dX9_addClause_34 : decode cX9_addClause 34 = .ok (.ldc2_w 65, 3) := by decide +kernel
theorem dX9_addClause_37 : decode cX9_addClause 37 = .ok (.ldc2_w 67, 3) := by decide +kernel
theorem dX9_addClause_40 : decode cX9_addClause 40 = .ok (.invokestatic 69, 3) := by decide +kernel
theorem dX9_addClause_43 : decode cX9_addClause 43 = .ok (.ifCond .eq 18, 3) := by decide +kernel
theorem dX9_addClause_46 : decode cX9_addClause 46 = .ok (.iload 4, 2) := by decide +kernel
theorem dX9_addClause_48 : decode cX9_addClause 48 = .ok (.i2l, 1) := by decide +kernel
theorem dX9_addClause_49 : decode cX9_addClause 49 = .ok (.ldc2_w 65, 3) := by decide +kernel
theorem dX9_addClause_52 : decode cX9_addClause 52 = .ok (.ldc2_w 67, 3) := by decide +kernel
theorem dX9_addClause_55 : decode cX9_addClause 55 = .ok (.invokestatic 69, 3) := by decide +kernel
theorem dX9_addClause_58 : decode cX9_addClause 58 = .ok (.ifCond .ne 10, 3) := by decide +kernel
theorem dX9_addClause_61 : decode cX9_addClause 61 = .ok (.aload_n 0, 1) := by decide +kernel
theorem dX9_addClause_62 : decode cX9_addClause 62 = .ok (.bipush (-2), 2) := by decide +kernel
theorem dX9_addClause_64 : decode cX9_addClause 64 = .ok (.invokevirtual 84, 3) := by decide +kernel
theorem dX9_addClause_67 : decode cX9_addClause 67 = .ok (.ireturn, 1) := by decide +kernel
theorem dX9_addClause_68 : decode cX9_addClause 68 = .ok (.iload_n 1, 1) := by decide +kernel
theorem dX9_addClause_69 : decode cX9_addClause 69 = .ok (.invokestatic 88, 3) := by decide +kernel
theorem dX9_addClause_72 : decode cX9_addClause 72 = .ok (.istore 5, 2) := by decide +kernel
theorem dX9_addClause_74 : decode cX9_addClause 74 = .ok (.iconst 1, 1) := by decide +kernel
theorem dX9_addClause_75 : decode cX9_addClause 75 = .ok (.istore 6, 2) := by decide +kernel
theorem dX9_addClause_77 : decode cX9_addClause 77 = .ok (.iconst 0, 1) := by decide +kernel
theorem dX9_addClause_78 : decode cX9_addClause 78 = .ok (.istore 7, 2) := by decide +kernel
theorem dX9_addClause_80 : decode cX9_addClause 80 = .ok (.iload 7, 2) := by decide +kernel
theorem dX9_addClause_82 : decode cX9_addClause 82 = .ok (.iconst 3, 1) := by decide +kernel
theorem dX9_addClause_83 : decode cX9_addClause 83 = .ok (.if_icmp .ge 77, 3) := by decide +kernel
theorem dX9_addClause_86 : decode cX9_addClause 86 = .ok (.iload 7, 2) := by decide +kernel
theorem dX9_addClause_88 : decode cX9_addClause 88 = .ok (.ifCond .ne 7, 3) := by decide +kernel
theorem dX9_addClause_91 : decode cX9_addClause 91 = .ok (.iload_n 2, 1) := by decide +kernel
theorem dX9_addClause_92 : decode cX9_addClause 92 = .ok (.goto 15, 3) := by decide +kernel
theorem dX9_addClause_95 : decode cX9_addClause 95 = .ok (.iload 7, 2) := by decide +kernel
theorem dX9_addClause_97 : decode cX9_addClause 97 = .ok (.iconst 1, 1) := by decide +kernel
theorem dX9_addClause_98 : decode cX9_addClause 98 = .ok (.if_icmp .ne 7, 3) := by decide +kernel
theorem dX9_addClause_101 : decode cX9_addClause 101 = .ok (.iload_n 3, 1) := by decide +kernel
theorem dX9_addClause_102 : decode cX9_addClause 102 = .ok (.goto 5, 3) := by decide +kernel
theorem dX9_addClause_105 : decode cX9_addClause 105 = .ok (.iload 4, 2) := by decide +kernel
theorem dX9_addClause_107 : decode cX9_addClause 107 = .ok (.istore 8, 2) := by decide +kernel
theorem dX9_addClause_109 : decode cX9_addClause 109 = .ok (.iload 8, 2) := by decide +kernel
theorem dX9_addClause_111 : decode cX9_addClause 111 = .ok (.ifCond .eq 43, 3) := by decide +kernel
theorem dX9_addClause_114 : decode cX9_addClause 114 = .ok (.iload 8, 2) := by decide +kernel
theorem dX9_addClause_116 : decode cX9_addClause 116 = .ok (.invokestatic 88, 3) := by decide +kernel
theorem dX9_addClause_119 : decode cX9_addClause 119 = .ok (.istore 9, 2) := by decide +kernel
theorem dX9_addClause_121 : decode cX9_addClause 121 = .ok (.iload 6, 2) := by decide +kernel
theorem dX9_addClause_123 : decode cX9_addClause 123 = .ok (.ifCond .eq 21, 3) := by decide +kernel
theorem dX9_addClause_126 : decode cX9_addClause 126 = .ok (.iload 5, 2) := by decide +kernel
theorem dX9_addClause_128 : decode cX9_addClause 128 = .ok (.invokestatic 91, 3) := by decide +kernel
theorem dX9_addClause_131 : decode cX9_addClause 131 = .ok (.iload 9, 2) := by decide +kernel
theorem dX9_addClause_133 : decode cX9_addClause 133 = .ok (.invokestatic 91, 3) := by decide +kernel
theorem dX9_addClause_136 : decode cX9_addClause 136 = .ok (.iand, 1) := by decide +kernel
theorem dX9_addClause_137 : decode cX9_addClause 137 = .ok (.ifCond .ne 7, 3) := by decide +kernel
theorem dX9_addClause_140 : decode cX9_addClause 140 = .ok (.iconst 1, 1) := by decide +kernel
theorem dX9_addClause_141 : decode cX9_addClause 141 = .ok (.goto 4, 3) := by decide +kernel
theorem dX9_addClause_144 : decode cX9_addClause 144 = .ok (.iconst 0, 1) := by decide +kernel
theorem dX9_addClause_145 : decode cX9_addClause 145 = .ok (.istore 6, 2) := by decide +kernel
theorem dX9_addClause_147 : decode cX9_addClause 147 = .ok (.iload 5, 2) := by decide +kernel
theorem dX9_addClause_149 : decode cX9_addClause 149 = .ok (.iload 9, 2) := by decide +kernel
theorem dX9_addClause_151 : decode cX9_addClause 151 = .ok (.ior, 1) := by decide +kernel
theorem dX9_addClause_152 : decode cX9_addClause 152 = .ok (.istore 5, 2) := by decide +kernel
theorem dX9_addClause_154 : decode cX9_addClause 154 = .ok (.iinc 7 1, 3) := by decide +kernel
theorem dX9_addClause_157 : decode cX9_addClause 157 = .ok (.goto (-77), 3) := by decide +kernel
theorem dX9_addClause_160 : decode cX9_addClause 160 = .ok (.iload 6, 2) := by decide +kernel
theorem dX9_addClause_162 : decode cX9_addClause 162 = .ok (.ifCond .ne 10, 3) := by decide +kernel
theorem dX9_addClause_165 : decode cX9_addClause 165 = .ok (.aload_n 0, 1) := by decide +kernel
theorem dX9_addClause_166 : decode cX9_addClause 166 = .ok (.bipush (-3), 2) := by decide +kernel
theorem dX9_addClause_168 : decode cX9_addClause 168 = .ok (.invokevirtual 84, 3) := by decide +kernel
theorem dX9_addClause_171 : decode cX9_addClause 171 = .ok (.ireturn, 1) := by decide +kernel
theorem dX9_addClause_172 : decode cX9_addClause 172 = .ok (.aload_n 0, 1) := by decide +kernel
theorem dX9_addClause_173 : decode cX9_addClause 173 = .ok (.getfield 7, 3) := by decide +kernel
theorem dX9_addClause_176 : decode cX9_addClause 176 = .ok (.iconst 0, 1) := by decide +kernel
theorem dX9_addClause_177 : decode cX9_addClause 177 = .ok (.iaload, 1) := by decide +kernel
theorem dX9_addClause_178 : decode cX9_addClause 178 = .ok (.bipush 16, 2) := by decide +kernel
theorem dX9_addClause_180 : decode cX9_addClause 180 = .ok (.if_icmp .ne 10, 3) := by decide +kernel
theorem dX9_addClause_183 : decode cX9_addClause 183 = .ok (.aload_n 0, 1) := by decide +kernel
theorem dX9_addClause_184 : decode cX9_addClause 184 = .ok (.bipush (-4), 2) := by decide +kernel
theorem dX9_addClause_186 : decode cX9_addClause 186 = .ok (.invokevirtual 84, 3) := by decide +kernel
theorem dX9_addClause_189 : decode cX9_addClause 189 = .ok (.ireturn, 1) := by decide +kernel
theorem dX9_addClause_190 : decode cX9_addClause 190 = .ok (.aload_n 0, 1) := by decide +kernel
theorem dX9_addClause_191 : decode cX9_addClause 191 = .ok (.invokevirtual 94, 3) := by decide +kernel
theorem dX9_addClause_194 : decode cX9_addClause 194 = .ok (.aload_n 0, 1) := by decide +kernel
theorem dX9_addClause_195 : decode cX9_addClause 195 = .ok (.getfield 7, 3) := by decide +kernel
theorem dX9_addClause_198 : decode cX9_addClause 198 = .ok (.iconst 1, 1) := by decide +kernel
theorem dX9_addClause_199 : decode cX9_addClause 199 = .ok (.aload_n 0, 1) := by decide +kernel
theorem dX9_addClause_200 : decode cX9_addClause 200 = .ok (.getfield 7, 3) := by decide +kernel
theorem dX9_addClause_203 : decode cX9_addClause 203 = .ok (.iconst 0, 1) := by decide +kernel
theorem dX9_addClause_204 : decode cX9_addClause 204 = .ok (.iaload, 1) := by decide +kernel
theorem dX9_addClause_205 : decode cX9_addClause 205 = .ok (.iadd, 1) := by decide +kernel
theorem dX9_addClause_206 : decode cX9_addClause 206 = .ok (.iload 5, 2) := by decide +kernel
theorem dX9_addClause_208 : decode cX9_addClause 208 = .ok (.iastore, 1) := by decide +kernel
theorem dX9_addClause_209 : decode cX9_addClause 209 = .ok (.aload_n 0, 1) := by decide +kernel
theorem dX9_addClause_210 : decode cX9_addClause 210 = .ok (.getfield 7, 3) := by decide +kernel
theorem dX9_addClause_213 : decode cX9_addClause 213 = .ok (.iconst 0, 1) := by decide +kernel
theorem dX9_addClause_214 : decode cX9_addClause 214 = .ok (.dup2, 1) := by decide +kernel
theorem dX9_addClause_215 : decode cX9_addClause 215 = .ok (.iaload, 1) := by decide +kernel
theorem dX9_addClause_216 : decode cX9_addClause 216 = .ok (.iconst 1, 1) := by decide +kernel
theorem dX9_addClause_217 : decode cX9_addClause 217 = .ok (.iadd, 1) := by decide +kernel
theorem dX9_addClause_218 : decode cX9_addClause 218 = .ok (.iastore, 1) := by decide +kernel
theorem dX9_addClause_219 : decode cX9_addClause 219 = .ok (.aload_n 0, 1) := by decide +kernel
theorem dX9_addClause_220 : decode cX9_addClause 220 = .ok (.getfield 7, 3) := by decide +kernel
theorem dX9_addClause_223 : decode cX9_addClause 223 = .ok (.iconst 0, 1) := by decide +kernel
theorem dX9_addClause_224 : decode cX9_addClause 224 = .ok (.iaload, 1) := by decide +kernel
theorem dX9_addClause_225 : decode cX9_addClause 225 = .ok (.iconst 1, 1) := by decide +kernel
theorem dX9_addClause_226 : decode cX9_addClause 226 = .ok (.isub, 1) := by decide +kernel
theorem dX9_addClause_227 : decode cX9_addClause 227 = .ok (.ireturn, 1) := by decide +kernel
theorem dX9_isClause_0 : decode cX9_isClause 0 = .ok (.iload_n 1, 1) := by decide +kernel
theorem dX9_isClause_1 : decode cX9_isClause 1 = .ok (.i2l, 1) := by decide +kernel
theorem dX9_isClause_2 : decode cX9_isClause 2 = .ok (.lconst 0, 1) := by decide +kernel
theorem dX9_isClause_3 : decode cX9_isClause 3 = .ok (.aload_n 0, 1) := by decide +kernel
theorem dX9_isClause_4 : decode cX9_isClause 4 = .ok (.getfield 7, 3) := by decide +kernel
theorem dX9_isClause_7 : decode cX9_isClause 7 = .ok (.iconst 0, 1) := by decide +kernel
theorem dX9_isClause_8 : decode cX9_isClause 8 = .ok (.iaload, 1) := by decide +kernel
theorem dX9_isClause_9 : decode cX9_isClause 9 = .ok (.iconst 1, 1) := by decide +kernel
theorem dX9_isClause_10 : decode cX9_isClause 10 = .ok (.isub, 1) := by decide +kernel
theorem dX9_isClause_11 : decode cX9_isClause 11 = .ok (.i2l, 1) := by decide +kernel
theorem dX9_isClause_12 : decode cX9_isClause 12 = .ok (.invokestatic 69, 3) := by decide +kernel
theorem dX9_isClause_15 : decode cX9_isClause 15 = .ok (.ireturn, 1) := by decide +kernel
theorem dX9_removeClause_0 : decode cX9_removeClause 0 = .ok (.aload_n 0, 1) := by decide +kernel
theorem dX9_removeClause_1 : decode cX9_removeClause 1 = .ok (.iload_n 1, 1) := by decide +kernel
theorem dX9_removeClause_2 : decode cX9_removeClause 2 = .ok (.invokevirtual 97, 3) := by decide +kernel
theorem dX9_removeClause_5 : decode cX9_removeClause 5 = .ok (.ifCond .ne 10, 3) := by decide +kernel
theorem dX9_removeClause_8 : decode cX9_removeClause 8 = .ok (.aload_n 0, 1) := by decide +kernel
theorem dX9_removeClause_9 : decode cX9_removeClause 9 = .ok (.bipush (-2), 2) := by decide +kernel
theorem dX9_removeClause_11 : decode cX9_removeClause 11 = .ok (.invokevirtual 84, 3) := by decide +kernel
theorem dX9_removeClause_14 : decode cX9_removeClause 14 = .ok (.ireturn, 1) := by decide +kernel
theorem dX9_removeClause_15 : decode cX9_removeClause 15 = .ok (.aload_n 0, 1) := by decide +kernel
theorem dX9_removeClause_16 : decode cX9_removeClause 16 = .ok (.invokevirtual 94, 3) := by decide +kernel
theorem dX9_removeClause_19 : decode cX9_removeClause 19 = .ok (.aload_n 0, 1) := by decide +kernel
theorem dX9_removeClause_20 : decode cX9_removeClause 20 = .ok (.getfield 7, 3) := by decide +kernel
theorem dX9_removeClause_23 : decode cX9_removeClause 23 = .ok (.iconst 0, 1) := by decide +kernel
theorem dX9_removeClause_24 : decode cX9_removeClause 24 = .ok (.dup2, 1) := by decide +kernel
theorem dX9_removeClause_25 : decode cX9_removeClause 25 = .ok (.iaload, 1) := by decide +kernel
theorem dX9_removeClause_26 : decode cX9_removeClause 26 = .ok (.iconst 1, 1) := by decide +kernel
theorem dX9_removeClause_27 : decode cX9_removeClause 27 = .ok (.isub, 1) := by decide +kernel
theorem dX9_removeClause_28 : decode cX9_removeClause 28 = .ok (.iastore, 1) := by decide +kernel
theorem dX9_removeClause_29 : decode cX9_removeClause 29 = .ok (.iload_n 1, 1) := by decide +kernel
theorem dX9_removeClause_30 : decode cX9_removeClause 30 = .ok (.istore_n 2, 1) := by decide +kernel
theorem dX9_removeClause_31 : decode cX9_removeClause 31 = .ok (.iload_n 2, 1) := by decide +kernel
theorem dX9_removeClause_32 : decode cX9_removeClause 32 = .ok (.aload_n 0, 1) := by decide +kernel
theorem dX9_removeClause_33 : decode cX9_removeClause 33 = .ok (.getfield 7, 3) := by decide +kernel
theorem dX9_removeClause_36 : decode cX9_removeClause 36 = .ok (.iconst 0, 1) := by decide +kernel
theorem dX9_removeClause_37 : decode cX9_removeClause 37 = .ok (.iaload, 1) := by decide +kernel
theorem dX9_removeClause_38 : decode cX9_removeClause 38 = .ok (.if_icmp .ge 27, 3) := by decide +kernel
theorem dX9_removeClause_41 : decode cX9_removeClause 41 = .ok (.aload_n 0, 1) := by decide +kernel
theorem dX9_removeClause_42 : decode cX9_removeClause 42 = .ok (.getfield 7, 3) := by decide +kernel
theorem dX9_removeClause_45 : decode cX9_removeClause 45 = .ok (.iconst 1, 1) := by decide +kernel
theorem dX9_removeClause_46 : decode cX9_removeClause 46 = .ok (.iload_n 2, 1) := by decide +kernel
theorem dX9_removeClause_47 : decode cX9_removeClause 47 = .ok (.iadd, 1) := by decide +kernel
theorem dX9_removeClause_48 : decode cX9_removeClause 48 = .ok (.aload_n 0, 1) := by decide +kernel
theorem dX9_removeClause_49 : decode cX9_removeClause 49 = .ok (.getfield 7, 3) := by decide +kernel
theorem dX9_removeClause_52 : decode cX9_removeClause 52 = .ok (.iconst 1, 1) := by decide +kernel
theorem dX9_removeClause_53 : decode cX9_removeClause 53 = .ok (.iload_n 2, 1) := by decide +kernel
theorem dX9_removeClause_54 : decode cX9_removeClause 54 = .ok (.iadd, 1) := by decide +kernel
theorem dX9_removeClause_55 : decode cX9_removeClause 55 = .ok (.iconst 1, 1) := by decide +kernel
theorem dX9_removeClause_56 : decode cX9_removeClause 56 = .ok (.iadd, 1) := by decide +kernel
theorem dX9_removeClause_57 : decode cX9_removeClause 57 = .ok (.iaload, 1) := by decide +kernel
theorem dX9_removeClause_58 : decode cX9_removeClause 58 = .ok (.iastore, 1) := by decide +kernel
theorem dX9_removeClause_59 : decode cX9_removeClause 59 = .ok (.iinc 2 1, 3) := by decide +kernel
theorem dX9_removeClause_62 : decode cX9_removeClause 62 = .ok (.goto (-31), 3) := by decide +kernel
theorem dX9_removeClause_65 : decode cX9_removeClause 65 = .ok (.aload_n 0, 1) := by decide +kernel
theorem dX9_removeClause_66 : decode cX9_removeClause 66 = .ok (.getfield 7, 3) := by decide +kernel
theorem dX9_removeClause_69 : decode cX9_removeClause 69 = .ok (.iconst 0, 1) := by decide +kernel
theorem dX9_removeClause_70 : decode cX9_removeClause 70 = .ok (.iaload, 1) := by decide +kernel
theorem dX9_removeClause_71 : decode cX9_removeClause 71 = .ok (.ireturn, 1) := by decide +kernel
theorem dX9_clauses_0 : decode cX9_clauses 0 = .ok (.aload_n 0, 1) := by decide +kernel
theorem dX9_clauses_1 : decode cX9_clauses 1 = .ok (.getfield 7, 3) := by decide +kernel
theorem dX9_clauses_4 : decode cX9_clauses 4 = .ok (.iconst 0, 1) := by decide +kernel
theorem dX9_clauses_5 : decode cX9_clauses 5 = .ok (.iaload, 1) := by decide +kernel
theorem dX9_clauses_6 : decode cX9_clauses 6 = .ok (.ireturn, 1) := by decide +kernel
theorem dX9_clauseSize_0 : decode cX9_clauseSize 0 = .ok (.aload_n 0, 1) := by decide +kernel
theorem dX9_clauseSize_1 : decode cX9_clauseSize 1 = .ok (.iload_n 1, 1) := by decide +kernel
theorem dX9_clauseSize_2 : decode cX9_clauseSize 2 = .ok (.invokevirtual 97, 3) := by decide +kernel
theorem dX9_clauseSize_5 : decode cX9_clauseSize 5 = .ok (.ifCond .eq 17, 3) := by decide +kernel
theorem dX9_clauseSize_8 : decode cX9_clauseSize 8 = .ok (.aload_n 0, 1) := by decide +kernel
theorem dX9_clauseSize_9 : decode cX9_clauseSize 9 = .ok (.getfield 7, 3) := by decide +kernel
theorem dX9_clauseSize_12 : decode cX9_clauseSize 12 = .ok (.iconst 1, 1) := by decide +kernel
theorem dX9_clauseSize_13 : decode cX9_clauseSize 13 = .ok (.iload_n 1, 1) := by decide +kernel
theorem dX9_clauseSize_14 : decode cX9_clauseSize 14 = .ok (.iadd, 1) := by decide +kernel
theorem dX9_clauseSize_15 : decode cX9_clauseSize 15 = .ok (.iaload, 1) := by decide +kernel
theorem dX9_clauseSize_16 : decode cX9_clauseSize 16 = .ok (.invokestatic 101, 3) := by decide +kernel
theorem dX9_clauseSize_19 : decode cX9_clauseSize 19 = .ok (.goto 9, 3) := by decide +kernel
theorem dX9_clauseSize_22 : decode cX9_clauseSize 22 = .ok (.aload_n 0, 1) := by decide +kernel
theorem dX9_clauseSize_23 : decode cX9_clauseSize 23 = .ok (.bipush (-2), 2) := by decide +kernel
theorem dX9_clauseSize_25 : decode cX9_clauseSize 25 = .ok (.invokevirtual 84, 3) := by decide +kernel
theorem dX9_clauseSize_28 : decode cX9_clauseSize 28 = .ok (.ireturn, 1) := by decide +kernel
theorem dX9_assumed_0 : decode cX9_assumed 0 = .ok (.aload_n 0, 1) := by decide +kernel
theorem dX9_assumed_1 : decode cX9_assumed 1 = .ok (.getfield 7, 3) := by decide +kernel
theorem dX9_assumed_4 : decode cX9_assumed 4 = .ok (.bipush 17, 2) := by decide +kernel
theorem dX9_assumed_6 : decode cX9_assumed 6 = .ok (.iaload, 1) := by decide +kernel
theorem dX9_assumed_7 : decode cX9_assumed 7 = .ok (.aload_n 0, 1) := by decide +kernel
theorem dX9_assumed_8 : decode cX9_assumed 8 = .ok (.getfield 7, 3) := by decide +kernel
theorem dX9_assumed_11 : decode cX9_assumed 11 = .ok (.bipush 18, 2) := by decide +kernel
theorem dX9_assumed_13 : decode cX9_assumed 13 = .ok (.iaload, 1) := by decide +kernel
theorem dX9_assumed_14 : decode cX9_assumed 14 = .ok (.ior, 1) := by decide +kernel
theorem dX9_assumed_15 : decode cX9_assumed 15 = .ok (.ireturn, 1) := by decide +kernel
theorem dX9_assume_0 : decode cX9_assume 0 = .ok (.iload_n 1, 1) := by decide +kernel
theorem dX9_assume_1 : decode cX9_assume 1 = .ok (.invokestatic 104, 3) := by decide +kernel
theorem dX9_assume_4 : decode cX9_assume 4 = .ok (.ifCond .ne 10, 3) := by decide +kernel
theorem dX9_assume_7 : decode cX9_assume 7 = .ok (.aload_n 0, 1) := by decide +kernel
theorem dX9_assume_8 : decode cX9_assume 8 = .ok (.bipush (-2), 2) := by decide +kernel
theorem dX9_assume_10 : decode cX9_assume 10 = .ok (.invokevirtual 84, 3) := by decide +kernel
theorem dX9_assume_13 : decode cX9_assume 13 = .ok (.ireturn, 1) := by decide +kernel
theorem dX9_assume_14 : decode cX9_assume 14 = .ok (.iload_n 1, 1) := by decide +kernel
theorem dX9_assume_15 : decode cX9_assume 15 = .ok (.invokestatic 88, 3) := by decide +kernel
theorem dX9_assume_18 : decode cX9_assume 18 = .ok (.invokestatic 91, 3) := by decide +kernel
theorem dX9_assume_21 : decode cX9_assume 21 = .ok (.istore_n 2, 1) := by decide +kernel
theorem dX9_assume_22 : decode cX9_assume 22 = .ok (.aload_n 0, 1) := by decide +kernel
theorem dX9_assume_23 : decode cX9_assume 23 = .ok (.invokevirtual 107, 3) := by decide +kernel
theorem dX9_assume_26 : decode cX9_assume 26 = .ok (.iload_n 2, 1) := by decide +kernel
theorem dX9_assume_27 : decode cX9_assume 27 = .ok (.iand, 1) := by decide +kernel
theorem dX9_assume_28 : decode cX9_assume 28 = .ok (.ifCond .eq 10, 3) := by decide +kernel
theorem dX9_assume_31 : decode cX9_assume 31 = .ok (.aload_n 0, 1) := by decide +kernel
theorem dX9_assume_32 : decode cX9_assume 32 = .ok (.bipush (-3), 2) := by decide +kernel
theorem dX9_assume_34 : decode cX9_assume 34 = .ok (.invokevirtual 84, 3) := by decide +kernel
theorem dX9_assume_37 : decode cX9_assume 37 = .ok (.ireturn, 1) := by decide +kernel
theorem dX9_assume_38 : decode cX9_assume 38 = .ok (.aload_n 0, 1) := by decide +kernel
theorem dX9_assume_39 : decode cX9_assume 39 = .ok (.invokevirtual 94, 3) := by decide +kernel
theorem dX9_assume_42 : decode cX9_assume 42 = .ok (.aload_n 0, 1) := by decide +kernel
theorem dX9_assume_43 : decode cX9_assume 43 = .ok (.getfield 7, 3) := by decide +kernel
theorem dX9_assume_46 : decode cX9_assume 46 = .ok (.iload_n 1, 1) := by decide +kernel
theorem dX9_assume_47 : decode cX9_assume 47 = .ok (.ifCond .le 8, 3) := by decide +kernel
theorem dX9_assume_50 : decode cX9_assume 50 = .ok (.bipush 17, 2) := by decide +kernel
theorem dX9_assume_52 : decode cX9_assume 52 = .ok (.goto 5, 3) := by decide +kernel
theorem dX9_assume_55 : decode cX9_assume 55 = .ok (.bipush 18, 2) := by decide +kernel
theorem dX9_assume_57 : decode cX9_assume 57 = .ok (.dup2, 1) := by decide +kernel
theorem dX9_assume_58 : decode cX9_assume 58 = .ok (.iaload, 1) := by decide +kernel
theorem dX9_assume_59 : decode cX9_assume 59 = .ok (.iload_n 2, 1) := by decide +kernel
theorem dX9_assume_60 : decode cX9_assume 60 = .ok (.ior, 1) := by decide +kernel
theorem dX9_assume_61 : decode cX9_assume 61 = .ok (.iastore, 1) := by decide +kernel
theorem dX9_assume_62 : decode cX9_assume 62 = .ok (.aload_n 0, 1) := by decide +kernel
theorem dX9_assume_63 : decode cX9_assume 63 = .ok (.invokevirtual 107, 3) := by decide +kernel
theorem dX9_assume_66 : decode cX9_assume 66 = .ok (.invokestatic 101, 3) := by decide +kernel
theorem dX9_assume_69 : decode cX9_assume 69 = .ok (.ireturn, 1) := by decide +kernel
theorem dX9_retractAll_0 : decode cX9_retractAll 0 = .ok (.aload_n 0, 1) := by decide +kernel
theorem dX9_retractAll_1 : decode cX9_retractAll 1 = .ok (.invokevirtual 94, 3) := by decide +kernel
theorem dX9_retractAll_4 : decode cX9_retractAll 4 = .ok (.aload_n 0, 1) := by decide +kernel
theorem dX9_retractAll_5 : decode cX9_retractAll 5 = .ok (.invokevirtual 107, 3) := by decide +kernel
theorem dX9_retractAll_8 : decode cX9_retractAll 8 = .ok (.invokestatic 101, 3) := by decide +kernel
theorem dX9_retractAll_11 : decode cX9_retractAll 11 = .ok (.istore_n 1, 1) := by decide +kernel
theorem dX9_retractAll_12 : decode cX9_retractAll 12 = .ok (.aload_n 0, 1) := by decide +kernel
theorem dX9_retractAll_13 : decode cX9_retractAll 13 = .ok (.getfield 7, 3) := by decide +kernel
theorem dX9_retractAll_16 : decode cX9_retractAll 16 = .ok (.bipush 17, 2) := by decide +kernel
theorem dX9_retractAll_18 : decode cX9_retractAll 18 = .ok (.iconst 0, 1) := by decide +kernel
theorem dX9_retractAll_19 : decode cX9_retractAll 19 = .ok (.iastore, 1) := by decide +kernel
theorem dX9_retractAll_20 : decode cX9_retractAll 20 = .ok (.aload_n 0, 1) := by decide +kernel
theorem dX9_retractAll_21 : decode cX9_retractAll 21 = .ok (.getfield 7, 3) := by decide +kernel
theorem dX9_retractAll_24 : decode cX9_retractAll 24 = .ok (.bipush 18, 2) := by decide +kernel
theorem dX9_retractAll_26 : decode cX9_retractAll 26 = .ok (.iconst 0, 1) := by decide +kernel
theorem dX9_retractAll_27 : decode cX9_retractAll 27 = .ok (.iastore, 1) := by decide +kernel
theorem dX9_retractAll_28 : decode cX9_retractAll 28 = .ok (.iload_n 1, 1) := by decide +kernel
theorem dX9_retractAll_29 : decode cX9_retractAll 29 = .ok (.ireturn, 1) := by decide +kernel
theorem dX9_weightAt_0 : decode cX9_weightAt 0 = .ok (.bipush 19, 2) := by decide +kernel
theorem dX9_weightAt_2 : decode cX9_weightAt 2 = .ok (.iload_n 0, 1) := by decide +kernel
theorem dX9_weightAt_3 : decode cX9_weightAt 3 = .ok (.ifCond .le 11, 3) := by decide +kernel
theorem dX9_weightAt_6 : decode cX9_weightAt 6 = .ok (.iconst 2, 1) := by decide +kernel
theorem dX9_weightAt_7 : decode cX9_weightAt 7 = .ok (.iload_n 0, 1) := by decide +kernel
theorem dX9_weightAt_8 : decode cX9_weightAt 8 = .ok (.imul, 1) := by decide +kernel
theorem dX9_weightAt_9 : decode cX9_weightAt 9 = .ok (.iconst 2, 1) := by decide +kernel
theorem dX9_weightAt_10 : decode cX9_weightAt 10 = .ok (.isub, 1) := by decide +kernel
theorem dX9_weightAt_11 : decode cX9_weightAt 11 = .ok (.goto 9, 3) := by decide +kernel
theorem dX9_weightAt_14 : decode cX9_weightAt 14 = .ok (.bipush (-2), 2) := by decide +kernel
theorem dX9_weightAt_16 : decode cX9_weightAt 16 = .ok (.iload_n 0, 1) := by decide +kernel
theorem dX9_weightAt_17 : decode cX9_weightAt 17 = .ok (.imul, 1) := by decide +kernel
theorem dX9_weightAt_18 : decode cX9_weightAt 18 = .ok (.iconst 1, 1) := by decide +kernel
theorem dX9_weightAt_19 : decode cX9_weightAt 19 = .ok (.isub, 1) := by decide +kernel
theorem dX9_weightAt_20 : decode cX9_weightAt 20 = .ok (.iadd, 1) := by decide +kernel
theorem dX9_weightAt_21 : decode cX9_weightAt 21 = .ok (.ireturn, 1) := by decide +kernel
theorem dX9_setWeight_0 : decode cX9_setWeight 0 = .ok (.iload_n 1, 1) := by decide +kernel
theorem dX9_setWeight_1 : decode cX9_setWeight 1 = .ok (.invokestatic 104, 3) := by decide +kernel
theorem dX9_setWeight_4 : decode cX9_setWeight 4 = .ok (.ifCond .eq 15, 3) := by decide +kernel
theorem dX9_setWeight_7 : decode cX9_setWeight 7 = .ok (.iload_n 2, 1) := by decide +kernel
theorem dX9_setWeight_8 : decode cX9_setWeight 8 = .ok (.i2l, 1) := by decide +kernel
theorem dX9_setWeight_9 : decode cX9_setWeight 9 = .ok (.lconst 0, 1) := by decide +kernel
theorem dX9_setWeight_10 : decode cX9_setWeight 10 = .ok (.ldc2_w 111, 3) := by decide +kernel
theorem dX9_setWeight_13 : decode cX9_setWeight 13 = .ok (.invokestatic 69, 3) := by decide +kernel
theorem dX9_setWeight_16 : decode cX9_setWeight 16 = .ok (.ifCond .ne 10, 3) := by decide +kernel
theorem dX9_setWeight_19 : decode cX9_setWeight 19 = .ok (.aload_n 0, 1) := by decide +kernel
theorem dX9_setWeight_20 : decode cX9_setWeight 20 = .ok (.bipush (-2), 2) := by decide +kernel
theorem dX9_setWeight_22 : decode cX9_setWeight 22 = .ok (.invokevirtual 84, 3) := by decide +kernel
theorem dX9_setWeight_25 : decode cX9_setWeight 25 = .ok (.ireturn, 1) := by decide +kernel
theorem dX9_setWeight_26 : decode cX9_setWeight 26 = .ok (.aload_n 0, 1) := by decide +kernel
theorem dX9_setWeight_27 : decode cX9_setWeight 27 = .ok (.invokevirtual 94, 3) := by decide +kernel
theorem dX9_setWeight_30 : decode cX9_setWeight 30 = .ok (.aload_n 0, 1) := by decide +kernel
theorem dX9_setWeight_31 : decode cX9_setWeight 31 = .ok (.getfield 7, 3) := by decide +kernel
theorem dX9_setWeight_34 : decode cX9_setWeight 34 = .ok (.iload_n 1, 1) := by decide +kernel
theorem dX9_setWeight_35 : decode cX9_setWeight 35 = .ok (.invokestatic 113, 3) := by decide +kernel
theorem dX9_setWeight_38 : decode cX9_setWeight 38 = .ok (.iaload, 1) := by decide +kernel
theorem dX9_setWeight_39 : decode cX9_setWeight 39 = .ok (.istore_n 3, 1) := by decide +kernel
theorem dX9_setWeight_40 : decode cX9_setWeight 40 = .ok (.aload_n 0, 1) := by decide +kernel
theorem dX9_setWeight_41 : decode cX9_setWeight 41 = .ok (.getfield 7, 3) := by decide +kernel
theorem dX9_setWeight_44 : decode cX9_setWeight 44 = .ok (.iload_n 1, 1) := by decide +kernel
theorem dX9_setWeight_45 : decode cX9_setWeight 45 = .ok (.invokestatic 113, 3) := by decide +kernel
theorem dX9_setWeight_48 : decode cX9_setWeight 48 = .ok (.iload_n 2, 1) := by decide +kernel
theorem dX9_setWeight_49 : decode cX9_setWeight 49 = .ok (.iastore, 1) := by decide +kernel
theorem dX9_setWeight_50 : decode cX9_setWeight 50 = .ok (.iload_n 3, 1) := by decide +kernel
theorem dX9_setWeight_51 : decode cX9_setWeight 51 = .ok (.ireturn, 1) := by decide +kernel
theorem dX9_puts_0 : decode cX9_puts 0 = .ok (.bipush 16, 2) := by decide +kernel
theorem dX9_puts_2 : decode cX9_puts 2 = .ok (.iload_n 1, 1) := by decide +kernel
theorem dX9_puts_3 : decode cX9_puts 3 = .ok (.imul, 1) := by decide +kernel
theorem dX9_puts_4 : decode cX9_puts 4 = .ok (.aload_n 0, 1) := by decide +kernel
theorem dX9_puts_5 : decode cX9_puts 5 = .ok (.getfield 47, 3) := by decide +kernel
theorem dX9_puts_8 : decode cX9_puts 8 = .ok (.iload_n 1, 1) := by decide +kernel
theorem dX9_puts_9 : decode cX9_puts 9 = .ok (.iaload, 1) := by decide +kernel
theorem dX9_puts_10 : decode cX9_puts 10 = .ok (.iadd, 1) := by decide +kernel
theorem dX9_puts_11 : decode cX9_puts 11 = .ok (.istore_n 3, 1) := by decide +kernel
theorem dX9_puts_12 : decode cX9_puts 12 = .ok (.bipush 16, 2) := by decide +kernel
theorem dX9_puts_14 : decode cX9_puts 14 = .ok (.iload_n 1, 1) := by decide +kernel
theorem dX9_puts_15 : decode cX9_puts 15 = .ok (.imul, 1) := by decide +kernel
theorem dX9_puts_16 : decode cX9_puts 16 = .ok (.istore 4, 2) := by decide +kernel
theorem dX9_puts_18 : decode cX9_puts 18 = .ok (.iload 4, 2) := by decide +kernel
theorem dX9_puts_20 : decode cX9_puts 20 = .ok (.istore 5, 2) := by decide +kernel
theorem dX9_puts_22 : decode cX9_puts 22 = .ok (.iload 5, 2) := by decide +kernel
theorem dX9_puts_24 : decode cX9_puts 24 = .ok (.iload_n 3, 1) := by decide +kernel
theorem dX9_puts_25 : decode cX9_puts 25 = .ok (.if_icmp .ge 21, 3) := by decide +kernel
theorem dX9_puts_28 : decode cX9_puts 28 = .ok (.aload_n 0, 1) := by decide +kernel
theorem dX9_puts_29 : decode cX9_puts 29 = .ok (.getfield 44, 3) := by decide +kernel
theorem dX9_puts_32 : decode cX9_puts 32 = .ok (.iload 5, 2) := by decide +kernel
theorem dX9_puts_34 : decode cX9_puts 34 = .ok (.iaload, 1) := by decide +kernel
theorem dX9_puts_35 : decode cX9_puts 35 = .ok (.iload_n 2, 1) := by decide +kernel
theorem dX9_puts_36 : decode cX9_puts 36 = .ok (.if_icmp .ne 4, 3) := by decide +kernel
theorem dX9_puts_39 : decode cX9_puts 39 = .ok (.return_, 1) := by decide +kernel
theorem dX9_puts_40 : decode cX9_puts 40 = .ok (.iinc 5 1, 3) := by decide +kernel
theorem dX9_puts_43 : decode cX9_puts 43 = .ok (.goto (-21), 3) := by decide +kernel
theorem dX9_puts_46 : decode cX9_puts 46 = .ok (.iload_n 3, 1) := by decide +kernel
theorem dX9_puts_47 : decode cX9_puts 47 = .ok (.iload 4, 2) := by decide +kernel
theorem dX9_puts_49 : decode cX9_puts 49 = .ok (.if_icmp .le 35, 3) := by decide +kernel
theorem dX9_puts_52 : decode cX9_puts 52 = .ok (.aload_n 0, 1) := by decide +kernel
theorem dX9_puts_53 : decode cX9_puts 53 = .ok (.getfield 44, 3) := by decide +kernel
theorem dX9_puts_56 : decode cX9_puts 56 = .ok (.iload_n 3, 1) := by decide +kernel
theorem dX9_puts_57 : decode cX9_puts 57 = .ok (.iconst 1, 1) := by decide +kernel
theorem dX9_puts_58 : decode cX9_puts 58 = .ok (.isub, 1) := by decide +kernel
theorem dX9_puts_59 : decode cX9_puts 59 = .ok (.iaload, 1) := by decide +kernel
theorem dX9_puts_60 : decode cX9_puts 60 = .ok (.iload_n 2, 1) := by decide +kernel
theorem dX9_puts_61 : decode cX9_puts 61 = .ok (.if_icmp .le 23, 3) := by decide +kernel
theorem dX9_puts_64 : decode cX9_puts 64 = .ok (.aload_n 0, 1) := by decide +kernel
theorem dX9_puts_65 : decode cX9_puts 65 = .ok (.getfield 44, 3) := by decide +kernel
theorem dX9_puts_68 : decode cX9_puts 68 = .ok (.iload_n 3, 1) := by decide +kernel
