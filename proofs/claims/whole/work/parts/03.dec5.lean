theorem dX9_puts_69 : decode cX9_puts 69 = .ok (.aload_n 0, 1) := by decide +kernel
theorem dX9_puts_70 : decode cX9_puts 70 = .ok (.getfield 44, 3) := by decide +kernel
theorem dX9_puts_73 : decode cX9_puts 73 = .ok (.iload_n 3, 1) := by decide +kernel
theorem dX9_puts_74 : decode cX9_puts 74 = .ok (.iconst 1, 1) := by decide +kernel
theorem dX9_puts_75 : decode cX9_puts 75 = .ok (.isub, 1) := by decide +kernel
theorem dX9_puts_76 : decode cX9_puts 76 = .ok (.iaload, 1) := by decide +kernel
theorem dX9_puts_77 : decode cX9_puts 77 = .ok (.iastore, 1) := by decide +kernel
theorem dX9_puts_78 : decode cX9_puts 78 = .ok (.iinc 3 (-1), 3) := by decide +kernel
theorem dX9_puts_81 : decode cX9_puts 81 = .ok (.goto (-35), 3) := by decide +kernel
theorem dX9_puts_84 : decode cX9_puts 84 = .ok (.aload_n 0, 1) := by decide +kernel
theorem dX9_puts_85 : decode cX9_puts 85 = .ok (.getfield 44, 3) := by decide +kernel
theorem dX9_puts_88 : decode cX9_puts 88 = .ok (.iload_n 3, 1) := by decide +kernel
theorem dX9_puts_89 : decode cX9_puts 89 = .ok (.iload_n 2, 1) := by decide +kernel
theorem dX9_puts_90 : decode cX9_puts 90 = .ok (.iastore, 1) := by decide +kernel
theorem dX9_puts_91 : decode cX9_puts 91 = .ok (.aload_n 0, 1) := by decide +kernel
theorem dX9_puts_92 : decode cX9_puts 92 = .ok (.getfield 47, 3) := by decide +kernel
theorem dX9_puts_95 : decode cX9_puts 95 = .ok (.iload_n 1, 1) := by decide +kernel
theorem dX9_puts_96 : decode cX9_puts 96 = .ok (.dup2, 1) := by decide +kernel
theorem dX9_puts_97 : decode cX9_puts 97 = .ok (.iaload, 1) := by decide +kernel
theorem dX9_puts_98 : decode cX9_puts 98 = .ok (.iconst 1, 1) := by decide +kernel
theorem dX9_puts_99 : decode cX9_puts 99 = .ok (.iadd, 1) := by decide +kernel
theorem dX9_puts_100 : decode cX9_puts 100 = .ok (.iastore, 1) := by decide +kernel
theorem dX9_puts_101 : decode cX9_puts 101 = .ok (.return_, 1) := by decide +kernel
theorem dX9_finds_0 : decode cX9_finds 0 = .ok (.aload_n 0, 1) := by decide +kernel
theorem dX9_finds_1 : decode cX9_finds 1 = .ok (.getfield 47, 3) := by decide +kernel
theorem dX9_finds_4 : decode cX9_finds 4 = .ok (.iload_n 1, 1) := by decide +kernel
theorem dX9_finds_5 : decode cX9_finds 5 = .ok (.iaload, 1) := by decide +kernel
theorem dX9_finds_6 : decode cX9_finds 6 = .ok (.i2l, 1) := by decide +kernel
theorem dX9_finds_7 : decode cX9_finds 7 = .ok (.lstore_n 2, 1) := by decide +kernel
theorem dX9_finds_8 : decode cX9_finds 8 = .ok (.iconst 0, 1) := by decide +kernel
theorem dX9_finds_9 : decode cX9_finds 9 = .ok (.istore 4, 2) := by decide +kernel
theorem dX9_finds_11 : decode cX9_finds 11 = .ok (.iload 4, 2) := by decide +kernel
theorem dX9_finds_13 : decode cX9_finds 13 = .ok (.aload_n 0, 1) := by decide +kernel
theorem dX9_finds_14 : decode cX9_finds 14 = .ok (.getfield 47, 3) := by decide +kernel
theorem dX9_finds_17 : decode cX9_finds 17 = .ok (.iload_n 1, 1) := by decide +kernel
theorem dX9_finds_18 : decode cX9_finds 18 = .ok (.iaload, 1) := by decide +kernel
theorem dX9_finds_19 : decode cX9_finds 19 = .ok (.if_icmp .ge 33, 3) := by decide +kernel
theorem dX9_finds_22 : decode cX9_finds 22 = .ok (.lload_n 2, 1) := by decide +kernel
theorem dX9_finds_23 : decode cX9_finds 23 = .ok (.ldc2_w 116, 3) := by decide +kernel
theorem dX9_finds_26 : decode cX9_finds 26 = .ok (.lmul, 1) := by decide +kernel
theorem dX9_finds_27 : decode cX9_finds 27 = .ok (.aload_n 0, 1) := by decide +kernel
theorem dX9_finds_28 : decode cX9_finds 28 = .ok (.getfield 44, 3) := by decide +kernel
theorem dX9_finds_31 : decode cX9_finds 31 = .ok (.bipush 16, 2) := by decide +kernel
theorem dX9_finds_33 : decode cX9_finds 33 = .ok (.iload_n 1, 1) := by decide +kernel
theorem dX9_finds_34 : decode cX9_finds 34 = .ok (.imul, 1) := by decide +kernel
theorem dX9_finds_35 : decode cX9_finds 35 = .ok (.iload 4, 2) := by decide +kernel
theorem dX9_finds_37 : decode cX9_finds 37 = .ok (.iadd, 1) := by decide +kernel
theorem dX9_finds_38 : decode cX9_finds 38 = .ok (.iaload, 1) := by decide +kernel
theorem dX9_finds_39 : decode cX9_finds 39 = .ok (.i2l, 1) := by decide +kernel
theorem dX9_finds_40 : decode cX9_finds 40 = .ok (.ladd, 1) := by decide +kernel
theorem dX9_finds_41 : decode cX9_finds 41 = .ok (.ldc2_w 118, 3) := by decide +kernel
theorem dX9_finds_44 : decode cX9_finds 44 = .ok (.lrem, 1) := by decide +kernel
theorem dX9_finds_45 : decode cX9_finds 45 = .ok (.lstore_n 2, 1) := by decide +kernel
theorem dX9_finds_46 : decode cX9_finds 46 = .ok (.iinc 4 1, 3) := by decide +kernel
theorem dX9_finds_49 : decode cX9_finds 49 = .ok (.goto (-38), 3) := by decide +kernel
theorem dX9_finds_52 : decode cX9_finds 52 = .ok (.lload_n 2, 1) := by decide +kernel
theorem dX9_finds_53 : decode cX9_finds 53 = .ok (.ldc2_w 120, 3) := by decide +kernel
theorem dX9_finds_56 : decode cX9_finds 56 = .ok (.lrem, 1) := by decide +kernel
theorem dX9_finds_57 : decode cX9_finds 57 = .ok (.l2i, 1) := by decide +kernel
theorem dX9_finds_58 : decode cX9_finds 58 = .ok (.istore 4, 2) := by decide +kernel
theorem dX9_finds_60 : decode cX9_finds 60 = .ok (.aload_n 0, 1) := by decide +kernel
theorem dX9_finds_61 : decode cX9_finds 61 = .ok (.getfield 41, 3) := by decide +kernel
theorem dX9_finds_64 : decode cX9_finds 64 = .ok (.iload 4, 2) := by decide +kernel
theorem dX9_finds_66 : decode cX9_finds 66 = .ok (.iaload, 1) := by decide +kernel
theorem dX9_finds_67 : decode cX9_finds 67 = .ok (.ifCond .eq 118, 3) := by decide +kernel
theorem dX9_finds_70 : decode cX9_finds 70 = .ok (.aload_n 0, 1) := by decide +kernel
theorem dX9_finds_71 : decode cX9_finds 71 = .ok (.getfield 41, 3) := by decide +kernel
theorem dX9_finds_74 : decode cX9_finds 74 = .ok (.iload 4, 2) := by decide +kernel
theorem dX9_finds_76 : decode cX9_finds 76 = .ok (.iaload, 1) := by decide +kernel
theorem dX9_finds_77 : decode cX9_finds 77 = .ok (.istore 5, 2) := by decide +kernel
theorem dX9_finds_79 : decode cX9_finds 79 = .ok (.aload_n 0, 1) := by decide +kernel
theorem dX9_finds_80 : decode cX9_finds 80 = .ok (.getfield 25, 3) := by decide +kernel
theorem dX9_finds_83 : decode cX9_finds 83 = .ok (.iload 5, 2) := by decide +kernel
theorem dX9_finds_85 : decode cX9_finds 85 = .ok (.iaload, 1) := by decide +kernel
theorem dX9_finds_86 : decode cX9_finds 86 = .ok (.aload_n 0, 1) := by decide +kernel
theorem dX9_finds_87 : decode cX9_finds 87 = .ok (.getfield 47, 3) := by decide +kernel
theorem dX9_finds_90 : decode cX9_finds 90 = .ok (.iload_n 1, 1) := by decide +kernel
theorem dX9_finds_91 : decode cX9_finds 91 = .ok (.iaload, 1) := by decide +kernel
theorem dX9_finds_92 : decode cX9_finds 92 = .ok (.if_icmp .ne 7, 3) := by decide +kernel
theorem dX9_finds_95 : decode cX9_finds 95 = .ok (.iconst 1, 1) := by decide +kernel
theorem dX9_finds_96 : decode cX9_finds 96 = .ok (.goto 4, 3) := by decide +kernel
theorem dX9_finds_99 : decode cX9_finds 99 = .ok (.iconst 0, 1) := by decide +kernel
theorem dX9_finds_100 : decode cX9_finds 100 = .ok (.istore 6, 2) := by decide +kernel
theorem dX9_finds_102 : decode cX9_finds 102 = .ok (.iconst 0, 1) := by decide +kernel
theorem dX9_finds_103 : decode cX9_finds 103 = .ok (.istore 7, 2) := by decide +kernel
theorem dX9_finds_105 : decode cX9_finds 105 = .ok (.iload 7, 2) := by decide +kernel
theorem dX9_finds_107 : decode cX9_finds 107 = .ok (.aload_n 0, 1) := by decide +kernel
theorem dX9_finds_108 : decode cX9_finds 108 = .ok (.getfield 47, 3) := by decide +kernel
theorem dX9_finds_111 : decode cX9_finds 111 = .ok (.iload_n 1, 1) := by decide +kernel
theorem dX9_finds_112 : decode cX9_finds 112 = .ok (.iaload, 1) := by decide +kernel
theorem dX9_finds_113 : decode cX9_finds 113 = .ok (.if_icmp .ge 51, 3) := by decide +kernel
theorem dX9_finds_116 : decode cX9_finds 116 = .ok (.iload 6, 2) := by decide +kernel
theorem dX9_finds_118 : decode cX9_finds 118 = .ok (.ifCond .eq 46, 3) := by decide +kernel
theorem dX9_finds_121 : decode cX9_finds 121 = .ok (.aload_n 0, 1) := by decide +kernel
theorem dX9_finds_122 : decode cX9_finds 122 = .ok (.getfield 38, 3) := by decide +kernel
theorem dX9_finds_125 : decode cX9_finds 125 = .ok (.aload_n 0, 1) := by decide +kernel
theorem dX9_finds_126 : decode cX9_finds 126 = .ok (.getfield 22, 3) := by decide +kernel
theorem dX9_finds_129 : decode cX9_finds 129 = .ok (.iload 5, 2) := by decide +kernel
theorem dX9_finds_131 : decode cX9_finds 131 = .ok (.iaload, 1) := by decide +kernel
theorem dX9_finds_132 : decode cX9_finds 132 = .ok (.iload 7, 2) := by decide +kernel
theorem dX9_finds_134 : decode cX9_finds 134 = .ok (.iadd, 1) := by decide +kernel
theorem dX9_finds_135 : decode cX9_finds 135 = .ok (.iaload, 1) := by decide +kernel
theorem dX9_finds_136 : decode cX9_finds 136 = .ok (.aload_n 0, 1) := by decide +kernel
theorem dX9_finds_137 : decode cX9_finds 137 = .ok (.getfield 44, 3) := by decide +kernel
theorem dX9_finds_140 : decode cX9_finds 140 = .ok (.bipush 16, 2) := by decide +kernel
theorem dX9_finds_142 : decode cX9_finds 142 = .ok (.iload_n 1, 1) := by decide +kernel
theorem dX9_finds_143 : decode cX9_finds 143 = .ok (.imul, 1) := by decide +kernel
theorem dX9_finds_144 : decode cX9_finds 144 = .ok (.iload 7, 2) := by decide +kernel
theorem dX9_finds_146 : decode cX9_finds 146 = .ok (.iadd, 1) := by decide +kernel
theorem dX9_finds_147 : decode cX9_finds 147 = .ok (.iaload, 1) := by decide +kernel
theorem dX9_finds_148 : decode cX9_finds 148 = .ok (.if_icmp .ne 7, 3) := by decide +kernel
theorem dX9_finds_151 : decode cX9_finds 151 = .ok (.iconst 1, 1) := by decide +kernel
theorem dX9_finds_152 : decode cX9_finds 152 = .ok (.goto 4, 3) := by decide +kernel
theorem dX9_finds_155 : decode cX9_finds 155 = .ok (.iconst 0, 1) := by decide +kernel
theorem dX9_finds_156 : decode cX9_finds 156 = .ok (.istore 6, 2) := by decide +kernel
theorem dX9_finds_158 : decode cX9_finds 158 = .ok (.iinc 7 1, 3) := by decide +kernel
theorem dX9_finds_161 : decode cX9_finds 161 = .ok (.goto (-56), 3) := by decide +kernel
theorem dX9_finds_164 : decode cX9_finds 164 = .ok (.iload 6, 2) := by decide +kernel
theorem dX9_finds_166 : decode cX9_finds 166 = .ok (.ifCond .eq 6, 3) := by decide +kernel
theorem dX9_finds_169 : decode cX9_finds 169 = .ok (.iload 5, 2) := by decide +kernel
theorem dX9_finds_171 : decode cX9_finds 171 = .ok (.ireturn, 1) := by decide +kernel
theorem dX9_finds_172 : decode cX9_finds 172 = .ok (.iload 4, 2) := by decide +kernel
theorem dX9_finds_174 : decode cX9_finds 174 = .ok (.iconst 1, 1) := by decide +kernel
theorem dX9_finds_175 : decode cX9_finds 175 = .ok (.iadd, 1) := by decide +kernel
theorem dX9_finds_176 : decode cX9_finds 176 = .ok (.sipush 16384, 3) := by decide +kernel
theorem dX9_finds_179 : decode cX9_finds 179 = .ok (.irem, 1) := by decide +kernel
theorem dX9_finds_180 : decode cX9_finds 180 = .ok (.istore 4, 2) := by decide +kernel
theorem dX9_finds_182 : decode cX9_finds 182 = .ok (.goto (-122), 3) := by decide +kernel
theorem dX9_finds_185 : decode cX9_finds 185 = .ok (.iconst (-1), 1) := by decide +kernel
theorem dX9_finds_186 : decode cX9_finds 186 = .ok (.iload 4, 2) := by decide +kernel
theorem dX9_finds_188 : decode cX9_finds 188 = .ok (.isub, 1) := by decide +kernel
theorem dX9_finds_189 : decode cX9_finds 189 = .ok (.ireturn, 1) := by decide +kernel
theorem dX9_connected_0 : decode cX9_connected 0 = .ok (.aload_n 0, 1) := by decide +kernel
theorem dX9_connected_1 : decode cX9_connected 1 = .ok (.getfield 47, 3) := by decide +kernel
theorem dX9_connected_4 : decode cX9_connected 4 = .ok (.iload_n 1, 1) := by decide +kernel
theorem dX9_connected_5 : decode cX9_connected 5 = .ok (.iaload, 1) := by decide +kernel
theorem dX9_connected_6 : decode cX9_connected 6 = .ok (.istore_n 3, 1) := by decide +kernel
theorem dX9_connected_7 : decode cX9_connected 7 = .ok (.iconst 0, 1) := by decide +kernel
theorem dX9_connected_8 : decode cX9_connected 8 = .ok (.istore 4, 2) := by decide +kernel
theorem dX9_connected_10 : decode cX9_connected 10 = .ok (.iconst 0, 1) := by decide +kernel
theorem dX9_connected_11 : decode cX9_connected 11 = .ok (.istore 5, 2) := by decide +kernel
theorem dX9_connected_13 : decode cX9_connected 13 = .ok (.iconst 0, 1) := by decide +kernel
theorem dX9_connected_14 : decode cX9_connected 14 = .ok (.istore 6, 2) := by decide +kernel
theorem dX9_connected_16 : decode cX9_connected 16 = .ok (.iload 6, 2) := by decide +kernel
theorem dX9_connected_18 : decode cX9_connected 18 = .ok (.iload_n 3, 1) := by decide +kernel
theorem dX9_connected_19 : decode cX9_connected 19 = .ok (.if_icmp .ge 46, 3) := by decide +kernel
theorem dX9_connected_22 : decode cX9_connected 22 = .ok (.iload 4, 2) := by decide +kernel
theorem dX9_connected_24 : decode cX9_connected 24 = .ok (.ifCond .ne 41, 3) := by decide +kernel
theorem dX9_connected_27 : decode cX9_connected 27 = .ok (.iload_n 2, 1) := by decide +kernel
theorem dX9_connected_28 : decode cX9_connected 28 = .ok (.iload 6, 2) := by decide +kernel
theorem dX9_connected_30 : decode cX9_connected 30 = .ok (.ishr, 1) := by decide +kernel
theorem dX9_connected_31 : decode cX9_connected 31 = .ok (.iconst 1, 1) := by decide +kernel
theorem dX9_connected_32 : decode cX9_connected 32 = .ok (.iand, 1) := by decide +kernel
theorem dX9_connected_33 : decode cX9_connected 33 = .ok (.ifCond .ne 26, 3) := by decide +kernel
theorem dX9_connected_36 : decode cX9_connected 36 = .ok (.iconst 1, 1) := by decide +kernel
theorem dX9_connected_37 : decode cX9_connected 37 = .ok (.iload 6, 2) := by decide +kernel
theorem dX9_connected_39 : decode cX9_connected 39 = .ok (.ishl, 1) := by decide +kernel
theorem dX9_connected_40 : decode cX9_connected 40 = .ok (.istore 4, 2) := by decide +kernel
theorem dX9_connected_42 : decode cX9_connected 42 = .ok (.aload_n 0, 1) := by decide +kernel
theorem dX9_connected_43 : decode cX9_connected 43 = .ok (.getfield 44, 3) := by decide +kernel
theorem dX9_connected_46 : decode cX9_connected 46 = .ok (.bipush 16, 2) := by decide +kernel
theorem dX9_connected_48 : decode cX9_connected 48 = .ok (.iload_n 1, 1) := by decide +kernel
theorem dX9_connected_49 : decode cX9_connected 49 = .ok (.imul, 1) := by decide +kernel
theorem dX9_connected_50 : decode cX9_connected 50 = .ok (.iload 6, 2) := by decide +kernel
theorem dX9_connected_52 : decode cX9_connected 52 = .ok (.iadd, 1) := by decide +kernel
theorem dX9_connected_53 : decode cX9_connected 53 = .ok (.iaload, 1) := by decide +kernel
theorem dX9_connected_54 : decode cX9_connected 54 = .ok (.invokestatic 91, 3) := by decide +kernel
theorem dX9_connected_57 : decode cX9_connected 57 = .ok (.istore 5, 2) := by decide +kernel
theorem dX9_connected_59 : decode cX9_connected 59 = .ok (.iinc 6 1, 3) := by decide +kernel
theorem dX9_connected_62 : decode cX9_connected 62 = .ok (.goto (-46), 3) := by decide +kernel
theorem dX9_connected_65 : decode cX9_connected 65 = .ok (.iconst 1, 1) := by decide +kernel
theorem dX9_connected_66 : decode cX9_connected 66 = .ok (.istore 6, 2) := by decide +kernel
theorem dX9_connected_68 : decode cX9_connected 68 = .ok (.iload 6, 2) := by decide +kernel
theorem dX9_connected_70 : decode cX9_connected 70 = .ok (.ifCond .eq 78, 3) := by decide +kernel
theorem dX9_connected_73 : decode cX9_connected 73 = .ok (.iconst 0, 1) := by decide +kernel
theorem dX9_connected_74 : decode cX9_connected 74 = .ok (.istore 6, 2) := by decide +kernel
theorem dX9_connected_76 : decode cX9_connected 76 = .ok (.iconst 0, 1) := by decide +kernel
theorem dX9_connected_77 : decode cX9_connected 77 = .ok (.istore 7, 2) := by decide +kernel
theorem dX9_connected_79 : decode cX9_connected 79 = .ok (.iload 7, 2) := by decide +kernel
theorem dX9_connected_81 : decode cX9_connected 81 = .ok (.iload_n 3, 1) := by decide +kernel
theorem dX9_connected_82 : decode cX9_connected 82 = .ok (.if_icmp .ge 63, 3) := by decide +kernel
theorem dX9_connected_85 : decode cX9_connected 85 = .ok (.aload_n 0, 1) := by decide +kernel
theorem dX9_connected_86 : decode cX9_connected 86 = .ok (.getfield 44, 3) := by decide +kernel
theorem dX9_connected_89 : decode cX9_connected 89 = .ok (.bipush 16, 2) := by decide +kernel
theorem dX9_connected_91 : decode cX9_connected 91 = .ok (.iload_n 1, 1) := by decide +kernel
theorem dX9_connected_92 : decode cX9_connected 92 = .ok (.imul, 1) := by decide +kernel
theorem dX9_connected_93 : decode cX9_connected 93 = .ok (.iload 7, 2) := by decide +kernel
theorem dX9_connected_95 : decode cX9_connected 95 = .ok (.iadd, 1) := by decide +kernel
theorem dX9_connected_96 : decode cX9_connected 96 = .ok (.iaload, 1) := by decide +kernel
theorem dX9_connected_97 : decode cX9_connected 97 = .ok (.invokestatic 91, 3) := by decide +kernel
theorem dX9_connected_100 : decode cX9_connected 100 = .ok (.istore 8, 2) := by decide +kernel
theorem dX9_connected_102 : decode cX9_connected 102 = .ok (.iload 4, 2) := by decide +kernel
theorem dX9_connected_104 : decode cX9_connected 104 = .ok (.iload 7, 2) := by decide +kernel
theorem dX9_connected_106 : decode cX9_connected 106 = .ok (.ishr, 1) := by decide +kernel
theorem dX9_connected_107 : decode cX9_connected 107 = .ok (.iconst 1, 1) := by decide +kernel
theorem dX9_connected_108 : decode cX9_connected 108 = .ok (.iand, 1) := by decide +kernel
theorem dX9_connected_109 : decode cX9_connected 109 = .ok (.ifCond .ne 30, 3) := by decide +kernel
theorem dX9_connected_112 : decode cX9_connected 112 = .ok (.iload 8, 2) := by decide +kernel
theorem dX9_connected_114 : decode cX9_connected 114 = .ok (.iload 5, 2) := by decide +kernel
theorem dX9_connected_116 : decode cX9_connected 116 = .ok (.iand, 1) := by decide +kernel
theorem dX9_connected_117 : decode cX9_connected 117 = .ok (.ifCond .eq 22, 3) := by decide +kernel
theorem dX9_connected_120 : decode cX9_connected 120 = .ok (.iload 4, 2) := by decide +kernel
theorem dX9_connected_122 : decode cX9_connected 122 = .ok (.iconst 1, 1) := by decide +kernel
theorem dX9_connected_123 : decode cX9_connected 123 = .ok (.iload 7, 2) := by decide +kernel
theorem dX9_connected_125 : decode cX9_connected 125 = .ok (.ishl, 1) := by decide +kernel
theorem dX9_connected_126 : decode cX9_connected 126 = .ok (.ior, 1) := by decide +kernel
theorem dX9_connected_127 : decode cX9_connected 127 = .ok (.istore 4, 2) := by decide +kernel
theorem dX9_connected_129 : decode cX9_connected 129 = .ok (.iload 5, 2) := by decide +kernel
theorem dX9_connected_131 : decode cX9_connected 131 = .ok (.iload 8, 2) := by decide +kernel
theorem dX9_connected_133 : decode cX9_connected 133 = .ok (.ior, 1) := by decide +kernel
theorem dX9_connected_134 : decode cX9_connected 134 = .ok (.istore 5, 2) := by decide +kernel
theorem dX9_connected_136 : decode cX9_connected 136 = .ok (.iconst 1, 1) := by decide +kernel
theorem dX9_connected_137 : decode cX9_connected 137 = .ok (.istore 6, 2) := by decide +kernel
theorem dX9_connected_139 : decode cX9_connected 139 = .ok (.iinc 7 1, 3) := by decide +kernel
theorem dX9_connected_142 : decode cX9_connected 142 = .ok (.goto (-63), 3) := by decide +kernel
theorem dX9_connected_145 : decode cX9_connected 145 = .ok (.goto (-77), 3) := by decide +kernel
theorem dX9_connected_148 : decode cX9_connected 148 = .ok (.iload 4, 2) := by decide +kernel
theorem dX9_connected_150 : decode cX9_connected 150 = .ok (.ireturn, 1) := by decide +kernel
theorem dX9_deciding_0 : decode cX9_deciding 0 = .ok (.iconst 0, 1) := by decide +kernel
theorem dX9_deciding_1 : decode cX9_deciding 1 = .ok (.istore_n 2, 1) := by decide +kernel
theorem dX9_deciding_2 : decode cX9_deciding 2 = .ok (.iconst 0, 1) := by decide +kernel
theorem dX9_deciding_3 : decode cX9_deciding 3 = .ok (.istore_n 3, 1) := by decide +kernel
theorem dX9_deciding_4 : decode cX9_deciding 4 = .ok (.iconst 1, 1) := by decide +kernel
theorem dX9_deciding_5 : decode cX9_deciding 5 = .ok (.istore 4, 2) := by decide +kernel
theorem dX9_deciding_7 : decode cX9_deciding 7 = .ok (.iload 4, 2) := by decide +kernel
theorem dX9_deciding_9 : decode cX9_deciding 9 = .ok (.bipush 10, 2) := by decide +kernel
theorem dX9_deciding_11 : decode cX9_deciding 11 = .ok (.if_icmp .gt 85, 3) := by decide +kernel
theorem dX9_deciding_14 : decode cX9_deciding 14 = .ok (.iconst 0, 1) := by decide +kernel
theorem dX9_deciding_15 : decode cX9_deciding 15 = .ok (.istore 5, 2) := by decide +kernel
theorem dX9_deciding_17 : decode cX9_deciding 17 = .ok (.iconst 0, 1) := by decide +kernel
theorem dX9_deciding_18 : decode cX9_deciding 18 = .ok (.istore 6, 2) := by decide +kernel
theorem dX9_deciding_20 : decode cX9_deciding 20 = .ok (.iload 6, 2) := by decide +kernel
theorem dX9_deciding_22 : decode cX9_deciding 22 = .ok (.aload_n 0, 1) := by decide +kernel
theorem dX9_deciding_23 : decode cX9_deciding 23 = .ok (.getfield 47, 3) := by decide +kernel
theorem dX9_deciding_26 : decode cX9_deciding 26 = .ok (.iload_n 1, 1) := by decide +kernel
theorem dX9_deciding_27 : decode cX9_deciding 27 = .ok (.iaload, 1) := by decide +kernel
theorem dX9_deciding_28 : decode cX9_deciding 28 = .ok (.if_icmp .ge 36, 3) := by decide +kernel
theorem dX9_deciding_31 : decode cX9_deciding 31 = .ok (.iload 5, 2) := by decide +kernel
theorem dX9_deciding_33 : decode cX9_deciding 33 = .ok (.aload_n 0, 1) := by decide +kernel
theorem dX9_deciding_34 : decode cX9_deciding 34 = .ok (.getfield 44, 3) := by decide +kernel
theorem dX9_deciding_37 : decode cX9_deciding 37 = .ok (.bipush 16, 2) := by decide +kernel
theorem dX9_deciding_39 : decode cX9_deciding 39 = .ok (.iload_n 1, 1) := by decide +kernel
theorem dX9_deciding_40 : decode cX9_deciding 40 = .ok (.imul, 1) := by decide +kernel
theorem dX9_deciding_41 : decode cX9_deciding 41 = .ok (.iload 6, 2) := by decide +kernel
theorem dX9_deciding_43 : decode cX9_deciding 43 = .ok (.iadd, 1) := by decide +kernel
theorem dX9_deciding_44 : decode cX9_deciding 44 = .ok (.iaload, 1) := by decide +kernel
theorem dX9_deciding_45 : decode cX9_deciding 45 = .ok (.invokestatic 91, 3) := by decide +kernel
theorem dX9_deciding_48 : decode cX9_deciding 48 = .ok (.iload 4, 2) := by decide +kernel
theorem dX9_deciding_50 : decode cX9_deciding 50 = .ok (.iconst 1, 1) := by decide +kernel
theorem dX9_deciding_51 : decode cX9_deciding 51 = .ok (.isub, 1) := by decide +kernel
theorem dX9_deciding_52 : decode cX9_deciding 52 = .ok (.ishr, 1) := by decide +kernel
theorem dX9_deciding_53 : decode cX9_deciding 53 = .ok (.iconst 1, 1) := by decide +kernel
theorem dX9_deciding_54 : decode cX9_deciding 54 = .ok (.iand, 1) := by decide +kernel
theorem dX9_deciding_55 : decode cX9_deciding 55 = .ok (.iadd, 1) := by decide +kernel
theorem dX9_deciding_56 : decode cX9_deciding 56 = .ok (.istore 5, 2) := by decide +kernel
theorem dX9_deciding_58 : decode cX9_deciding 58 = .ok (.iinc 6 1, 3) := by decide +kernel
theorem dX9_deciding_61 : decode cX9_deciding 61 = .ok (.goto (-41), 3) := by decide +kernel
theorem dX9_deciding_64 : decode cX9_deciding 64 = .ok (.iload 5, 2) := by decide +kernel
theorem dX9_deciding_66 : decode cX9_deciding 66 = .ok (.iload_n 3, 1) := by decide +kernel
theorem dX9_deciding_67 : decode cX9_deciding 67 = .ok (.if_icmp .le 8, 3) := by decide +kernel
theorem dX9_deciding_70 : decode cX9_deciding 70 = .ok (.iload 4, 2) := by decide +kernel
theorem dX9_deciding_72 : decode cX9_deciding 72 = .ok (.goto 4, 3) := by decide +kernel
theorem dX9_deciding_75 : decode cX9_deciding 75 = .ok (.iload_n 2, 1) := by decide +kernel
theorem dX9_deciding_76 : decode cX9_deciding 76 = .ok (.istore_n 2, 1) := by decide +kernel
theorem dX9_deciding_77 : decode cX9_deciding 77 = .ok (.iload 5, 2) := by decide +kernel
theorem dX9_deciding_79 : decode cX9_deciding 79 = .ok (.iload_n 3, 1) := by decide +kernel
theorem dX9_deciding_80 : decode cX9_deciding 80 = .ok (.if_icmp .le 8, 3) := by decide +kernel
theorem dX9_deciding_83 : decode cX9_deciding 83 = .ok (.iload 5, 2) := by decide +kernel
theorem dX9_deciding_85 : decode cX9_deciding 85 = .ok (.goto 4, 3) := by decide +kernel
theorem dX9_deciding_88 : decode cX9_deciding 88 = .ok (.iload_n 3, 1) := by decide +kernel
theorem dX9_deciding_89 : decode cX9_deciding 89 = .ok (.istore_n 3, 1) := by decide +kernel
theorem dX9_deciding_90 : decode cX9_deciding 90 = .ok (.iinc 4 1, 3) := by decide +kernel
theorem dX9_deciding_93 : decode cX9_deciding 93 = .ok (.goto (-86), 3) := by decide +kernel
theorem dX9_deciding_96 : decode cX9_deciding 96 = .ok (.iload_n 2, 1) := by decide +kernel
theorem dX9_deciding_97 : decode cX9_deciding 97 = .ok (.ireturn, 1) := by decide +kernel
theorem dX9_sets_0 : decode cX9_sets 0 = .ok (.aload_n 0, 1) := by decide +kernel
theorem dX9_sets_1 : decode cX9_sets 1 = .ok (.getfield 47, 3) := by decide +kernel
theorem dX9_sets_4 : decode cX9_sets 4 = .ok (.iload_n 1, 1) := by decide +kernel
theorem dX9_sets_5 : decode cX9_sets 5 = .ok (.iconst 1, 1) := by decide +kernel
theorem dX9_sets_6 : decode cX9_sets 6 = .ok (.iadd, 1) := by decide +kernel
theorem dX9_sets_7 : decode cX9_sets 7 = .ok (.iconst 0, 1) := by decide +kernel
theorem dX9_sets_8 : decode cX9_sets 8 = .ok (.iastore, 1) := by decide +kernel
theorem dX9_sets_9 : decode cX9_sets 9 = .ok (.iconst 0, 1) := by decide +kernel
theorem dX9_sets_10 : decode cX9_sets 10 = .ok (.istore_n 3, 1) := by decide +kernel
theorem dX9_sets_11 : decode cX9_sets 11 = .ok (.iload_n 3, 1) := by decide +kernel
theorem dX9_sets_12 : decode cX9_sets 12 = .ok (.aload_n 0, 1) := by decide +kernel
theorem dX9_sets_13 : decode cX9_sets 13 = .ok (.getfield 47, 3) := by decide +kernel
theorem dX9_sets_16 : decode cX9_sets 16 = .ok (.iload_n 1, 1) := by decide +kernel
theorem dX9_sets_17 : decode cX9_sets 17 = .ok (.iaload, 1) := by decide +kernel
theorem dX9_sets_18 : decode cX9_sets 18 = .ok (.if_icmp .ge 49, 3) := by decide +kernel
theorem dX9_sets_21 : decode cX9_sets 21 = .ok (.aload_n 0, 1) := by decide +kernel
theorem dX9_sets_22 : decode cX9_sets 22 = .ok (.getfield 44, 3) := by decide +kernel
theorem dX9_sets_25 : decode cX9_sets 25 = .ok (.bipush 16, 2) := by decide +kernel
theorem dX9_sets_27 : decode cX9_sets 27 = .ok (.iload_n 1, 1) := by decide +kernel
theorem dX9_sets_28 : decode cX9_sets 28 = .ok (.imul, 1) := by decide +kernel
theorem dX9_sets_29 : decode cX9_sets 29 = .ok (.iload_n 3, 1) := by decide +kernel
theorem dX9_sets_30 : decode cX9_sets 30 = .ok (.iadd, 1) := by decide +kernel
theorem dX9_sets_31 : decode cX9_sets 31 = .ok (.iaload, 1) := by decide +kernel
theorem dX9_sets_32 : decode cX9_sets 32 = .ok (.istore 4, 2) := by decide +kernel
theorem dX9_sets_34 : decode cX9_sets 34 = .ok (.iload 4, 2) := by decide +kernel
theorem dX9_sets_36 : decode cX9_sets 36 = .ok (.iload_n 2, 1) := by decide +kernel
theorem dX9_sets_37 : decode cX9_sets 37 = .ok (.invokestatic 88, 3) := by decide +kernel
theorem dX9_sets_40 : decode cX9_sets 40 = .ok (.iand, 1) := by decide +kernel
theorem dX9_sets_41 : decode cX9_sets 41 = .ok (.ifCond .ne 20, 3) := by decide +kernel
theorem dX9_sets_44 : decode cX9_sets 44 = .ok (.aload_n 0, 1) := by decide +kernel
theorem dX9_sets_45 : decode cX9_sets 45 = .ok (.iload_n 1, 1) := by decide +kernel
theorem dX9_sets_46 : decode cX9_sets 46 = .ok (.iconst 1, 1) := by decide +kernel
theorem dX9_sets_47 : decode cX9_sets 47 = .ok (.iadd, 1) := by decide +kernel
theorem dX9_sets_48 : decode cX9_sets 48 = .ok (.iload 4, 2) := by decide +kernel
theorem dX9_sets_50 : decode cX9_sets 50 = .ok (.iload_n 2, 1) := by decide +kernel
theorem dX9_sets_51 : decode cX9_sets 51 = .ok (.ineg, 1) := by decide +kernel
theorem dX9_sets_52 : decode cX9_sets 52 = .ok (.invokestatic 88, 3) := by decide +kernel
theorem dX9_sets_55 : decode cX9_sets 55 = .ok (.iconst (-1), 1) := by decide +kernel
theorem dX9_sets_56 : decode cX9_sets 56 = .ok (.ixor, 1) := by decide +kernel
theorem dX9_sets_57 : decode cX9_sets 57 = .ok (.iand, 1) := by decide +kernel
theorem dX9_sets_58 : decode cX9_sets 58 = .ok (.invokevirtual 122, 3) := by decide +kernel
theorem dX9_sets_61 : decode cX9_sets 61 = .ok (.iinc 3 1, 3) := by decide +kernel
theorem dX9_sets_64 : decode cX9_sets 64 = .ok (.goto (-53), 3) := by decide +kernel
theorem dX9_sets_67 : decode cX9_sets 67 = .ok (.return_, 1) := by decide +kernel
theorem dX9_enters_0 : decode cX9_enters 0 = .ok (.aload_n 0, 1) := by decide +kernel
theorem dX9_enters_1 : decode cX9_enters 1 = .ok (.getfield 47, 3) := by decide +kernel
theorem dX9_enters_4 : decode cX9_enters 4 = .ok (.iload_n 1, 1) := by decide +kernel
theorem dX9_enters_5 : decode cX9_enters 5 = .ok (.iaload, 1) := by decide +kernel
theorem dX9_enters_6 : decode cX9_enters 6 = .ok (.ifCond .ne 10, 3) := by decide +kernel
theorem dX9_enters_9 : decode cX9_enters 9 = .ok (.aload_n 0, 1) := by decide +kernel
theorem dX9_enters_10 : decode cX9_enters 10 = .ok (.iconst 1, 1) := by decide +kernel
theorem dX9_enters_11 : decode cX9_enters 11 = .ok (.putfield 126, 3) := by decide +kernel
theorem dX9_enters_14 : decode cX9_enters 14 = .ok (.iconst 1, 1) := by decide +kernel
theorem dX9_enters_15 : decode cX9_enters 15 = .ok (.ireturn, 1) := by decide +kernel
theorem dX9_enters_16 : decode cX9_enters 16 = .ok (.aload_n 0, 1) := by decide +kernel
theorem dX9_enters_17 : decode cX9_enters 17 = .ok (.getfield 44, 3) := by decide +kernel
theorem dX9_enters_20 : decode cX9_enters 20 = .ok (.bipush 16, 2) := by decide +kernel
theorem dX9_enters_22 : decode cX9_enters 22 = .ok (.iload_n 1, 1) := by decide +kernel
theorem dX9_enters_23 : decode cX9_enters 23 = .ok (.imul, 1) := by decide +kernel
theorem dX9_enters_24 : decode cX9_enters 24 = .ok (.iaload, 1) := by decide +kernel
theorem dX9_enters_25 : decode cX9_enters 25 = .ok (.ifCond .ne 10, 3) := by decide +kernel
theorem dX9_enters_28 : decode cX9_enters 28 = .ok (.aload_n 0, 1) := by decide +kernel
theorem dX9_enters_29 : decode cX9_enters 29 = .ok (.iconst 1, 1) := by decide +kernel
theorem dX9_enters_30 : decode cX9_enters 30 = .ok (.putfield 129, 3) := by decide +kernel
theorem dX9_enters_33 : decode cX9_enters 33 = .ok (.iconst 0, 1) := by decide +kernel
theorem dX9_enters_34 : decode cX9_enters 34 = .ok (.ireturn, 1) := by decide +kernel
theorem dX9_enters_35 : decode cX9_enters 35 = .ok (.aload_n 0, 1) := by decide +kernel
theorem dX9_enters_36 : decode cX9_enters 36 = .ok (.iload_n 1, 1) := by decide +kernel
theorem dX9_enters_37 : decode cX9_enters 37 = .ok (.invokevirtual 132, 3) := by decide +kernel
theorem dX9_enters_40 : decode cX9_enters 40 = .ok (.istore_n 2, 1) := by decide +kernel
theorem dX9_enters_41 : decode cX9_enters 41 = .ok (.iload_n 2, 1) := by decide +kernel
theorem dX9_enters_42 : decode cX9_enters 42 = .ok (.ifCond .lt 5, 3) := by decide +kernel
theorem dX9_enters_45 : decode cX9_enters 45 = .ok (.iload_n 2, 1) := by decide +kernel
theorem dX9_enters_46 : decode cX9_enters 46 = .ok (.ireturn, 1) := by decide +kernel
theorem dX9_enters_47 : decode cX9_enters 47 = .ok (.aload_n 0, 1) := by decide +kernel
theorem dX9_enters_48 : decode cX9_enters 48 = .ok (.getfield 135, 3) := by decide +kernel
theorem dX9_enters_51 : decode cX9_enters 51 = .ok (.istore_n 3, 1) := by decide +kernel
theorem dX9_enters_52 : decode cX9_enters 52 = .ok (.aload_n 0, 1) := by decide +kernel
theorem dX9_enters_53 : decode cX9_enters 53 = .ok (.dup, 1) := by decide +kernel
theorem dX9_enters_54 : decode cX9_enters 54 = .ok (.getfield 135, 3) := by decide +kernel
theorem dX9_enters_57 : decode cX9_enters 57 = .ok (.iconst 1, 1) := by decide +kernel
theorem dX9_enters_58 : decode cX9_enters 58 = .ok (.iadd, 1) := by decide +kernel
theorem dX9_enters_59 : decode cX9_enters 59 = .ok (.putfield 135, 3) := by decide +kernel
theorem dX9_enters_62 : decode cX9_enters 62 = .ok (.aload_n 0, 1) := by decide +kernel
theorem dX9_enters_63 : decode cX9_enters 63 = .ok (.getfield 41, 3) := by decide +kernel
theorem dX9_enters_66 : decode cX9_enters 66 = .ok (.iconst (-1), 1) := by decide +kernel
theorem dX9_enters_67 : decode cX9_enters 67 = .ok (.iload_n 2, 1) := by decide +kernel
theorem dX9_enters_68 : decode cX9_enters 68 = .ok (.isub, 1) := by decide +kernel
theorem dX9_enters_69 : decode cX9_enters 69 = .ok (.iload_n 3, 1) := by decide +kernel
theorem dX9_enters_70 : decode cX9_enters 70 = .ok (.iastore, 1) := by decide +kernel
theorem dX9_enters_71 : decode cX9_enters 71 = .ok (.aload_n 0, 1) := by decide +kernel
theorem dX9_enters_72 : decode cX9_enters 72 = .ok (.getfield 22, 3) := by decide +kernel
theorem dX9_enters_75 : decode cX9_enters 75 = .ok (.iload_n 3, 1) := by decide +kernel
theorem dX9_enters_76 : decode cX9_enters 76 = .ok (.aload_n 0, 1) := by decide +kernel
theorem dX9_enters_77 : decode cX9_enters 77 = .ok (.getfield 138, 3) := by decide +kernel
theorem dX9_enters_80 : decode cX9_enters 80 = .ok (.iastore, 1) := by decide +kernel
theorem dX9_enters_81 : decode cX9_enters 81 = .ok (.aload_n 0, 1) := by decide +kernel
theorem dX9_enters_82 : decode cX9_enters 82 = .ok (.getfield 25, 3) := by decide +kernel
theorem dX9_enters_85 : decode cX9_enters 85 = .ok (.iload_n 3, 1) := by decide +kernel
theorem dX9_enters_86 : decode cX9_enters 86 = .ok (.aload_n 0, 1) := by decide +kernel
theorem dX9_enters_87 : decode cX9_enters 87 = .ok (.getfield 47, 3) := by decide +kernel
theorem dX9_enters_90 : decode cX9_enters 90 = .ok (.iload_n 1, 1) := by decide +kernel
theorem dX9_enters_91 : decode cX9_enters 91 = .ok (.iaload, 1) := by decide +kernel
theorem dX9_enters_92 : decode cX9_enters 92 = .ok (.iastore, 1) := by decide +kernel
theorem dX9_enters_93 : decode cX9_enters 93 = .ok (.iconst 0, 1) := by decide +kernel
theorem dX9_enters_94 : decode cX9_enters 94 = .ok (.istore 4, 2) := by decide +kernel
theorem dX9_enters_96 : decode cX9_enters 96 = .ok (.iload 4, 2) := by decide +kernel
theorem dX9_enters_98 : decode cX9_enters 98 = .ok (.aload_n 0, 1) := by decide +kernel
theorem dX9_enters_99 : decode cX9_enters 99 = .ok (.getfield 47, 3) := by decide +kernel
theorem dX9_enters_102 : decode cX9_enters 102 = .ok (.iload_n 1, 1) := by decide +kernel
theorem dX9_enters_103 : decode cX9_enters 103 = .ok (.iaload, 1) := by decide +kernel
theorem dX9_enters_104 : decode cX9_enters 104 = .ok (.if_icmp .ge 40, 3) := by decide +kernel
theorem dX9_enters_107 : decode cX9_enters 107 = .ok (.aload_n 0, 1) := by decide +kernel
theorem dX9_enters_108 : decode cX9_enters 108 = .ok (.getfield 38, 3) := by decide +kernel
theorem dX9_enters_111 : decode cX9_enters 111 = .ok (.aload_n 0, 1) := by decide +kernel
theorem dX9_enters_112 : decode cX9_enters 112 = .ok (.getfield 138, 3) := by decide +kernel
theorem dX9_enters_115 : decode cX9_enters 115 = .ok (.aload_n 0, 1) := by decide +kernel
theorem dX9_enters_116 : decode cX9_enters 116 = .ok (.getfield 44, 3) := by decide +kernel
theorem dX9_enters_119 : decode cX9_enters 119 = .ok (.bipush 16, 2) := by decide +kernel
theorem dX9_enters_121 : decode cX9_enters 121 = .ok (.iload_n 1, 1) := by decide +kernel
theorem dX9_enters_122 : decode cX9_enters 122 = .ok (.imul, 1) := by decide +kernel
theorem dX9_enters_123 : decode cX9_enters 123 = .ok (.iload 4, 2) := by decide +kernel
theorem dX9_enters_125 : decode cX9_enters 125 = .ok (.iadd, 1) := by decide +kernel
theorem dX9_enters_126 : decode cX9_enters 126 = .ok (.iaload, 1) := by decide +kernel
theorem dX9_enters_127 : decode cX9_enters 127 = .ok (.iastore, 1) := by decide +kernel
theorem dX9_enters_128 : decode cX9_enters 128 = .ok (.aload_n 0, 1) := by decide +kernel
theorem dX9_enters_129 : decode cX9_enters 129 = .ok (.dup, 1) := by decide +kernel
theorem dX9_enters_130 : decode cX9_enters 130 = .ok (.getfield 138, 3) := by decide +kernel
theorem dX9_enters_133 : decode cX9_enters 133 = .ok (.iconst 1, 1) := by decide +kernel
theorem dX9_enters_134 : decode cX9_enters 134 = .ok (.iadd, 1) := by decide +kernel
theorem dX9_enters_135 : decode cX9_enters 135 = .ok (.putfield 138, 3) := by decide +kernel
theorem dX9_enters_138 : decode cX9_enters 138 = .ok (.iinc 4 1, 3) := by decide +kernel
theorem dX9_enters_141 : decode cX9_enters 141 = .ok (.goto (-45), 3) := by decide +kernel
theorem dX9_enters_144 : decode cX9_enters 144 = .ok (.aload_n 0, 1) := by decide +kernel
theorem dX9_enters_145 : decode cX9_enters 145 = .ok (.getfield 28, 3) := by decide +kernel
theorem dX9_enters_148 : decode cX9_enters 148 = .ok (.iload_n 3, 1) := by decide +kernel
theorem dX9_enters_149 : decode cX9_enters 149 = .ok (.aload_n 0, 1) := by decide +kernel
theorem dX9_enters_150 : decode cX9_enters 150 = .ok (.iload_n 1, 1) := by decide +kernel
theorem dX9_enters_151 : decode cX9_enters 151 = .ok (.iconst 0, 1) := by decide +kernel
theorem dX9_enters_152 : decode cX9_enters 152 = .ok (.invokevirtual 141, 3) := by decide +kernel
theorem dX9_enters_155 : decode cX9_enters 155 = .ok (.iconst 1, 1) := by decide +kernel
theorem dX9_enters_156 : decode cX9_enters 156 = .ok (.aload_n 0, 1) := by decide +kernel
theorem dX9_enters_157 : decode cX9_enters 157 = .ok (.getfield 47, 3) := by decide +kernel
theorem dX9_enters_160 : decode cX9_enters 160 = .ok (.iload_n 1, 1) := by decide +kernel
theorem dX9_enters_161 : decode cX9_enters 161 = .ok (.iaload, 1) := by decide +kernel
theorem dX9_enters_162 : decode cX9_enters 162 = .ok (.ishl, 1) := by decide +kernel
theorem dX9_enters_163 : decode cX9_enters 163 = .ok (.iconst 1, 1) := by decide +kernel
theorem dX9_enters_164 : decode cX9_enters 164 = .ok (.isub, 1) := by decide +kernel
theorem dX9_enters_165 : decode cX9_enters 165 = .ok (.if_icmp .ne 11, 3) := by decide +kernel
theorem dX9_enters_168 : decode cX9_enters 168 = .ok (.aload_n 0, 1) := by decide +kernel
theorem dX9_enters_169 : decode cX9_enters 169 = .ok (.iload_n 1, 1) := by decide +kernel
theorem dX9_enters_170 : decode cX9_enters 170 = .ok (.invokevirtual 145, 3) := by decide +kernel
theorem dX9_enters_173 : decode cX9_enters 173 = .ok (.goto 4, 3) := by decide +kernel
theorem dX9_enters_176 : decode cX9_enters 176 = .ok (.iconst 0, 1) := by decide +kernel
theorem dX9_enters_177 : decode cX9_enters 177 = .ok (.iastore, 1) := by decide +kernel
theorem dX9_enters_178 : decode cX9_enters 178 = .ok (.aload_n 0, 1) := by decide +kernel
theorem dX9_enters_179 : decode cX9_enters 179 = .ok (.getfield 31, 3) := by decide +kernel
theorem dX9_enters_182 : decode cX9_enters 182 = .ok (.iload_n 3, 1) := by decide +kernel
theorem dX9_enters_183 : decode cX9_enters 183 = .ok (.aload_n 0, 1) := by decide +kernel
theorem dX9_enters_184 : decode cX9_enters 184 = .ok (.getfield 28, 3) := by decide +kernel
theorem dX9_enters_187 : decode cX9_enters 187 = .ok (.iload_n 3, 1) := by decide +kernel
theorem dX9_enters_188 : decode cX9_enters 188 = .ok (.iaload, 1) := by decide +kernel
theorem dX9_enters_189 : decode cX9_enters 189 = .ok (.ifCond .le 7, 3) := by decide +kernel
theorem dX9_enters_192 : decode cX9_enters 192 = .ok (.iconst 1, 1) := by decide +kernel
theorem dX9_enters_193 : decode cX9_enters 193 = .ok (.goto 4, 3) := by decide +kernel
theorem dX9_enters_196 : decode cX9_enters 196 = .ok (.iconst 0, 1) := by decide +kernel
theorem dX9_enters_197 : decode cX9_enters 197 = .ok (.iastore, 1) := by decide +kernel
theorem dX9_enters_198 : decode cX9_enters 198 = .ok (.aload_n 0, 1) := by decide +kernel
theorem dX9_enters_199 : decode cX9_enters 199 = .ok (.getfield 50, 3) := by decide +kernel
theorem dX9_enters_202 : decode cX9_enters 202 = .ok (.iload_n 1, 1) := by decide +kernel
theorem dX9_enters_203 : decode cX9_enters 203 = .ok (.iload_n 3, 1) := by decide +kernel
theorem dX9_enters_204 : decode cX9_enters 204 = .ok (.iastore, 1) := by decide +kernel
theorem dX9_enters_205 : decode cX9_enters 205 = .ok (.aload_n 0, 1) := by decide +kernel
theorem dX9_enters_206 : decode cX9_enters 206 = .ok (.getfield 53, 3) := by decide +kernel
theorem dX9_enters_209 : decode cX9_enters 209 = .ok (.iload_n 1, 1) := by decide +kernel
theorem dX9_enters_210 : decode cX9_enters 210 = .ok (.iconst 0, 1) := by decide +kernel
theorem dX9_enters_211 : decode cX9_enters 211 = .ok (.iastore, 1) := by decide +kernel
theorem dX9_enters_212 : decode cX9_enters 212 = .ok (.aload_n 0, 1) := by decide +kernel
theorem dX9_enters_213 : decode cX9_enters 213 = .ok (.getfield 56, 3) := by decide +kernel
theorem dX9_enters_216 : decode cX9_enters 216 = .ok (.iload_n 1, 1) := by decide +kernel
theorem dX9_enters_217 : decode cX9_enters 217 = .ok (.iconst 0, 1) := by decide +kernel
theorem dX9_enters_218 : decode cX9_enters 218 = .ok (.iastore, 1) := by decide +kernel
theorem dX9_enters_219 : decode cX9_enters 219 = .ok (.iconst (-1), 1) := by decide +kernel
theorem dX9_enters_220 : decode cX9_enters 220 = .ok (.ireturn, 1) := by decide +kernel
theorem dX9_goesDeeper_0 : decode cX9_goesDeeper 0 = .ok (.aload_n 0, 1) := by decide +kernel
theorem dX9_goesDeeper_1 : decode cX9_goesDeeper 1 = .ok (.getfield 50, 3) := by decide +kernel
theorem dX9_goesDeeper_4 : decode cX9_goesDeeper 4 = .ok (.iload_n 1, 1) := by decide +kernel
theorem dX9_goesDeeper_5 : decode cX9_goesDeeper 5 = .ok (.iaload, 1) := by decide +kernel
theorem dX9_goesDeeper_6 : decode cX9_goesDeeper 6 = .ok (.istore_n 2, 1) := by decide +kernel
theorem dX9_goesDeeper_7 : decode cX9_goesDeeper 7 = .ok (.aload_n 0, 1) := by decide +kernel
theorem dX9_goesDeeper_8 : decode cX9_goesDeeper 8 = .ok (.getfield 28, 3) := by decide +kernel
theorem dX9_goesDeeper_11 : decode cX9_goesDeeper 11 = .ok (.iload_n 2, 1) := by decide +kernel
theorem dX9_goesDeeper_12 : decode cX9_goesDeeper 12 = .ok (.iaload, 1) := by decide +kernel
theorem dX9_goesDeeper_13 : decode cX9_goesDeeper 13 = .ok (.istore_n 3, 1) := by decide +kernel
theorem dX9_goesDeeper_14 : decode cX9_goesDeeper 14 = .ok (.iload_n 3, 1) := by decide +kernel
theorem dX9_goesDeeper_15 : decode cX9_goesDeeper 15 = .ok (.ifCond .le 47, 3) := by decide +kernel
theorem dX9_goesDeeper_18 : decode cX9_goesDeeper 18 = .ok (.aload_n 0, 1) := by decide +kernel
theorem dX9_goesDeeper_19 : decode cX9_goesDeeper 19 = .ok (.getfield 53, 3) := by decide +kernel
theorem dX9_goesDeeper_22 : decode cX9_goesDeeper 22 = .ok (.iload_n 1, 1) := by decide +kernel
theorem dX9_goesDeeper_23 : decode cX9_goesDeeper 23 = .ok (.iaload, 1) := by decide +kernel
theorem dX9_goesDeeper_24 : decode cX9_goesDeeper 24 = .ok (.iconst 2, 1) := by decide +kernel
theorem dX9_goesDeeper_25 : decode cX9_goesDeeper 25 = .ok (.if_icmp .ne 5, 3) := by decide +kernel
theorem dX9_goesDeeper_28 : decode cX9_goesDeeper 28 = .ok (.iconst 0, 1) := by decide +kernel
theorem dX9_goesDeeper_29 : decode cX9_goesDeeper 29 = .ok (.ireturn, 1) := by decide +kernel
theorem dX9_goesDeeper_30 : decode cX9_goesDeeper 30 = .ok (.aload_n 0, 1) := by decide +kernel
theorem dX9_goesDeeper_31 : decode cX9_goesDeeper 31 = .ok (.iload_n 1, 1) := by decide +kernel
theorem dX9_goesDeeper_32 : decode cX9_goesDeeper 32 = .ok (.aload_n 0, 1) := by decide +kernel
theorem dX9_goesDeeper_33 : decode cX9_goesDeeper 33 = .ok (.getfield 53, 3) := by decide +kernel
theorem dX9_goesDeeper_36 : decode cX9_goesDeeper 36 = .ok (.iload_n 1, 1) := by decide +kernel
theorem dX9_goesDeeper_37 : decode cX9_goesDeeper 37 = .ok (.iaload, 1) := by decide +kernel
theorem dX9_goesDeeper_38 : decode cX9_goesDeeper 38 = .ok (.ifCond .ne 8, 3) := by decide +kernel
theorem dX9_goesDeeper_41 : decode cX9_goesDeeper 41 = .ok (.iload_n 3, 1) := by decide +kernel
theorem dX9_goesDeeper_42 : decode cX9_goesDeeper 42 = .ok (.ineg, 1) := by decide +kernel
theorem dX9_goesDeeper_43 : decode cX9_goesDeeper 43 = .ok (.goto 4, 3) := by decide +kernel
theorem dX9_goesDeeper_46 : decode cX9_goesDeeper 46 = .ok (.iload_n 3, 1) := by decide +kernel
theorem dX9_goesDeeper_47 : decode cX9_goesDeeper 47 = .ok (.invokevirtual 148, 3) := by decide +kernel
theorem dX9_goesDeeper_50 : decode cX9_goesDeeper 50 = .ok (.aload_n 0, 1) := by decide +kernel
theorem dX9_goesDeeper_51 : decode cX9_goesDeeper 51 = .ok (.getfield 53, 3) := by decide +kernel
theorem dX9_goesDeeper_54 : decode cX9_goesDeeper 54 = .ok (.iload_n 1, 1) := by decide +kernel
theorem dX9_goesDeeper_55 : decode cX9_goesDeeper 55 = .ok (.dup2, 1) := by decide +kernel
theorem dX9_goesDeeper_56 : decode cX9_goesDeeper 56 = .ok (.iaload, 1) := by decide +kernel
theorem dX9_goesDeeper_57 : decode cX9_goesDeeper 57 = .ok (.iconst 1, 1) := by decide +kernel
theorem dX9_goesDeeper_58 : decode cX9_goesDeeper 58 = .ok (.iadd, 1) := by decide +kernel
theorem dX9_goesDeeper_59 : decode cX9_goesDeeper 59 = .ok (.iastore, 1) := by decide +kernel
theorem dX9_goesDeeper_60 : decode cX9_goesDeeper 60 = .ok (.iconst 1, 1) := by decide +kernel
theorem dX9_goesDeeper_61 : decode cX9_goesDeeper 61 = .ok (.ireturn, 1) := by decide +kernel
theorem dX9_goesDeeper_62 : decode cX9_goesDeeper 62 = .ok (.aload_n 0, 1) := by decide +kernel
theorem dX9_goesDeeper_63 : decode cX9_goesDeeper 63 = .ok (.getfield 53, 3) := by decide +kernel
theorem dX9_goesDeeper_66 : decode cX9_goesDeeper 66 = .ok (.iload_n 1, 1) := by decide +kernel
theorem dX9_goesDeeper_67 : decode cX9_goesDeeper 67 = .ok (.iaload, 1) := by decide +kernel
theorem dX9_goesDeeper_68 : decode cX9_goesDeeper 68 = .ok (.iconst 1, 1) := by decide +kernel
theorem dX9_goesDeeper_69 : decode cX9_goesDeeper 69 = .ok (.aload_n 0, 1) := by decide +kernel
theorem dX9_goesDeeper_70 : decode cX9_goesDeeper 70 = .ok (.getfield 47, 3) := by decide +kernel
theorem dX9_goesDeeper_73 : decode cX9_goesDeeper 73 = .ok (.iload_n 1, 1) := by decide +kernel
theorem dX9_goesDeeper_74 : decode cX9_goesDeeper 74 = .ok (.iaload, 1) := by decide +kernel
theorem dX9_goesDeeper_75 : decode cX9_goesDeeper 75 = .ok (.ishl, 1) := by decide +kernel
theorem dX9_goesDeeper_76 : decode cX9_goesDeeper 76 = .ok (.iconst 1, 1) := by decide +kernel
theorem dX9_goesDeeper_77 : decode cX9_goesDeeper 77 = .ok (.isub, 1) := by decide +kernel
theorem dX9_goesDeeper_78 : decode cX9_goesDeeper 78 = .ok (.if_icmp .ne 5, 3) := by decide +kernel
theorem dX9_goesDeeper_81 : decode cX9_goesDeeper 81 = .ok (.iconst 0, 1) := by decide +kernel
theorem dX9_goesDeeper_82 : decode cX9_goesDeeper 82 = .ok (.ireturn, 1) := by decide +kernel
theorem dX9_goesDeeper_83 : decode cX9_goesDeeper 83 = .ok (.aload_n 0, 1) := by decide +kernel
theorem dX9_goesDeeper_84 : decode cX9_goesDeeper 84 = .ok (.iload_n 1, 1) := by decide +kernel
theorem dX9_goesDeeper_85 : decode cX9_goesDeeper 85 = .ok (.aload_n 0, 1) := by decide +kernel
theorem dX9_goesDeeper_86 : decode cX9_goesDeeper 86 = .ok (.getfield 53, 3) := by decide +kernel
theorem dX9_goesDeeper_89 : decode cX9_goesDeeper 89 = .ok (.iload_n 1, 1) := by decide +kernel
theorem dX9_goesDeeper_90 : decode cX9_goesDeeper 90 = .ok (.iaload, 1) := by decide +kernel
theorem dX9_goesDeeper_91 : decode cX9_goesDeeper 91 = .ok (.invokevirtual 141, 3) := by decide +kernel
theorem dX9_goesDeeper_94 : decode cX9_goesDeeper 94 = .ok (.istore 4, 2) := by decide +kernel
theorem dX9_goesDeeper_96 : decode cX9_goesDeeper 96 = .ok (.aload_n 0, 1) := by decide +kernel
theorem dX9_goesDeeper_97 : decode cX9_goesDeeper 97 = .ok (.getfield 47, 3) := by decide +kernel
theorem dX9_goesDeeper_100 : decode cX9_goesDeeper 100 = .ok (.iload_n 1, 1) := by decide +kernel
theorem dX9_goesDeeper_101 : decode cX9_goesDeeper 101 = .ok (.iconst 1, 1) := by decide +kernel
theorem dX9_goesDeeper_102 : decode cX9_goesDeeper 102 = .ok (.iadd, 1) := by decide +kernel
theorem dX9_goesDeeper_103 : decode cX9_goesDeeper 103 = .ok (.iconst 0, 1) := by decide +kernel
theorem dX9_goesDeeper_104 : decode cX9_goesDeeper 104 = .ok (.iastore, 1) := by decide +kernel
theorem dX9_goesDeeper_105 : decode cX9_goesDeeper 105 = .ok (.iconst 0, 1) := by decide +kernel
theorem dX9_goesDeeper_106 : decode cX9_goesDeeper 106 = .ok (.istore 5, 2) := by decide +kernel
theorem dX9_goesDeeper_108 : decode cX9_goesDeeper 108 = .ok (.iload 5, 2) := by decide +kernel
theorem dX9_goesDeeper_110 : decode cX9_goesDeeper 110 = .ok (.aload_n 0, 1) := by decide +kernel
theorem dX9_goesDeeper_111 : decode cX9_goesDeeper 111 = .ok (.getfield 47, 3) := by decide +kernel
theorem dX9_goesDeeper_114 : decode cX9_goesDeeper 114 = .ok (.iload_n 1, 1) := by decide +kernel
theorem dX9_goesDeeper_115 : decode cX9_goesDeeper 115 = .ok (.iaload, 1) := by decide +kernel
theorem dX9_goesDeeper_116 : decode cX9_goesDeeper 116 = .ok (.if_icmp .ge 39, 3) := by decide +kernel
theorem dX9_goesDeeper_119 : decode cX9_goesDeeper 119 = .ok (.iload 4, 2) := by decide +kernel
theorem dX9_goesDeeper_121 : decode cX9_goesDeeper 121 = .ok (.iload 5, 2) := by decide +kernel
theorem dX9_goesDeeper_123 : decode cX9_goesDeeper 123 = .ok (.ishr, 1) := by decide +kernel
theorem dX9_goesDeeper_124 : decode cX9_goesDeeper 124 = .ok (.iconst 1, 1) := by decide +kernel
theorem dX9_goesDeeper_125 : decode cX9_goesDeeper 125 = .ok (.iand, 1) := by decide +kernel
theorem dX9_goesDeeper_126 : decode cX9_goesDeeper 126 = .ok (.iconst 1, 1) := by decide +kernel
theorem dX9_goesDeeper_127 : decode cX9_goesDeeper 127 = .ok (.if_icmp .ne 22, 3) := by decide +kernel
theorem dX9_goesDeeper_130 : decode cX9_goesDeeper 130 = .ok (.aload_n 0, 1) := by decide +kernel
theorem dX9_goesDeeper_131 : decode cX9_goesDeeper 131 = .ok (.iload_n 1, 1) := by decide +kernel
theorem dX9_goesDeeper_132 : decode cX9_goesDeeper 132 = .ok (.iconst 1, 1) := by decide +kernel
theorem dX9_goesDeeper_133 : decode cX9_goesDeeper 133 = .ok (.iadd, 1) := by decide +kernel
theorem dX9_goesDeeper_134 : decode cX9_goesDeeper 134 = .ok (.aload_n 0, 1) := by decide +kernel
theorem dX9_goesDeeper_135 : decode cX9_goesDeeper 135 = .ok (.getfield 44, 3) := by decide +kernel
theorem dX9_goesDeeper_138 : decode cX9_goesDeeper 138 = .ok (.bipush 16, 2) := by decide +kernel
theorem dX9_goesDeeper_140 : decode cX9_goesDeeper 140 = .ok (.iload_n 1, 1) := by decide +kernel
theorem dX9_goesDeeper_141 : decode cX9_goesDeeper 141 = .ok (.imul, 1) := by decide +kernel
theorem dX9_goesDeeper_142 : decode cX9_goesDeeper 142 = .ok (.iload 5, 2) := by decide +kernel
theorem dX9_goesDeeper_144 : decode cX9_goesDeeper 144 = .ok (.iadd, 1) := by decide +kernel
theorem dX9_goesDeeper_145 : decode cX9_goesDeeper 145 = .ok (.iaload, 1) := by decide +kernel
theorem dX9_goesDeeper_146 : decode cX9_goesDeeper 146 = .ok (.invokevirtual 122, 3) := by decide +kernel
theorem dX9_goesDeeper_149 : decode cX9_goesDeeper 149 = .ok (.iinc 5 1, 3) := by decide +kernel
theorem dX9_goesDeeper_152 : decode cX9_goesDeeper 152 = .ok (.goto (-44), 3) := by decide +kernel
theorem dX9_goesDeeper_155 : decode cX9_goesDeeper 155 = .ok (.aload_n 0, 1) := by decide +kernel
theorem dX9_goesDeeper_156 : decode cX9_goesDeeper 156 = .ok (.getfield 53, 3) := by decide +kernel
theorem dX9_goesDeeper_159 : decode cX9_goesDeeper 159 = .ok (.iload_n 1, 1) := by decide +kernel
theorem dX9_goesDeeper_160 : decode cX9_goesDeeper 160 = .ok (.dup2, 1) := by decide +kernel
theorem dX9_goesDeeper_161 : decode cX9_goesDeeper 161 = .ok (.iaload, 1) := by decide +kernel
theorem dX9_goesDeeper_162 : decode cX9_goesDeeper 162 = .ok (.iload 4, 2) := by decide +kernel
theorem dX9_goesDeeper_164 : decode cX9_goesDeeper 164 = .ok (.ior, 1) := by decide +kernel
theorem dX9_goesDeeper_165 : decode cX9_goesDeeper 165 = .ok (.iastore, 1) := by decide +kernel
theorem dX9_goesDeeper_166 : decode cX9_goesDeeper 166 = .ok (.aload_n 0, 1) := by decide +kernel
theorem dX9_goesDeeper_167 : decode cX9_goesDeeper 167 = .ok (.getfield 31, 3) := by decide +kernel
theorem dX9_goesDeeper_170 : decode cX9_goesDeeper 170 = .ok (.iload_n 2, 1) := by decide +kernel
theorem dX9_goesDeeper_171 : decode cX9_goesDeeper 171 = .ok (.dup2, 1) := by decide +kernel
theorem dX9_goesDeeper_172 : decode cX9_goesDeeper 172 = .ok (.iaload, 1) := by decide +kernel
theorem dX9_goesDeeper_173 : decode cX9_goesDeeper 173 = .ok (.iconst 1, 1) := by decide +kernel
theorem dX9_goesDeeper_174 : decode cX9_goesDeeper 174 = .ok (.iadd, 1) := by decide +kernel
theorem dX9_goesDeeper_175 : decode cX9_goesDeeper 175 = .ok (.iastore, 1) := by decide +kernel
theorem dX9_goesDeeper_176 : decode cX9_goesDeeper 176 = .ok (.iconst 1, 1) := by decide +kernel
theorem dX9_goesDeeper_177 : decode cX9_goesDeeper 177 = .ok (.ireturn, 1) := by decide +kernel
theorem dX9_builds_0 : decode cX9_builds 0 = .ok (.iconst 0, 1) := by decide +kernel
theorem dX9_builds_1 : decode cX9_builds 1 = .ok (.istore_n 1, 1) := by decide +kernel
theorem dX9_builds_2 : decode cX9_builds 2 = .ok (.aload_n 0, 1) := by decide +kernel
theorem dX9_builds_3 : decode cX9_builds 3 = .ok (.iconst 0, 1) := by decide +kernel
theorem dX9_builds_4 : decode cX9_builds 4 = .ok (.invokevirtual 151, 3) := by decide +kernel
theorem dX9_builds_7 : decode cX9_builds 7 = .ok (.istore_n 2, 1) := by decide +kernel
theorem dX9_builds_8 : decode cX9_builds 8 = .ok (.iload_n 1, 1) := by decide +kernel
theorem dX9_builds_9 : decode cX9_builds 9 = .ok (.ifCond .gt 7, 3) := by decide +kernel
theorem dX9_builds_12 : decode cX9_builds 12 = .ok (.iload_n 2, 1) := by decide +kernel
theorem dX9_builds_13 : decode cX9_builds 13 = .ok (.ifCond .ge 95, 3) := by decide +kernel
theorem dX9_builds_16 : decode cX9_builds 16 = .ok (.iload_n 2, 1) := by decide +kernel
theorem dX9_builds_17 : decode cX9_builds 17 = .ok (.ifCond .lt 47, 3) := by decide +kernel
theorem dX9_builds_20 : decode cX9_builds 20 = .ok (.iinc 1 (-1), 3) := by decide +kernel
theorem dX9_builds_23 : decode cX9_builds 23 = .ok (.aload_n 0, 1) := by decide +kernel
theorem dX9_builds_24 : decode cX9_builds 24 = .ok (.getfield 56, 3) := by decide +kernel
theorem dX9_builds_27 : decode cX9_builds 27 = .ok (.iload_n 1, 1) := by decide +kernel
theorem dX9_builds_28 : decode cX9_builds 28 = .ok (.aload_n 0, 1) := by decide +kernel
theorem dX9_builds_29 : decode cX9_builds 29 = .ok (.getfield 34, 3) := by decide +kernel
theorem dX9_builds_32 : decode cX9_builds 32 = .ok (.iload_n 2, 1) := by decide +kernel
theorem dX9_builds_33 : decode cX9_builds 33 = .ok (.iaload, 1) := by decide +kernel
theorem dX9_builds_34 : decode cX9_builds 34 = .ok (.aload_n 0, 1) := by decide +kernel
theorem dX9_builds_35 : decode cX9_builds 35 = .ok (.getfield 56, 3) := by decide +kernel
theorem dX9_builds_38 : decode cX9_builds 38 = .ok (.iload_n 1, 1) := by decide +kernel
theorem dX9_builds_39 : decode cX9_builds 39 = .ok (.iaload, 1) := by decide +kernel
theorem dX9_builds_40 : decode cX9_builds 40 = .ok (.if_icmp .le 12, 3) := by decide +kernel
theorem dX9_builds_43 : decode cX9_builds 43 = .ok (.aload_n 0, 1) := by decide +kernel
theorem dX9_builds_44 : decode cX9_builds 44 = .ok (.getfield 34, 3) := by decide +kernel
theorem dX9_builds_47 : decode cX9_builds 47 = .ok (.iload_n 2, 1) := by decide +kernel
theorem dX9_builds_48 : decode cX9_builds 48 = .ok (.iaload, 1) := by decide +kernel
theorem dX9_builds_49 : decode cX9_builds 49 = .ok (.goto 9, 3) := by decide +kernel
theorem dX9_builds_52 : decode cX9_builds 52 = .ok (.aload_n 0, 1) := by decide +kernel
theorem dX9_builds_53 : decode cX9_builds 53 = .ok (.getfield 56, 3) := by decide +kernel
theorem dX9_builds_56 : decode cX9_builds 56 = .ok (.iload_n 1, 1) := by decide +kernel
theorem dX9_builds_57 : decode cX9_builds 57 = .ok (.iaload, 1) := by decide +kernel
theorem dX9_builds_58 : decode cX9_builds 58 = .ok (.iastore, 1) := by decide +kernel
theorem dX9_builds_59 : decode cX9_builds 59 = .ok (.iconst (-1), 1) := by decide +kernel
theorem dX9_builds_60 : decode cX9_builds 60 = .ok (.istore_n 2, 1) := by decide +kernel
theorem dX9_builds_61 : decode cX9_builds 61 = .ok (.goto (-53), 3) := by decide +kernel
theorem dX9_builds_64 : decode cX9_builds 64 = .ok (.aload_n 0, 1) := by decide +kernel
theorem dX9_builds_65 : decode cX9_builds 65 = .ok (.iload_n 1, 1) := by decide +kernel
theorem dX9_builds_66 : decode cX9_builds 66 = .ok (.invokevirtual 154, 3) := by decide +kernel
theorem dX9_builds_69 : decode cX9_builds 69 = .ok (.ifCond .eq 15, 3) := by decide +kernel
theorem dX9_builds_72 : decode cX9_builds 72 = .ok (.iinc 1 1, 3) := by decide +kernel
theorem dX9_builds_75 : decode cX9_builds 75 = .ok (.aload_n 0, 1) := by decide +kernel
theorem dX9_builds_76 : decode cX9_builds 76 = .ok (.iload_n 1, 1) := by decide +kernel
theorem dX9_builds_77 : decode cX9_builds 77 = .ok (.invokevirtual 151, 3) := by decide +kernel
theorem dX9_builds_80 : decode cX9_builds 80 = .ok (.istore_n 2, 1) := by decide +kernel
theorem dX9_builds_81 : decode cX9_builds 81 = .ok (.goto (-73), 3) := by decide +kernel
theorem dX9_builds_84 : decode cX9_builds 84 = .ok (.aload_n 0, 1) := by decide +kernel
theorem dX9_builds_85 : decode cX9_builds 85 = .ok (.getfield 50, 3) := by decide +kernel
theorem dX9_builds_88 : decode cX9_builds 88 = .ok (.iload_n 1, 1) := by decide +kernel
theorem dX9_builds_89 : decode cX9_builds 89 = .ok (.iaload, 1) := by decide +kernel
theorem dX9_builds_90 : decode cX9_builds 90 = .ok (.istore_n 2, 1) := by decide +kernel
theorem dX9_builds_91 : decode cX9_builds 91 = .ok (.aload_n 0, 1) := by decide +kernel
theorem dX9_builds_92 : decode cX9_builds 92 = .ok (.getfield 34, 3) := by decide +kernel
theorem dX9_builds_95 : decode cX9_builds 95 = .ok (.iload_n 2, 1) := by decide +kernel
theorem dX9_builds_96 : decode cX9_builds 96 = .ok (.aload_n 0, 1) := by decide +kernel
theorem dX9_builds_97 : decode cX9_builds 97 = .ok (.getfield 56, 3) := by decide +kernel
theorem dX9_builds_100 : decode cX9_builds 100 = .ok (.iload_n 1, 1) := by decide +kernel
theorem dX9_builds_101 : decode cX9_builds 101 = .ok (.iaload, 1) := by decide +kernel
theorem dX9_builds_102 : decode cX9_builds 102 = .ok (.iconst 1, 1) := by decide +kernel
theorem dX9_builds_103 : decode cX9_builds 103 = .ok (.iadd, 1) := by decide +kernel
theorem dX9_builds_104 : decode cX9_builds 104 = .ok (.iastore, 1) := by decide +kernel
theorem dX9_builds_105 : decode cX9_builds 105 = .ok (.goto (-97), 3) := by decide +kernel
theorem dX9_builds_108 : decode cX9_builds 108 = .ok (.iload_n 2, 1) := by decide +kernel
theorem dX9_builds_109 : decode cX9_builds 109 = .ok (.ireturn, 1) := by decide +kernel
theorem dX9_compiles_0 : decode cX9_compiles 0 = .ok (.aload_n 0, 1) := by decide +kernel
theorem dX9_compiles_1 : decode cX9_compiles 1 = .ok (.getfield 77, 3) := by decide +kernel
theorem dX9_compiles_4 : decode cX9_compiles 4 = .ok (.ifCond .eq 4, 3) := by decide +kernel
theorem dX9_compiles_7 : decode cX9_compiles 7 = .ok (.return_, 1) := by decide +kernel
theorem dX9_compiles_8 : decode cX9_compiles 8 = .ok (.aload_n 0, 1) := by decide +kernel
theorem dX9_compiles_9 : decode cX9_compiles 9 = .ok (.iconst 1, 1) := by decide +kernel
theorem dX9_compiles_10 : decode cX9_compiles 10 = .ok (.putfield 77, 3) := by decide +kernel
theorem dX9_compiles_13 : decode cX9_compiles 13 = .ok (.iconst 0, 1) := by decide +kernel
theorem dX9_compiles_14 : decode cX9_compiles 14 = .ok (.istore_n 1, 1) := by decide +kernel
theorem dX9_compiles_15 : decode cX9_compiles 15 = .ok (.iload_n 1, 1) := by decide +kernel
theorem dX9_compiles_16 : decode cX9_compiles 16 = .ok (.sipush 16384, 3) := by decide +kernel
theorem dX9_compiles_19 : decode cX9_compiles 19 = .ok (.if_icmp .ge 16, 3) := by decide +kernel
theorem dX9_compiles_22 : decode cX9_compiles 22 = .ok (.aload_n 0, 1) := by decide +kernel
theorem dX9_compiles_23 : decode cX9_compiles 23 = .ok (.getfield 41, 3) := by decide +kernel
theorem dX9_compiles_26 : decode cX9_compiles 26 = .ok (.iload_n 1, 1) := by decide +kernel
theorem dX9_compiles_27 : decode cX9_compiles 27 = .ok (.iconst 0, 1) := by decide +kernel
theorem dX9_compiles_28 : decode cX9_compiles 28 = .ok (.iastore, 1) := by decide +kernel
theorem dX9_compiles_29 : decode cX9_compiles 29 = .ok (.iinc 1 1, 3) := by decide +kernel
theorem dX9_compiles_32 : decode cX9_compiles 32 = .ok (.goto (-17), 3) := by decide +kernel
theorem dX9_compiles_35 : decode cX9_compiles 35 = .ok (.aload_n 0, 1) := by decide +kernel
theorem dX9_compiles_36 : decode cX9_compiles 36 = .ok (.iconst 2, 1) := by decide +kernel
theorem dX9_compiles_37 : decode cX9_compiles 37 = .ok (.putfield 135, 3) := by decide +kernel
theorem dX9_compiles_40 : decode cX9_compiles 40 = .ok (.aload_n 0, 1) := by decide +kernel
theorem dX9_compiles_41 : decode cX9_compiles 41 = .ok (.iconst 0, 1) := by decide +kernel
theorem dX9_compiles_42 : decode cX9_compiles 42 = .ok (.putfield 138, 3) := by decide +kernel
theorem dX9_compiles_45 : decode cX9_compiles 45 = .ok (.aload_n 0, 1) := by decide +kernel
theorem dX9_compiles_46 : decode cX9_compiles 46 = .ok (.iconst 0, 1) := by decide +kernel
theorem dX9_compiles_47 : decode cX9_compiles 47 = .ok (.putfield 129, 3) := by decide +kernel
theorem dX9_compiles_50 : decode cX9_compiles 50 = .ok (.aload_n 0, 1) := by decide +kernel
theorem dX9_compiles_51 : decode cX9_compiles 51 = .ok (.iconst 0, 1) := by decide +kernel
theorem dX9_compiles_52 : decode cX9_compiles 52 = .ok (.putfield 126, 3) := by decide +kernel
theorem dX9_compiles_55 : decode cX9_compiles 55 = .ok (.aload_n 0, 1) := by decide +kernel
theorem dX9_compiles_56 : decode cX9_compiles 56 = .ok (.getfield 47, 3) := by decide +kernel
theorem dX9_compiles_59 : decode cX9_compiles 59 = .ok (.iconst 0, 1) := by decide +kernel
theorem dX9_compiles_60 : decode cX9_compiles 60 = .ok (.iconst 0, 1) := by decide +kernel
theorem dX9_compiles_61 : decode cX9_compiles 61 = .ok (.iastore, 1) := by decide +kernel
theorem dX9_compiles_62 : decode cX9_compiles 62 = .ok (.aload_n 0, 1) := by decide +kernel
theorem dX9_compiles_63 : decode cX9_compiles 63 = .ok (.getfield 7, 3) := by decide +kernel
theorem dX9_compiles_66 : decode cX9_compiles 66 = .ok (.bipush 17, 2) := by decide +kernel
theorem dX9_compiles_68 : decode cX9_compiles 68 = .ok (.iaload, 1) := by decide +kernel
theorem dX9_compiles_69 : decode cX9_compiles 69 = .ok (.aload_n 0, 1) := by decide +kernel
theorem dX9_compiles_70 : decode cX9_compiles 70 = .ok (.getfield 7, 3) := by decide +kernel
theorem dX9_compiles_73 : decode cX9_compiles 73 = .ok (.bipush 18, 2) := by decide +kernel
theorem dX9_compiles_75 : decode cX9_compiles 75 = .ok (.iaload, 1) := by decide +kernel
theorem dX9_compiles_76 : decode cX9_compiles 76 = .ok (.bipush 10, 2) := by decide +kernel
theorem dX9_compiles_78 : decode cX9_compiles 78 = .ok (.ishl, 1) := by decide +kernel
theorem dX9_compiles_79 : decode cX9_compiles 79 = .ok (.ior, 1) := by decide +kernel
theorem dX9_compiles_80 : decode cX9_compiles 80 = .ok (.istore_n 1, 1) := by decide +kernel
theorem dX9_compiles_81 : decode cX9_compiles 81 = .ok (.aload_n 0, 1) := by decide +kernel
theorem dX9_compiles_82 : decode cX9_compiles 82 = .ok (.getfield 7, 3) := by decide +kernel
theorem dX9_compiles_85 : decode cX9_compiles 85 = .ok (.bipush 18, 2) := by decide +kernel
theorem dX9_compiles_87 : decode cX9_compiles 87 = .ok (.iaload, 1) := by decide +kernel
theorem dX9_compiles_88 : decode cX9_compiles 88 = .ok (.aload_n 0, 1) := by decide +kernel
theorem dX9_compiles_89 : decode cX9_compiles 89 = .ok (.getfield 7, 3) := by decide +kernel
theorem dX9_compiles_92 : decode cX9_compiles 92 = .ok (.bipush 17, 2) := by decide +kernel
