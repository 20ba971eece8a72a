theorem dX3_variableAtRoot_15 : decode cX3_variableAtRoot 15 = .ok (.ifCond .ne 6, 3) := by decide +kernel
theorem dX3_variableAtRoot_18 : decode cX3_variableAtRoot 18 = .ok (.bipush (-2), 2) := by decide +kernel
theorem dX3_variableAtRoot_20 : decode cX3_variableAtRoot 20 = .ok (.ireturn, 1) := by decide +kernel
theorem dX3_variableAtRoot_21 : decode cX3_variableAtRoot 21 = .ok (.aload_n 0, 1) := by decide +kernel
theorem dX3_variableAtRoot_22 : decode cX3_variableAtRoot 22 = .ok (.invokevirtual 79, 3) := by decide +kernel
theorem dX3_variableAtRoot_25 : decode cX3_variableAtRoot 25 = .ok (.iconst 1, 1) := by decide +kernel
theorem dX3_variableAtRoot_26 : decode cX3_variableAtRoot 26 = .ok (.if_icmp .ne 15, 3) := by decide +kernel
theorem dX3_variableAtRoot_29 : decode cX3_variableAtRoot 29 = .ok (.aload_n 0, 1) := by decide +kernel
theorem dX3_variableAtRoot_30 : decode cX3_variableAtRoot 30 = .ok (.iconst 0, 1) := by decide +kernel
theorem dX3_variableAtRoot_31 : decode cX3_variableAtRoot 31 = .ok (.aload_n 0, 1) := by decide +kernel
theorem dX3_variableAtRoot_32 : decode cX3_variableAtRoot 32 = .ok (.getfield 53, 3) := by decide +kernel
theorem dX3_variableAtRoot_35 : decode cX3_variableAtRoot 35 = .ok (.invokevirtual 83, 3) := by decide +kernel
theorem dX3_variableAtRoot_38 : decode cX3_variableAtRoot 38 = .ok (.goto 4, 3) := by decide +kernel
theorem dX3_variableAtRoot_41 : decode cX3_variableAtRoot 41 = .ok (.iconst 0, 1) := by decide +kernel
theorem dX3_variableAtRoot_42 : decode cX3_variableAtRoot 42 = .ok (.ireturn, 1) := by decide +kernel
theorem dX3_partsAtRoot_0 : decode cX3_partsAtRoot 0 = .ok (.aload_n 0, 1) := by decide +kernel
theorem dX3_partsAtRoot_1 : decode cX3_partsAtRoot 1 = .ok (.getfield 53, 3) := by decide +kernel
theorem dX3_partsAtRoot_4 : decode cX3_partsAtRoot 4 = .ok (.ifCond .eq 12, 3) := by decide +kernel
theorem dX3_partsAtRoot_7 : decode cX3_partsAtRoot 7 = .ok (.aload_n 0, 1) := by decide +kernel
theorem dX3_partsAtRoot_8 : decode cX3_partsAtRoot 8 = .ok (.getfield 11, 3) := by decide +kernel
theorem dX3_partsAtRoot_11 : decode cX3_partsAtRoot 11 = .ok (.iconst 0, 1) := by decide +kernel
theorem dX3_partsAtRoot_12 : decode cX3_partsAtRoot 12 = .ok (.iaload, 1) := by decide +kernel
theorem dX3_partsAtRoot_13 : decode cX3_partsAtRoot 13 = .ok (.ifCond .ne 5, 3) := by decide +kernel
theorem dX3_partsAtRoot_16 : decode cX3_partsAtRoot 16 = .ok (.iconst 0, 1) := by decide +kernel
theorem dX3_partsAtRoot_17 : decode cX3_partsAtRoot 17 = .ok (.ireturn, 1) := by decide +kernel
theorem dX3_partsAtRoot_18 : decode cX3_partsAtRoot 18 = .ok (.iconst 0, 1) := by decide +kernel
theorem dX3_partsAtRoot_19 : decode cX3_partsAtRoot 19 = .ok (.istore_n 1, 1) := by decide +kernel
theorem dX3_partsAtRoot_20 : decode cX3_partsAtRoot 20 = .ok (.iconst 0, 1) := by decide +kernel
theorem dX3_partsAtRoot_21 : decode cX3_partsAtRoot 21 = .ok (.istore_n 2, 1) := by decide +kernel
theorem dX3_partsAtRoot_22 : decode cX3_partsAtRoot 22 = .ok (.iconst 0, 1) := by decide +kernel
theorem dX3_partsAtRoot_23 : decode cX3_partsAtRoot 23 = .ok (.istore_n 3, 1) := by decide +kernel
theorem dX3_partsAtRoot_24 : decode cX3_partsAtRoot 24 = .ok (.iload_n 3, 1) := by decide +kernel
theorem dX3_partsAtRoot_25 : decode cX3_partsAtRoot 25 = .ok (.aload_n 0, 1) := by decide +kernel
theorem dX3_partsAtRoot_26 : decode cX3_partsAtRoot 26 = .ok (.getfield 53, 3) := by decide +kernel
theorem dX3_partsAtRoot_29 : decode cX3_partsAtRoot 29 = .ok (.if_icmp .ge 44, 3) := by decide +kernel
theorem dX3_partsAtRoot_32 : decode cX3_partsAtRoot 32 = .ok (.aload_n 0, 1) := by decide +kernel
theorem dX3_partsAtRoot_33 : decode cX3_partsAtRoot 33 = .ok (.getfield 11, 3) := by decide +kernel
theorem dX3_partsAtRoot_36 : decode cX3_partsAtRoot 36 = .ok (.iload_n 3, 1) := by decide +kernel
theorem dX3_partsAtRoot_37 : decode cX3_partsAtRoot 37 = .ok (.iaload, 1) := by decide +kernel
theorem dX3_partsAtRoot_38 : decode cX3_partsAtRoot 38 = .ok (.invokestatic 86, 3) := by decide +kernel
theorem dX3_partsAtRoot_41 : decode cX3_partsAtRoot 41 = .ok (.iload_n 2, 1) := by decide +kernel
theorem dX3_partsAtRoot_42 : decode cX3_partsAtRoot 42 = .ok (.iand, 1) := by decide +kernel
theorem dX3_partsAtRoot_43 : decode cX3_partsAtRoot 43 = .ok (.ifCond .ne 24, 3) := by decide +kernel
theorem dX3_partsAtRoot_46 : decode cX3_partsAtRoot 46 = .ok (.iinc 1 1, 3) := by decide +kernel
theorem dX3_partsAtRoot_49 : decode cX3_partsAtRoot 49 = .ok (.iload_n 2, 1) := by decide +kernel
theorem dX3_partsAtRoot_50 : decode cX3_partsAtRoot 50 = .ok (.aload_n 0, 1) := by decide +kernel
theorem dX3_partsAtRoot_51 : decode cX3_partsAtRoot 51 = .ok (.aload_n 0, 1) := by decide +kernel
theorem dX3_partsAtRoot_52 : decode cX3_partsAtRoot 52 = .ok (.getfield 11, 3) := by decide +kernel
theorem dX3_partsAtRoot_55 : decode cX3_partsAtRoot 55 = .ok (.iload_n 3, 1) := by decide +kernel
theorem dX3_partsAtRoot_56 : decode cX3_partsAtRoot 56 = .ok (.iaload, 1) := by decide +kernel
theorem dX3_partsAtRoot_57 : decode cX3_partsAtRoot 57 = .ok (.iconst 0, 1) := by decide +kernel
theorem dX3_partsAtRoot_58 : decode cX3_partsAtRoot 58 = .ok (.aload_n 0, 1) := by decide +kernel
theorem dX3_partsAtRoot_59 : decode cX3_partsAtRoot 59 = .ok (.getfield 53, 3) := by decide +kernel
theorem dX3_partsAtRoot_62 : decode cX3_partsAtRoot 62 = .ok (.invokevirtual 89, 3) := by decide +kernel
theorem dX3_partsAtRoot_65 : decode cX3_partsAtRoot 65 = .ok (.ior, 1) := by decide +kernel
theorem dX3_partsAtRoot_66 : decode cX3_partsAtRoot 66 = .ok (.istore_n 2, 1) := by decide +kernel
theorem dX3_partsAtRoot_67 : decode cX3_partsAtRoot 67 = .ok (.iinc 3 1, 3) := by decide +kernel
theorem dX3_partsAtRoot_70 : decode cX3_partsAtRoot 70 = .ok (.goto (-46), 3) := by decide +kernel
theorem dX3_partsAtRoot_73 : decode cX3_partsAtRoot 73 = .ok (.iload_n 1, 1) := by decide +kernel
theorem dX3_partsAtRoot_74 : decode cX3_partsAtRoot 74 = .ok (.ireturn, 1) := by decide +kernel
theorem dX3_explore_0 : decode cX3_explore 0 = .ok (.iload_n 1, 1) := by decide +kernel
theorem dX3_explore_1 : decode cX3_explore 1 = .ok (.ifCond .lt 15, 3) := by decide +kernel
theorem dX3_explore_4 : decode cX3_explore 4 = .ok (.iload_n 1, 1) := by decide +kernel
theorem dX3_explore_5 : decode cX3_explore 5 = .ok (.bipush 11, 2) := by decide +kernel
theorem dX3_explore_7 : decode cX3_explore 7 = .ok (.if_icmp .ge 9, 3) := by decide +kernel
theorem dX3_explore_10 : decode cX3_explore 10 = .ok (.iload_n 2, 1) := by decide +kernel
theorem dX3_explore_11 : decode cX3_explore 11 = .ok (.bipush 16, 2) := by decide +kernel
theorem dX3_explore_13 : decode cX3_explore 13 = .ok (.if_icmp .le 5, 3) := by decide +kernel
theorem dX3_explore_16 : decode cX3_explore 16 = .ok (.iconst 0, 1) := by decide +kernel
theorem dX3_explore_17 : decode cX3_explore 17 = .ok (.ireturn, 1) := by decide +kernel
theorem dX3_explore_18 : decode cX3_explore 18 = .ok (.iload_n 2, 1) := by decide +kernel
theorem dX3_explore_19 : decode cX3_explore 19 = .ok (.ifCond .gt 10, 3) := by decide +kernel
theorem dX3_explore_22 : decode cX3_explore 22 = .ok (.aload_n 0, 1) := by decide +kernel
theorem dX3_explore_23 : decode cX3_explore 23 = .ok (.iconst 1, 1) := by decide +kernel
theorem dX3_explore_24 : decode cX3_explore 24 = .ok (.putfield 46, 3) := by decide +kernel
theorem dX3_explore_27 : decode cX3_explore 27 = .ok (.iconst 0, 1) := by decide +kernel
theorem dX3_explore_28 : decode cX3_explore 28 = .ok (.ireturn, 1) := by decide +kernel
theorem dX3_explore_29 : decode cX3_explore 29 = .ok (.iload_n 1, 1) := by decide +kernel
theorem dX3_explore_30 : decode cX3_explore 30 = .ok (.bipush 16, 2) := by decide +kernel
theorem dX3_explore_32 : decode cX3_explore 32 = .ok (.imul, 1) := by decide +kernel
theorem dX3_explore_33 : decode cX3_explore 33 = .ok (.istore_n 3, 1) := by decide +kernel
theorem dX3_explore_34 : decode cX3_explore 34 = .ok (.aload_n 0, 1) := by decide +kernel
theorem dX3_explore_35 : decode cX3_explore 35 = .ok (.getfield 11, 3) := by decide +kernel
theorem dX3_explore_38 : decode cX3_explore 38 = .ok (.iload_n 3, 1) := by decide +kernel
theorem dX3_explore_39 : decode cX3_explore 39 = .ok (.iaload, 1) := by decide +kernel
theorem dX3_explore_40 : decode cX3_explore 40 = .ok (.ifCond .ne 10, 3) := by decide +kernel
theorem dX3_explore_43 : decode cX3_explore 43 = .ok (.aload_n 0, 1) := by decide +kernel
theorem dX3_explore_44 : decode cX3_explore 44 = .ok (.iconst 1, 1) := by decide +kernel
theorem dX3_explore_45 : decode cX3_explore 45 = .ok (.putfield 50, 3) := by decide +kernel
theorem dX3_explore_48 : decode cX3_explore 48 = .ok (.iconst 0, 1) := by decide +kernel
theorem dX3_explore_49 : decode cX3_explore 49 = .ok (.ireturn, 1) := by decide +kernel
theorem dX3_explore_50 : decode cX3_explore 50 = .ok (.aload_n 0, 1) := by decide +kernel
theorem dX3_explore_51 : decode cX3_explore 51 = .ok (.iload_n 3, 1) := by decide +kernel
theorem dX3_explore_52 : decode cX3_explore 52 = .ok (.iload_n 2, 1) := by decide +kernel
theorem dX3_explore_53 : decode cX3_explore 53 = .ok (.invokevirtual 93, 3) := by decide +kernel
theorem dX3_explore_56 : decode cX3_explore 56 = .ok (.istore 4, 2) := by decide +kernel
theorem dX3_explore_58 : decode cX3_explore 58 = .ok (.aload_n 0, 1) := by decide +kernel
theorem dX3_explore_59 : decode cX3_explore 59 = .ok (.iload 4, 2) := by decide +kernel
theorem dX3_explore_61 : decode cX3_explore 61 = .ok (.iload_n 3, 1) := by decide +kernel
theorem dX3_explore_62 : decode cX3_explore 62 = .ok (.iload_n 2, 1) := by decide +kernel
theorem dX3_explore_63 : decode cX3_explore 63 = .ok (.invokevirtual 96, 3) := by decide +kernel
theorem dX3_explore_66 : decode cX3_explore 66 = .ok (.istore 5, 2) := by decide +kernel
theorem dX3_explore_68 : decode cX3_explore 68 = .ok (.iload 5, 2) := by decide +kernel
theorem dX3_explore_70 : decode cX3_explore 70 = .ok (.iconst (-1), 1) := by decide +kernel
theorem dX3_explore_71 : decode cX3_explore 71 = .ok (.if_icmp .eq 11, 3) := by decide +kernel
theorem dX3_explore_74 : decode cX3_explore 74 = .ok (.aload_n 0, 1) := by decide +kernel
theorem dX3_explore_75 : decode cX3_explore 75 = .ok (.getfield 24, 3) := by decide +kernel
theorem dX3_explore_78 : decode cX3_explore 78 = .ok (.iload 5, 2) := by decide +kernel
theorem dX3_explore_80 : decode cX3_explore 80 = .ok (.iaload, 1) := by decide +kernel
theorem dX3_explore_81 : decode cX3_explore 81 = .ok (.ireturn, 1) := by decide +kernel
theorem dX3_explore_82 : decode cX3_explore 82 = .ok (.aload_n 0, 1) := by decide +kernel
theorem dX3_explore_83 : decode cX3_explore 83 = .ok (.aload_n 0, 1) := by decide +kernel
theorem dX3_explore_84 : decode cX3_explore 84 = .ok (.getfield 11, 3) := by decide +kernel
theorem dX3_explore_87 : decode cX3_explore 87 = .ok (.iload_n 3, 1) := by decide +kernel
theorem dX3_explore_88 : decode cX3_explore 88 = .ok (.iaload, 1) := by decide +kernel
theorem dX3_explore_89 : decode cX3_explore 89 = .ok (.iload_n 3, 1) := by decide +kernel
theorem dX3_explore_90 : decode cX3_explore 90 = .ok (.iload_n 2, 1) := by decide +kernel
theorem dX3_explore_91 : decode cX3_explore 91 = .ok (.invokevirtual 89, 3) := by decide +kernel
theorem dX3_explore_94 : decode cX3_explore 94 = .ok (.istore 6, 2) := by decide +kernel
theorem dX3_explore_96 : decode cX3_explore 96 = .ok (.iload 6, 2) := by decide +kernel
theorem dX3_explore_98 : decode cX3_explore 98 = .ok (.aload_n 0, 1) := by decide +kernel
theorem dX3_explore_99 : decode cX3_explore 99 = .ok (.iload_n 3, 1) := by decide +kernel
theorem dX3_explore_100 : decode cX3_explore 100 = .ok (.iload_n 2, 1) := by decide +kernel
theorem dX3_explore_101 : decode cX3_explore 101 = .ok (.invokevirtual 99, 3) := by decide +kernel
theorem dX3_explore_104 : decode cX3_explore 104 = .ok (.if_icmp .ne 7, 3) := by decide +kernel
theorem dX3_explore_107 : decode cX3_explore 107 = .ok (.iconst 1, 1) := by decide +kernel
theorem dX3_explore_108 : decode cX3_explore 108 = .ok (.goto 4, 3) := by decide +kernel
theorem dX3_explore_111 : decode cX3_explore 111 = .ok (.iconst 0, 1) := by decide +kernel
theorem dX3_explore_112 : decode cX3_explore 112 = .ok (.istore 7, 2) := by decide +kernel
theorem dX3_explore_114 : decode cX3_explore 114 = .ok (.iload 7, 2) := by decide +kernel
theorem dX3_explore_116 : decode cX3_explore 116 = .ok (.ifCond .eq 12, 3) := by decide +kernel
theorem dX3_explore_119 : decode cX3_explore 119 = .ok (.aload_n 0, 1) := by decide +kernel
theorem dX3_explore_120 : decode cX3_explore 120 = .ok (.iload_n 1, 1) := by decide +kernel
theorem dX3_explore_121 : decode cX3_explore 121 = .ok (.iload_n 2, 1) := by decide +kernel
theorem dX3_explore_122 : decode cX3_explore 122 = .ok (.invokevirtual 102, 3) := by decide +kernel
theorem dX3_explore_125 : decode cX3_explore 125 = .ok (.goto 9, 3) := by decide +kernel
theorem dX3_explore_128 : decode cX3_explore 128 = .ok (.aload_n 0, 1) := by decide +kernel
theorem dX3_explore_129 : decode cX3_explore 129 = .ok (.iload_n 1, 1) := by decide +kernel
theorem dX3_explore_130 : decode cX3_explore 130 = .ok (.iload_n 2, 1) := by decide +kernel
theorem dX3_explore_131 : decode cX3_explore 131 = .ok (.invokevirtual 105, 3) := by decide +kernel
theorem dX3_explore_134 : decode cX3_explore 134 = .ok (.istore 8, 2) := by decide +kernel
theorem dX3_explore_136 : decode cX3_explore 136 = .ok (.aload_n 0, 1) := by decide +kernel
theorem dX3_explore_137 : decode cX3_explore 137 = .ok (.iload 4, 2) := by decide +kernel
theorem dX3_explore_139 : decode cX3_explore 139 = .ok (.iload_n 3, 1) := by decide +kernel
theorem dX3_explore_140 : decode cX3_explore 140 = .ok (.iload_n 2, 1) := by decide +kernel
theorem dX3_explore_141 : decode cX3_explore 141 = .ok (.iload 8, 2) := by decide +kernel
theorem dX3_explore_143 : decode cX3_explore 143 = .ok (.iconst 1, 1) := by decide +kernel
theorem dX3_explore_144 : decode cX3_explore 144 = .ok (.iadd, 1) := by decide +kernel
theorem dX3_explore_145 : decode cX3_explore 145 = .ok (.invokevirtual 108, 3) := by decide +kernel
theorem dX3_explore_148 : decode cX3_explore 148 = .ok (.iload 8, 2) := by decide +kernel
theorem dX3_explore_150 : decode cX3_explore 150 = .ok (.iconst 1, 1) := by decide +kernel
theorem dX3_explore_151 : decode cX3_explore 151 = .ok (.iadd, 1) := by decide +kernel
theorem dX3_explore_152 : decode cX3_explore 152 = .ok (.ireturn, 1) := by decide +kernel
theorem dX3_exploreDecision_0 : decode cX3_exploreDecision 0 = .ok (.aload_n 0, 1) := by decide +kernel
theorem dX3_exploreDecision_1 : decode cX3_exploreDecision 1 = .ok (.dup, 1) := by decide +kernel
theorem dX3_exploreDecision_2 : decode cX3_exploreDecision 2 = .ok (.getfield 40, 3) := by decide +kernel
theorem dX3_exploreDecision_5 : decode cX3_exploreDecision 5 = .ok (.iconst 1, 1) := by decide +kernel
theorem dX3_exploreDecision_6 : decode cX3_exploreDecision 6 = .ok (.iadd, 1) := by decide +kernel
theorem dX3_exploreDecision_7 : decode cX3_exploreDecision 7 = .ok (.putfield 40, 3) := by decide +kernel
theorem dX3_exploreDecision_10 : decode cX3_exploreDecision 10 = .ok (.aload_n 0, 1) := by decide +kernel
theorem dX3_exploreDecision_11 : decode cX3_exploreDecision 11 = .ok (.iload_n 1, 1) := by decide +kernel
theorem dX3_exploreDecision_12 : decode cX3_exploreDecision 12 = .ok (.bipush 16, 2) := by decide +kernel
theorem dX3_exploreDecision_14 : decode cX3_exploreDecision 14 = .ok (.imul, 1) := by decide +kernel
theorem dX3_exploreDecision_15 : decode cX3_exploreDecision 15 = .ok (.iload_n 2, 1) := by decide +kernel
theorem dX3_exploreDecision_16 : decode cX3_exploreDecision 16 = .ok (.invokevirtual 83, 3) := by decide +kernel
theorem dX3_exploreDecision_19 : decode cX3_exploreDecision 19 = .ok (.invokestatic 112, 3) := by decide +kernel
theorem dX3_exploreDecision_22 : decode cX3_exploreDecision 22 = .ok (.istore_n 3, 1) := by decide +kernel
theorem dX3_exploreDecision_23 : decode cX3_exploreDecision 23 = .ok (.aload_n 0, 1) := by decide +kernel
theorem dX3_exploreDecision_24 : decode cX3_exploreDecision 24 = .ok (.iload_n 1, 1) := by decide +kernel
theorem dX3_exploreDecision_25 : decode cX3_exploreDecision 25 = .ok (.iconst 1, 1) := by decide +kernel
theorem dX3_exploreDecision_26 : decode cX3_exploreDecision 26 = .ok (.iadd, 1) := by decide +kernel
theorem dX3_exploreDecision_27 : decode cX3_exploreDecision 27 = .ok (.aload_n 0, 1) := by decide +kernel
theorem dX3_exploreDecision_28 : decode cX3_exploreDecision 28 = .ok (.iload_n 1, 1) := by decide +kernel
theorem dX3_exploreDecision_29 : decode cX3_exploreDecision 29 = .ok (.iload_n 2, 1) := by decide +kernel
theorem dX3_exploreDecision_30 : decode cX3_exploreDecision 30 = .ok (.iload_n 3, 1) := by decide +kernel
theorem dX3_exploreDecision_31 : decode cX3_exploreDecision 31 = .ok (.invokestatic 115, 3) := by decide +kernel
theorem dX3_exploreDecision_34 : decode cX3_exploreDecision 34 = .ok (.invokevirtual 118, 3) := by decide +kernel
theorem dX3_exploreDecision_37 : decode cX3_exploreDecision 37 = .ok (.invokevirtual 72, 3) := by decide +kernel
theorem dX3_exploreDecision_40 : decode cX3_exploreDecision 40 = .ok (.istore 4, 2) := by decide +kernel
theorem dX3_exploreDecision_42 : decode cX3_exploreDecision 42 = .ok (.aload_n 0, 1) := by decide +kernel
theorem dX3_exploreDecision_43 : decode cX3_exploreDecision 43 = .ok (.iload_n 1, 1) := by decide +kernel
theorem dX3_exploreDecision_44 : decode cX3_exploreDecision 44 = .ok (.iconst 1, 1) := by decide +kernel
theorem dX3_exploreDecision_45 : decode cX3_exploreDecision 45 = .ok (.iadd, 1) := by decide +kernel
theorem dX3_exploreDecision_46 : decode cX3_exploreDecision 46 = .ok (.aload_n 0, 1) := by decide +kernel
theorem dX3_exploreDecision_47 : decode cX3_exploreDecision 47 = .ok (.iload_n 1, 1) := by decide +kernel
theorem dX3_exploreDecision_48 : decode cX3_exploreDecision 48 = .ok (.iload_n 2, 1) := by decide +kernel
theorem dX3_exploreDecision_49 : decode cX3_exploreDecision 49 = .ok (.iload_n 3, 1) := by decide +kernel
theorem dX3_exploreDecision_50 : decode cX3_exploreDecision 50 = .ok (.invokevirtual 118, 3) := by decide +kernel
theorem dX3_exploreDecision_53 : decode cX3_exploreDecision 53 = .ok (.invokevirtual 72, 3) := by decide +kernel
theorem dX3_exploreDecision_56 : decode cX3_exploreDecision 56 = .ok (.istore 5, 2) := by decide +kernel
theorem dX3_exploreDecision_58 : decode cX3_exploreDecision 58 = .ok (.iload 4, 2) := by decide +kernel
theorem dX3_exploreDecision_60 : decode cX3_exploreDecision 60 = .ok (.iload 5, 2) := by decide +kernel
theorem dX3_exploreDecision_62 : decode cX3_exploreDecision 62 = .ok (.invokestatic 121, 3) := by decide +kernel
theorem dX3_exploreDecision_65 : decode cX3_exploreDecision 65 = .ok (.ireturn, 1) := by decide +kernel
theorem dX3_exploreParts_0 : decode cX3_exploreParts 0 = .ok (.aload_n 0, 1) := by decide +kernel
theorem dX3_exploreParts_1 : decode cX3_exploreParts 1 = .ok (.dup, 1) := by decide +kernel
theorem dX3_exploreParts_2 : decode cX3_exploreParts 2 = .ok (.getfield 43, 3) := by decide +kernel
theorem dX3_exploreParts_5 : decode cX3_exploreParts 5 = .ok (.iconst 1, 1) := by decide +kernel
theorem dX3_exploreParts_6 : decode cX3_exploreParts 6 = .ok (.iadd, 1) := by decide +kernel
theorem dX3_exploreParts_7 : decode cX3_exploreParts 7 = .ok (.putfield 43, 3) := by decide +kernel
theorem dX3_exploreParts_10 : decode cX3_exploreParts 10 = .ok (.iload_n 1, 1) := by decide +kernel
theorem dX3_exploreParts_11 : decode cX3_exploreParts 11 = .ok (.bipush 16, 2) := by decide +kernel
theorem dX3_exploreParts_13 : decode cX3_exploreParts 13 = .ok (.imul, 1) := by decide +kernel
theorem dX3_exploreParts_14 : decode cX3_exploreParts 14 = .ok (.istore_n 3, 1) := by decide +kernel
theorem dX3_exploreParts_15 : decode cX3_exploreParts 15 = .ok (.iconst 0, 1) := by decide +kernel
theorem dX3_exploreParts_16 : decode cX3_exploreParts 16 = .ok (.istore 4, 2) := by decide +kernel
theorem dX3_exploreParts_18 : decode cX3_exploreParts 18 = .ok (.iconst 0, 1) := by decide +kernel
theorem dX3_exploreParts_19 : decode cX3_exploreParts 19 = .ok (.istore 5, 2) := by decide +kernel
theorem dX3_exploreParts_21 : decode cX3_exploreParts 21 = .ok (.iload_n 3, 1) := by decide +kernel
theorem dX3_exploreParts_22 : decode cX3_exploreParts 22 = .ok (.istore 6, 2) := by decide +kernel
theorem dX3_exploreParts_24 : decode cX3_exploreParts 24 = .ok (.iload 6, 2) := by decide +kernel
theorem dX3_exploreParts_26 : decode cX3_exploreParts 26 = .ok (.iload_n 3, 1) := by decide +kernel
theorem dX3_exploreParts_27 : decode cX3_exploreParts 27 = .ok (.iload_n 2, 1) := by decide +kernel
theorem dX3_exploreParts_28 : decode cX3_exploreParts 28 = .ok (.iadd, 1) := by decide +kernel
theorem dX3_exploreParts_29 : decode cX3_exploreParts 29 = .ok (.if_icmp .ge 69, 3) := by decide +kernel
theorem dX3_exploreParts_32 : decode cX3_exploreParts 32 = .ok (.aload_n 0, 1) := by decide +kernel
theorem dX3_exploreParts_33 : decode cX3_exploreParts 33 = .ok (.getfield 11, 3) := by decide +kernel
theorem dX3_exploreParts_36 : decode cX3_exploreParts 36 = .ok (.iload 6, 2) := by decide +kernel
theorem dX3_exploreParts_38 : decode cX3_exploreParts 38 = .ok (.iaload, 1) := by decide +kernel
theorem dX3_exploreParts_39 : decode cX3_exploreParts 39 = .ok (.invokestatic 86, 3) := by decide +kernel
theorem dX3_exploreParts_42 : decode cX3_exploreParts 42 = .ok (.iload 5, 2) := by decide +kernel
theorem dX3_exploreParts_44 : decode cX3_exploreParts 44 = .ok (.iand, 1) := by decide +kernel
theorem dX3_exploreParts_45 : decode cX3_exploreParts 45 = .ok (.ifCond .ne 47, 3) := by decide +kernel
theorem dX3_exploreParts_48 : decode cX3_exploreParts 48 = .ok (.aload_n 0, 1) := by decide +kernel
theorem dX3_exploreParts_49 : decode cX3_exploreParts 49 = .ok (.aload_n 0, 1) := by decide +kernel
theorem dX3_exploreParts_50 : decode cX3_exploreParts 50 = .ok (.getfield 11, 3) := by decide +kernel
theorem dX3_exploreParts_53 : decode cX3_exploreParts 53 = .ok (.iload 6, 2) := by decide +kernel
theorem dX3_exploreParts_55 : decode cX3_exploreParts 55 = .ok (.iaload, 1) := by decide +kernel
theorem dX3_exploreParts_56 : decode cX3_exploreParts 56 = .ok (.iload_n 3, 1) := by decide +kernel
theorem dX3_exploreParts_57 : decode cX3_exploreParts 57 = .ok (.iload_n 2, 1) := by decide +kernel
theorem dX3_exploreParts_58 : decode cX3_exploreParts 58 = .ok (.invokevirtual 89, 3) := by decide +kernel
theorem dX3_exploreParts_61 : decode cX3_exploreParts 61 = .ok (.istore 7, 2) := by decide +kernel
theorem dX3_exploreParts_63 : decode cX3_exploreParts 63 = .ok (.iload 5, 2) := by decide +kernel
theorem dX3_exploreParts_65 : decode cX3_exploreParts 65 = .ok (.iload 7, 2) := by decide +kernel
theorem dX3_exploreParts_67 : decode cX3_exploreParts 67 = .ok (.ior, 1) := by decide +kernel
theorem dX3_exploreParts_68 : decode cX3_exploreParts 68 = .ok (.istore 5, 2) := by decide +kernel
theorem dX3_exploreParts_70 : decode cX3_exploreParts 70 = .ok (.iload 4, 2) := by decide +kernel
theorem dX3_exploreParts_72 : decode cX3_exploreParts 72 = .ok (.aload_n 0, 1) := by decide +kernel
theorem dX3_exploreParts_73 : decode cX3_exploreParts 73 = .ok (.iload_n 1, 1) := by decide +kernel
theorem dX3_exploreParts_74 : decode cX3_exploreParts 74 = .ok (.iconst 1, 1) := by decide +kernel
theorem dX3_exploreParts_75 : decode cX3_exploreParts 75 = .ok (.iadd, 1) := by decide +kernel
theorem dX3_exploreParts_76 : decode cX3_exploreParts 76 = .ok (.aload_n 0, 1) := by decide +kernel
theorem dX3_exploreParts_77 : decode cX3_exploreParts 77 = .ok (.iload_n 1, 1) := by decide +kernel
theorem dX3_exploreParts_78 : decode cX3_exploreParts 78 = .ok (.iload_n 2, 1) := by decide +kernel
theorem dX3_exploreParts_79 : decode cX3_exploreParts 79 = .ok (.iload 7, 2) := by decide +kernel
theorem dX3_exploreParts_81 : decode cX3_exploreParts 81 = .ok (.invokevirtual 126, 3) := by decide +kernel
theorem dX3_exploreParts_84 : decode cX3_exploreParts 84 = .ok (.invokevirtual 72, 3) := by decide +kernel
theorem dX3_exploreParts_87 : decode cX3_exploreParts 87 = .ok (.invokestatic 121, 3) := by decide +kernel
theorem dX3_exploreParts_90 : decode cX3_exploreParts 90 = .ok (.istore 4, 2) := by decide +kernel
theorem dX3_exploreParts_92 : decode cX3_exploreParts 92 = .ok (.iinc 6 1, 3) := by decide +kernel
theorem dX3_exploreParts_95 : decode cX3_exploreParts 95 = .ok (.goto (-71), 3) := by decide +kernel
theorem dX3_exploreParts_98 : decode cX3_exploreParts 98 = .ok (.iload 4, 2) := by decide +kernel
theorem dX3_exploreParts_100 : decode cX3_exploreParts 100 = .ok (.ireturn, 1) := by decide +kernel
theorem dX3_setLiteral_0 : decode cX3_setLiteral 0 = .ok (.iload_n 1, 1) := by decide +kernel
theorem dX3_setLiteral_1 : decode cX3_setLiteral 1 = .ok (.bipush 16, 2) := by decide +kernel
theorem dX3_setLiteral_3 : decode cX3_setLiteral 3 = .ok (.imul, 1) := by decide +kernel
theorem dX3_setLiteral_4 : decode cX3_setLiteral 4 = .ok (.istore 4, 2) := by decide +kernel
theorem dX3_setLiteral_6 : decode cX3_setLiteral 6 = .ok (.iconst 0, 1) := by decide +kernel
theorem dX3_setLiteral_7 : decode cX3_setLiteral 7 = .ok (.istore 5, 2) := by decide +kernel
theorem dX3_setLiteral_9 : decode cX3_setLiteral 9 = .ok (.iload 4, 2) := by decide +kernel
theorem dX3_setLiteral_11 : decode cX3_setLiteral 11 = .ok (.istore 6, 2) := by decide +kernel
theorem dX3_setLiteral_13 : decode cX3_setLiteral 13 = .ok (.iload 6, 2) := by decide +kernel
theorem dX3_setLiteral_15 : decode cX3_setLiteral 15 = .ok (.iload 4, 2) := by decide +kernel
theorem dX3_setLiteral_17 : decode cX3_setLiteral 17 = .ok (.iload_n 2, 1) := by decide +kernel
theorem dX3_setLiteral_18 : decode cX3_setLiteral 18 = .ok (.iadd, 1) := by decide +kernel
theorem dX3_setLiteral_19 : decode cX3_setLiteral 19 = .ok (.if_icmp .ge 28, 3) := by decide +kernel
theorem dX3_setLiteral_22 : decode cX3_setLiteral 22 = .ok (.aload_n 0, 1) := by decide +kernel
theorem dX3_setLiteral_23 : decode cX3_setLiteral 23 = .ok (.iload_n 1, 1) := by decide +kernel
theorem dX3_setLiteral_24 : decode cX3_setLiteral 24 = .ok (.iconst 1, 1) := by decide +kernel
theorem dX3_setLiteral_25 : decode cX3_setLiteral 25 = .ok (.iadd, 1) := by decide +kernel
theorem dX3_setLiteral_26 : decode cX3_setLiteral 26 = .ok (.iload 5, 2) := by decide +kernel
theorem dX3_setLiteral_28 : decode cX3_setLiteral 28 = .ok (.aload_n 0, 1) := by decide +kernel
theorem dX3_setLiteral_29 : decode cX3_setLiteral 29 = .ok (.getfield 11, 3) := by decide +kernel
theorem dX3_setLiteral_32 : decode cX3_setLiteral 32 = .ok (.iload 6, 2) := by decide +kernel
theorem dX3_setLiteral_34 : decode cX3_setLiteral 34 = .ok (.iaload, 1) := by decide +kernel
theorem dX3_setLiteral_35 : decode cX3_setLiteral 35 = .ok (.iload_n 3, 1) := by decide +kernel
theorem dX3_setLiteral_36 : decode cX3_setLiteral 36 = .ok (.invokevirtual 68, 3) := by decide +kernel
theorem dX3_setLiteral_39 : decode cX3_setLiteral 39 = .ok (.istore 5, 2) := by decide +kernel
theorem dX3_setLiteral_41 : decode cX3_setLiteral 41 = .ok (.iinc 6 1, 3) := by decide +kernel
theorem dX3_setLiteral_44 : decode cX3_setLiteral 44 = .ok (.goto (-31), 3) := by decide +kernel
theorem dX3_setLiteral_47 : decode cX3_setLiteral 47 = .ok (.iload 5, 2) := by decide +kernel
theorem dX3_setLiteral_49 : decode cX3_setLiteral 49 = .ok (.ireturn, 1) := by decide +kernel
theorem dX3_takePart_0 : decode cX3_takePart 0 = .ok (.iload_n 1, 1) := by decide +kernel
theorem dX3_takePart_1 : decode cX3_takePart 1 = .ok (.bipush 16, 2) := by decide +kernel
theorem dX3_takePart_3 : decode cX3_takePart 3 = .ok (.imul, 1) := by decide +kernel
theorem dX3_takePart_4 : decode cX3_takePart 4 = .ok (.istore 4, 2) := by decide +kernel
theorem dX3_takePart_6 : decode cX3_takePart 6 = .ok (.iconst 0, 1) := by decide +kernel
theorem dX3_takePart_7 : decode cX3_takePart 7 = .ok (.istore 5, 2) := by decide +kernel
theorem dX3_takePart_9 : decode cX3_takePart 9 = .ok (.iload 4, 2) := by decide +kernel
theorem dX3_takePart_11 : decode cX3_takePart 11 = .ok (.istore 6, 2) := by decide +kernel
theorem dX3_takePart_13 : decode cX3_takePart 13 = .ok (.iload 6, 2) := by decide +kernel
theorem dX3_takePart_15 : decode cX3_takePart 15 = .ok (.iload 4, 2) := by decide +kernel
theorem dX3_takePart_17 : decode cX3_takePart 17 = .ok (.iload_n 2, 1) := by decide +kernel
theorem dX3_takePart_18 : decode cX3_takePart 18 = .ok (.iadd, 1) := by decide +kernel
theorem dX3_takePart_19 : decode cX3_takePart 19 = .ok (.if_icmp .ge 42, 3) := by decide +kernel
theorem dX3_takePart_22 : decode cX3_takePart 22 = .ok (.aload_n 0, 1) := by decide +kernel
theorem dX3_takePart_23 : decode cX3_takePart 23 = .ok (.getfield 11, 3) := by decide +kernel
theorem dX3_takePart_26 : decode cX3_takePart 26 = .ok (.iload 6, 2) := by decide +kernel
theorem dX3_takePart_28 : decode cX3_takePart 28 = .ok (.iaload, 1) := by decide +kernel
theorem dX3_takePart_29 : decode cX3_takePart 29 = .ok (.invokestatic 86, 3) := by decide +kernel
theorem dX3_takePart_32 : decode cX3_takePart 32 = .ok (.iload_n 3, 1) := by decide +kernel
theorem dX3_takePart_33 : decode cX3_takePart 33 = .ok (.iand, 1) := by decide +kernel
theorem dX3_takePart_34 : decode cX3_takePart 34 = .ok (.ifCond .eq 21, 3) := by decide +kernel
theorem dX3_takePart_37 : decode cX3_takePart 37 = .ok (.aload_n 0, 1) := by decide +kernel
theorem dX3_takePart_38 : decode cX3_takePart 38 = .ok (.iload_n 1, 1) := by decide +kernel
theorem dX3_takePart_39 : decode cX3_takePart 39 = .ok (.iconst 1, 1) := by decide +kernel
theorem dX3_takePart_40 : decode cX3_takePart 40 = .ok (.iadd, 1) := by decide +kernel
theorem dX3_takePart_41 : decode cX3_takePart 41 = .ok (.iload 5, 2) := by decide +kernel
theorem dX3_takePart_43 : decode cX3_takePart 43 = .ok (.aload_n 0, 1) := by decide +kernel
theorem dX3_takePart_44 : decode cX3_takePart 44 = .ok (.getfield 11, 3) := by decide +kernel
theorem dX3_takePart_47 : decode cX3_takePart 47 = .ok (.iload 6, 2) := by decide +kernel
theorem dX3_takePart_49 : decode cX3_takePart 49 = .ok (.iaload, 1) := by decide +kernel
theorem dX3_takePart_50 : decode cX3_takePart 50 = .ok (.invokevirtual 129, 3) := by decide +kernel
theorem dX3_takePart_53 : decode cX3_takePart 53 = .ok (.istore 5, 2) := by decide +kernel
theorem dX3_takePart_55 : decode cX3_takePart 55 = .ok (.iinc 6 1, 3) := by decide +kernel
theorem dX3_takePart_58 : decode cX3_takePart 58 = .ok (.goto (-45), 3) := by decide +kernel
theorem dX3_takePart_61 : decode cX3_takePart 61 = .ok (.iload 5, 2) := by decide +kernel
theorem dX3_takePart_63 : decode cX3_takePart 63 = .ok (.ireturn, 1) := by decide +kernel
theorem dX3_addResidual_0 : decode cX3_addResidual 0 = .ok (.iload_n 3, 1) := by decide +kernel
theorem dX3_addResidual_1 : decode cX3_addResidual 1 = .ok (.iload 4, 2) := by decide +kernel
theorem dX3_addResidual_3 : decode cX3_addResidual 3 = .ok (.iand, 1) := by decide +kernel
theorem dX3_addResidual_4 : decode cX3_addResidual 4 = .ok (.ifCond .eq 5, 3) := by decide +kernel
theorem dX3_addResidual_7 : decode cX3_addResidual 7 = .ok (.iload_n 2, 1) := by decide +kernel
theorem dX3_addResidual_8 : decode cX3_addResidual 8 = .ok (.ireturn, 1) := by decide +kernel
theorem dX3_addResidual_9 : decode cX3_addResidual 9 = .ok (.aload_n 0, 1) := by decide +kernel
theorem dX3_addResidual_10 : decode cX3_addResidual 10 = .ok (.iload_n 1, 1) := by decide +kernel
theorem dX3_addResidual_11 : decode cX3_addResidual 11 = .ok (.iload_n 2, 1) := by decide +kernel
theorem dX3_addResidual_12 : decode cX3_addResidual 12 = .ok (.iload_n 3, 1) := by decide +kernel
theorem dX3_addResidual_13 : decode cX3_addResidual 13 = .ok (.iload 4, 2) := by decide +kernel
theorem dX3_addResidual_15 : decode cX3_addResidual 15 = .ok (.invokestatic 115, 3) := by decide +kernel
theorem dX3_addResidual_18 : decode cX3_addResidual 18 = .ok (.iconst (-1), 1) := by decide +kernel
theorem dX3_addResidual_19 : decode cX3_addResidual 19 = .ok (.ixor, 1) := by decide +kernel
theorem dX3_addResidual_20 : decode cX3_addResidual 20 = .ok (.iand, 1) := by decide +kernel
theorem dX3_addResidual_21 : decode cX3_addResidual 21 = .ok (.invokevirtual 129, 3) := by decide +kernel
theorem dX3_addResidual_24 : decode cX3_addResidual 24 = .ok (.ireturn, 1) := by decide +kernel
theorem dX3_insert_0 : decode cX3_insert 0 = .ok (.iload_n 1, 1) := by decide +kernel
theorem dX3_insert_1 : decode cX3_insert 1 = .ok (.ifCond .lt 19, 3) := by decide +kernel
theorem dX3_insert_4 : decode cX3_insert 4 = .ok (.iload_n 1, 1) := by decide +kernel
theorem dX3_insert_5 : decode cX3_insert 5 = .ok (.bipush 11, 2) := by decide +kernel
theorem dX3_insert_7 : decode cX3_insert 7 = .ok (.if_icmp .ge 13, 3) := by decide +kernel
theorem dX3_insert_10 : decode cX3_insert 10 = .ok (.iload_n 2, 1) := by decide +kernel
theorem dX3_insert_11 : decode cX3_insert 11 = .ok (.ifCond .lt 9, 3) := by decide +kernel
theorem dX3_insert_14 : decode cX3_insert 14 = .ok (.iload_n 2, 1) := by decide +kernel
theorem dX3_insert_15 : decode cX3_insert 15 = .ok (.bipush 16, 2) := by decide +kernel
theorem dX3_insert_17 : decode cX3_insert 17 = .ok (.if_icmp .lt 5, 3) := by decide +kernel
theorem dX3_insert_20 : decode cX3_insert 20 = .ok (.iload_n 2, 1) := by decide +kernel
theorem dX3_insert_21 : decode cX3_insert 21 = .ok (.ireturn, 1) := by decide +kernel
theorem dX3_insert_22 : decode cX3_insert 22 = .ok (.iload_n 1, 1) := by decide +kernel
theorem dX3_insert_23 : decode cX3_insert 23 = .ok (.bipush 16, 2) := by decide +kernel
theorem dX3_insert_25 : decode cX3_insert 25 = .ok (.imul, 1) := by decide +kernel
theorem dX3_insert_26 : decode cX3_insert 26 = .ok (.istore 4, 2) := by decide +kernel
theorem dX3_insert_28 : decode cX3_insert 28 = .ok (.iload 4, 2) := by decide +kernel
theorem dX3_insert_30 : decode cX3_insert 30 = .ok (.iload_n 2, 1) := by decide +kernel
theorem dX3_insert_31 : decode cX3_insert 31 = .ok (.iadd, 1) := by decide +kernel
theorem dX3_insert_32 : decode cX3_insert 32 = .ok (.istore 5, 2) := by decide +kernel
theorem dX3_insert_34 : decode cX3_insert 34 = .ok (.iload 5, 2) := by decide +kernel
theorem dX3_insert_36 : decode cX3_insert 36 = .ok (.iload 4, 2) := by decide +kernel
theorem dX3_insert_38 : decode cX3_insert 38 = .ok (.if_icmp .le 22, 3) := by decide +kernel
theorem dX3_insert_41 : decode cX3_insert 41 = .ok (.aload_n 0, 1) := by decide +kernel
theorem dX3_insert_42 : decode cX3_insert 42 = .ok (.getfield 11, 3) := by decide +kernel
theorem dX3_insert_45 : decode cX3_insert 45 = .ok (.iload 5, 2) := by decide +kernel
theorem dX3_insert_47 : decode cX3_insert 47 = .ok (.iconst 1, 1) := by decide +kernel
theorem dX3_insert_48 : decode cX3_insert 48 = .ok (.isub, 1) := by decide +kernel
theorem dX3_insert_49 : decode cX3_insert 49 = .ok (.iaload, 1) := by decide +kernel
theorem dX3_insert_50 : decode cX3_insert 50 = .ok (.iload_n 3, 1) := by decide +kernel
theorem dX3_insert_51 : decode cX3_insert 51 = .ok (.if_icmp .le 9, 3) := by decide +kernel
theorem dX3_insert_54 : decode cX3_insert 54 = .ok (.iinc 5 (-1), 3) := by decide +kernel
theorem dX3_insert_57 : decode cX3_insert 57 = .ok (.goto (-23), 3) := by decide +kernel
theorem dX3_insert_60 : decode cX3_insert 60 = .ok (.iload 5, 2) := by decide +kernel
theorem dX3_insert_62 : decode cX3_insert 62 = .ok (.iload 4, 2) := by decide +kernel
theorem dX3_insert_64 : decode cX3_insert 64 = .ok (.if_icmp .le 18, 3) := by decide +kernel
theorem dX3_insert_67 : decode cX3_insert 67 = .ok (.aload_n 0, 1) := by decide +kernel
theorem dX3_insert_68 : decode cX3_insert 68 = .ok (.getfield 11, 3) := by decide +kernel
theorem dX3_insert_71 : decode cX3_insert 71 = .ok (.iload 5, 2) := by decide +kernel
theorem dX3_insert_73 : decode cX3_insert 73 = .ok (.iconst 1, 1) := by decide +kernel
theorem dX3_insert_74 : decode cX3_insert 74 = .ok (.isub, 1) := by decide +kernel
theorem dX3_insert_75 : decode cX3_insert 75 = .ok (.iaload, 1) := by decide +kernel
theorem dX3_insert_76 : decode cX3_insert 76 = .ok (.iload_n 3, 1) := by decide +kernel
theorem dX3_insert_77 : decode cX3_insert 77 = .ok (.if_icmp .ne 5, 3) := by decide +kernel
theorem dX3_insert_80 : decode cX3_insert 80 = .ok (.iload_n 2, 1) := by decide +kernel
theorem dX3_insert_81 : decode cX3_insert 81 = .ok (.ireturn, 1) := by decide +kernel
theorem dX3_insert_82 : decode cX3_insert 82 = .ok (.iload 4, 2) := by decide +kernel
theorem dX3_insert_84 : decode cX3_insert 84 = .ok (.iload_n 2, 1) := by decide +kernel
theorem dX3_insert_85 : decode cX3_insert 85 = .ok (.iadd, 1) := by decide +kernel
theorem dX3_insert_86 : decode cX3_insert 86 = .ok (.istore 6, 2) := by decide +kernel
theorem dX3_insert_88 : decode cX3_insert 88 = .ok (.iload 6, 2) := by decide +kernel
theorem dX3_insert_90 : decode cX3_insert 90 = .ok (.iload 5, 2) := by decide +kernel
theorem dX3_insert_92 : decode cX3_insert 92 = .ok (.if_icmp .le 25, 3) := by decide +kernel
theorem dX3_insert_95 : decode cX3_insert 95 = .ok (.aload_n 0, 1) := by decide +kernel
theorem dX3_insert_96 : decode cX3_insert 96 = .ok (.getfield 11, 3) := by decide +kernel
theorem dX3_insert_99 : decode cX3_insert 99 = .ok (.iload 6, 2) := by decide +kernel
theorem dX3_insert_101 : decode cX3_insert 101 = .ok (.aload_n 0, 1) := by decide +kernel
theorem dX3_insert_102 : decode cX3_insert 102 = .ok (.getfield 11, 3) := by decide +kernel
theorem dX3_insert_105 : decode cX3_insert 105 = .ok (.iload 6, 2) := by decide +kernel
theorem dX3_insert_107 : decode cX3_insert 107 = .ok (.iconst 1, 1) := by decide +kernel
theorem dX3_insert_108 : decode cX3_insert 108 = .ok (.isub, 1) := by decide +kernel
theorem dX3_insert_109 : decode cX3_insert 109 = .ok (.iaload, 1) := by decide +kernel
theorem dX3_insert_110 : decode cX3_insert 110 = .ok (.iastore, 1) := by decide +kernel
theorem dX3_insert_111 : decode cX3_insert 111 = .ok (.iinc 6 (-1), 3) := by decide +kernel
theorem dX3_insert_114 : decode cX3_insert 114 = .ok (.goto (-26), 3) := by decide +kernel
theorem dX3_insert_117 : decode cX3_insert 117 = .ok (.aload_n 0, 1) := by decide +kernel
theorem dX3_insert_118 : decode cX3_insert 118 = .ok (.getfield 11, 3) := by decide +kernel
theorem dX3_insert_121 : decode cX3_insert 121 = .ok (.iload 5, 2) := by decide +kernel
theorem dX3_insert_123 : decode cX3_insert 123 = .ok (.iload_n 3, 1) := by decide +kernel
theorem dX3_insert_124 : decode cX3_insert 124 = .ok (.iastore, 1) := by decide +kernel
theorem dX3_insert_125 : decode cX3_insert 125 = .ok (.iload_n 2, 1) := by decide +kernel
theorem dX3_insert_126 : decode cX3_insert 126 = .ok (.iconst 1, 1) := by decide +kernel
theorem dX3_insert_127 : decode cX3_insert 127 = .ok (.iadd, 1) := by decide +kernel
theorem dX3_insert_128 : decode cX3_insert 128 = .ok (.ireturn, 1) := by decide +kernel
theorem dX3_variablesIn_0 : decode cX3_variablesIn 0 = .ok (.iconst 0, 1) := by decide +kernel
theorem dX3_variablesIn_1 : decode cX3_variablesIn 1 = .ok (.istore_n 3, 1) := by decide +kernel
theorem dX3_variablesIn_2 : decode cX3_variablesIn 2 = .ok (.iload_n 1, 1) := by decide +kernel
theorem dX3_variablesIn_3 : decode cX3_variablesIn 3 = .ok (.istore 4, 2) := by decide +kernel
theorem dX3_variablesIn_5 : decode cX3_variablesIn 5 = .ok (.iload 4, 2) := by decide +kernel
theorem dX3_variablesIn_7 : decode cX3_variablesIn 7 = .ok (.iload_n 1, 1) := by decide +kernel
theorem dX3_variablesIn_8 : decode cX3_variablesIn 8 = .ok (.iload_n 2, 1) := by decide +kernel
theorem dX3_variablesIn_9 : decode cX3_variablesIn 9 = .ok (.iadd, 1) := by decide +kernel
theorem dX3_variablesIn_10 : decode cX3_variablesIn 10 = .ok (.if_icmp .ge 19, 3) := by decide +kernel
theorem dX3_variablesIn_13 : decode cX3_variablesIn 13 = .ok (.iload_n 3, 1) := by decide +kernel
theorem dX3_variablesIn_14 : decode cX3_variablesIn 14 = .ok (.aload_n 0, 1) := by decide +kernel
theorem dX3_variablesIn_15 : decode cX3_variablesIn 15 = .ok (.getfield 11, 3) := by decide +kernel
theorem dX3_variablesIn_18 : decode cX3_variablesIn 18 = .ok (.iload 4, 2) := by decide +kernel
theorem dX3_variablesIn_20 : decode cX3_variablesIn 20 = .ok (.iaload, 1) := by decide +kernel
theorem dX3_variablesIn_21 : decode cX3_variablesIn 21 = .ok (.ior, 1) := by decide +kernel
theorem dX3_variablesIn_22 : decode cX3_variablesIn 22 = .ok (.istore_n 3, 1) := by decide +kernel
theorem dX3_variablesIn_23 : decode cX3_variablesIn 23 = .ok (.iinc 4 1, 3) := by decide +kernel
theorem dX3_variablesIn_26 : decode cX3_variablesIn 26 = .ok (.goto (-21), 3) := by decide +kernel
theorem dX3_variablesIn_29 : decode cX3_variablesIn 29 = .ok (.iload_n 3, 1) := by decide +kernel
theorem dX3_variablesIn_30 : decode cX3_variablesIn 30 = .ok (.invokestatic 86, 3) := by decide +kernel
theorem dX3_variablesIn_33 : decode cX3_variablesIn 33 = .ok (.ireturn, 1) := by decide +kernel
theorem dX3_variablesConnectedTo_0 : decode cX3_variablesConnectedTo 0 = .ok (.iload_n 1, 1) := by decide +kernel
theorem dX3_variablesConnectedTo_1 : decode cX3_variablesConnectedTo 1 = .ok (.invokestatic 86, 3) := by decide +kernel
theorem dX3_variablesConnectedTo_4 : decode cX3_variablesConnectedTo 4 = .ok (.istore 4, 2) := by decide +kernel
theorem dX3_variablesConnectedTo_6 : decode cX3_variablesConnectedTo 6 = .ok (.iconst 0, 1) := by decide +kernel
theorem dX3_variablesConnectedTo_7 : decode cX3_variablesConnectedTo 7 = .ok (.istore 5, 2) := by decide +kernel
theorem dX3_variablesConnectedTo_9 : decode cX3_variablesConnectedTo 9 = .ok (.iload 5, 2) := by decide +kernel
theorem dX3_variablesConnectedTo_11 : decode cX3_variablesConnectedTo 11 = .ok (.bipush 10, 2) := by decide +kernel
theorem dX3_variablesConnectedTo_13 : decode cX3_variablesConnectedTo 13 = .ok (.if_icmp .ge 67, 3) := by decide +kernel
theorem dX3_variablesConnectedTo_16 : decode cX3_variablesConnectedTo 16 = .ok (.iload 4, 2) := by decide +kernel
theorem dX3_variablesConnectedTo_18 : decode cX3_variablesConnectedTo 18 = .ok (.istore 6, 2) := by decide +kernel
theorem dX3_variablesConnectedTo_20 : decode cX3_variablesConnectedTo 20 = .ok (.iload_n 2, 1) := by decide +kernel
theorem dX3_variablesConnectedTo_21 : decode cX3_variablesConnectedTo 21 = .ok (.istore 7, 2) := by decide +kernel
theorem dX3_variablesConnectedTo_23 : decode cX3_variablesConnectedTo 23 = .ok (.iload 7, 2) := by decide +kernel
theorem dX3_variablesConnectedTo_25 : decode cX3_variablesConnectedTo 25 = .ok (.iload_n 2, 1) := by decide +kernel
theorem dX3_variablesConnectedTo_26 : decode cX3_variablesConnectedTo 26 = .ok (.iload_n 3, 1) := by decide +kernel
theorem dX3_variablesConnectedTo_27 : decode cX3_variablesConnectedTo 27 = .ok (.iadd, 1) := by decide +kernel
theorem dX3_variablesConnectedTo_28 : decode cX3_variablesConnectedTo 28 = .ok (.if_icmp .ge 36, 3) := by decide +kernel
theorem dX3_variablesConnectedTo_31 : decode cX3_variablesConnectedTo 31 = .ok (.aload_n 0, 1) := by decide +kernel
theorem dX3_variablesConnectedTo_32 : decode cX3_variablesConnectedTo 32 = .ok (.getfield 11, 3) := by decide +kernel
theorem dX3_variablesConnectedTo_35 : decode cX3_variablesConnectedTo 35 = .ok (.iload 7, 2) := by decide +kernel
theorem dX3_variablesConnectedTo_37 : decode cX3_variablesConnectedTo 37 = .ok (.iaload, 1) := by decide +kernel
theorem dX3_variablesConnectedTo_38 : decode cX3_variablesConnectedTo 38 = .ok (.invokestatic 86, 3) := by decide +kernel
theorem dX3_variablesConnectedTo_41 : decode cX3_variablesConnectedTo 41 = .ok (.istore 8, 2) := by decide +kernel
theorem dX3_variablesConnectedTo_43 : decode cX3_variablesConnectedTo 43 = .ok (.iload 8, 2) := by decide +kernel
theorem dX3_variablesConnectedTo_45 : decode cX3_variablesConnectedTo 45 = .ok (.iload 4, 2) := by decide +kernel
theorem dX3_variablesConnectedTo_47 : decode cX3_variablesConnectedTo 47 = .ok (.iand, 1) := by decide +kernel
theorem dX3_variablesConnectedTo_48 : decode cX3_variablesConnectedTo 48 = .ok (.ifCond .eq 10, 3) := by decide +kernel
theorem dX3_variablesConnectedTo_51 : decode cX3_variablesConnectedTo 51 = .ok (.iload 4, 2) := by decide +kernel
theorem dX3_variablesConnectedTo_53 : decode cX3_variablesConnectedTo 53 = .ok (.iload 8, 2) := by decide +kernel
theorem dX3_variablesConnectedTo_55 : decode cX3_variablesConnectedTo 55 = .ok (.ior, 1) := by decide +kernel
theorem dX3_variablesConnectedTo_56 : decode cX3_variablesConnectedTo 56 = .ok (.istore 4, 2) := by decide +kernel
theorem dX3_variablesConnectedTo_58 : decode cX3_variablesConnectedTo 58 = .ok (.iinc 7 1, 3) := by decide +kernel
theorem dX3_variablesConnectedTo_61 : decode cX3_variablesConnectedTo 61 = .ok (.goto (-38), 3) := by decide +kernel
theorem dX3_variablesConnectedTo_64 : decode cX3_variablesConnectedTo 64 = .ok (.iload 4, 2) := by decide +kernel
theorem dX3_variablesConnectedTo_66 : decode cX3_variablesConnectedTo 66 = .ok (.iload 6, 2) := by decide +kernel
theorem dX3_variablesConnectedTo_68 : decode cX3_variablesConnectedTo 68 = .ok (.if_icmp .ne 6, 3) := by decide +kernel
theorem dX3_variablesConnectedTo_71 : decode cX3_variablesConnectedTo 71 = .ok (.goto 9, 3) := by decide +kernel
theorem dX3_variablesConnectedTo_74 : decode cX3_variablesConnectedTo 74 = .ok (.iinc 5 1, 3) := by decide +kernel
theorem dX3_variablesConnectedTo_77 : decode cX3_variablesConnectedTo 77 = .ok (.goto (-68), 3) := by decide +kernel
theorem dX3_variablesConnectedTo_80 : decode cX3_variablesConnectedTo 80 = .ok (.iload 4, 2) := by decide +kernel
theorem dX3_variablesConnectedTo_82 : decode cX3_variablesConnectedTo 82 = .ok (.ireturn, 1) := by decide +kernel
theorem dX3_mostFrequentVariable_0 : decode cX3_mostFrequentVariable 0 = .ok (.iconst 1, 1) := by decide +kernel
theorem dX3_mostFrequentVariable_1 : decode cX3_mostFrequentVariable 1 = .ok (.istore_n 3, 1) := by decide +kernel
theorem dX3_mostFrequentVariable_2 : decode cX3_mostFrequentVariable 2 = .ok (.iconst 0, 1) := by decide +kernel
theorem dX3_mostFrequentVariable_3 : decode cX3_mostFrequentVariable 3 = .ok (.istore 4, 2) := by decide +kernel
theorem dX3_mostFrequentVariable_5 : decode cX3_mostFrequentVariable 5 = .ok (.iconst 1, 1) := by decide +kernel
theorem dX3_mostFrequentVariable_6 : decode cX3_mostFrequentVariable 6 = .ok (.istore 5, 2) := by decide +kernel
theorem dX3_mostFrequentVariable_8 : decode cX3_mostFrequentVariable 8 = .ok (.iload 5, 2) := by decide +kernel
theorem dX3_mostFrequentVariable_10 : decode cX3_mostFrequentVariable 10 = .ok (.bipush 10, 2) := by decide +kernel
theorem dX3_mostFrequentVariable_12 : decode cX3_mostFrequentVariable 12 = .ok (.if_icmp .gt 73, 3) := by decide +kernel
theorem dX3_mostFrequentVariable_15 : decode cX3_mostFrequentVariable 15 = .ok (.iload 5, 2) := by decide +kernel
theorem dX3_mostFrequentVariable_17 : decode cX3_mostFrequentVariable 17 = .ok (.invokestatic 112, 3) := by decide +kernel
theorem dX3_mostFrequentVariable_20 : decode cX3_mostFrequentVariable 20 = .ok (.iload 5, 2) := by decide +kernel
theorem dX3_mostFrequentVariable_22 : decode cX3_mostFrequentVariable 22 = .ok (.ineg, 1) := by decide +kernel
theorem dX3_mostFrequentVariable_23 : decode cX3_mostFrequentVariable 23 = .ok (.invokestatic 112, 3) := by decide +kernel
theorem dX3_mostFrequentVariable_26 : decode cX3_mostFrequentVariable 26 = .ok (.ior, 1) := by decide +kernel
theorem dX3_mostFrequentVariable_27 : decode cX3_mostFrequentVariable 27 = .ok (.istore 6, 2) := by decide +kernel
theorem dX3_mostFrequentVariable_29 : decode cX3_mostFrequentVariable 29 = .ok (.iconst 0, 1) := by decide +kernel
theorem dX3_mostFrequentVariable_30 : decode cX3_mostFrequentVariable 30 = .ok (.istore 7, 2) := by decide +kernel
theorem dX3_mostFrequentVariable_32 : decode cX3_mostFrequentVariable 32 = .ok (.iload_n 1, 1) := by decide +kernel
theorem dX3_mostFrequentVariable_33 : decode cX3_mostFrequentVariable 33 = .ok (.istore 8, 2) := by decide +kernel
theorem dX3_mostFrequentVariable_35 : decode cX3_mostFrequentVariable 35 = .ok (.iload 8, 2) := by decide +kernel
theorem dX3_mostFrequentVariable_37 : decode cX3_mostFrequentVariable 37 = .ok (.iload_n 1, 1) := by decide +kernel
theorem dX3_mostFrequentVariable_38 : decode cX3_mostFrequentVariable 38 = .ok (.iload_n 2, 1) := by decide +kernel
theorem dX3_mostFrequentVariable_39 : decode cX3_mostFrequentVariable 39 = .ok (.iadd, 1) := by decide +kernel
theorem dX3_mostFrequentVariable_40 : decode cX3_mostFrequentVariable 40 = .ok (.if_icmp .ge 25, 3) := by decide +kernel
theorem dX3_mostFrequentVariable_43 : decode cX3_mostFrequentVariable 43 = .ok (.aload_n 0, 1) := by decide +kernel
theorem dX3_mostFrequentVariable_44 : decode cX3_mostFrequentVariable 44 = .ok (.getfield 11, 3) := by decide +kernel
theorem dX3_mostFrequentVariable_47 : decode cX3_mostFrequentVariable 47 = .ok (.iload 8, 2) := by decide +kernel
theorem dX3_mostFrequentVariable_49 : decode cX3_mostFrequentVariable 49 = .ok (.iaload, 1) := by decide +kernel
theorem dX3_mostFrequentVariable_50 : decode cX3_mostFrequentVariable 50 = .ok (.iload 6, 2) := by decide +kernel
theorem dX3_mostFrequentVariable_52 : decode cX3_mostFrequentVariable 52 = .ok (.iand, 1) := by decide +kernel
theorem dX3_mostFrequentVariable_53 : decode cX3_mostFrequentVariable 53 = .ok (.ifCond .eq 6, 3) := by decide +kernel
theorem dX3_mostFrequentVariable_56 : decode cX3_mostFrequentVariable 56 = .ok (.iinc 7 1, 3) := by decide +kernel
theorem dX3_mostFrequentVariable_59 : decode cX3_mostFrequentVariable 59 = .ok (.iinc 8 1, 3) := by decide +kernel
theorem dX3_mostFrequentVariable_62 : decode cX3_mostFrequentVariable 62 = .ok (.goto (-27), 3) := by decide +kernel
theorem dX3_mostFrequentVariable_65 : decode cX3_mostFrequentVariable 65 = .ok (.iload 7, 2) := by decide +kernel
theorem dX3_mostFrequentVariable_67 : decode cX3_mostFrequentVariable 67 = .ok (.iload 4, 2) := by decide +kernel
theorem dX3_mostFrequentVariable_69 : decode cX3_mostFrequentVariable 69 = .ok (.if_icmp .le 10, 3) := by decide +kernel
theorem dX3_mostFrequentVariable_72 : decode cX3_mostFrequentVariable 72 = .ok (.iload 5, 2) := by decide +kernel
theorem dX3_mostFrequentVariable_74 : decode cX3_mostFrequentVariable 74 = .ok (.istore_n 3, 1) := by decide +kernel
theorem dX3_mostFrequentVariable_75 : decode cX3_mostFrequentVariable 75 = .ok (.iload 7, 2) := by decide +kernel
theorem dX3_mostFrequentVariable_77 : decode cX3_mostFrequentVariable 77 = .ok (.istore 4, 2) := by decide +kernel
theorem dX3_mostFrequentVariable_79 : decode cX3_mostFrequentVariable 79 = .ok (.iinc 5 1, 3) := by decide +kernel
theorem dX3_mostFrequentVariable_82 : decode cX3_mostFrequentVariable 82 = .ok (.goto (-74), 3) := by decide +kernel
theorem dX3_mostFrequentVariable_85 : decode cX3_mostFrequentVariable 85 = .ok (.iload_n 3, 1) := by decide +kernel
theorem dX3_mostFrequentVariable_86 : decode cX3_mostFrequentVariable 86 = .ok (.ireturn, 1) := by decide +kernel
theorem dX3_bucketOf_0 : decode cX3_bucketOf 0 = .ok (.iload_n 2, 1) := by decide +kernel
theorem dX3_bucketOf_1 : decode cX3_bucketOf 1 = .ok (.istore_n 3, 1) := by decide +kernel
theorem dX3_bucketOf_2 : decode cX3_bucketOf 2 = .ok (.iload_n 1, 1) := by decide +kernel
theorem dX3_bucketOf_3 : decode cX3_bucketOf 3 = .ok (.istore 4, 2) := by decide +kernel
theorem dX3_bucketOf_5 : decode cX3_bucketOf 5 = .ok (.iload 4, 2) := by decide +kernel
theorem dX3_bucketOf_7 : decode cX3_bucketOf 7 = .ok (.iload_n 1, 1) := by decide +kernel
theorem dX3_bucketOf_8 : decode cX3_bucketOf 8 = .ok (.iload_n 2, 1) := by decide +kernel
theorem dX3_bucketOf_9 : decode cX3_bucketOf 9 = .ok (.iadd, 1) := by decide +kernel
theorem dX3_bucketOf_10 : decode cX3_bucketOf 10 = .ok (.if_icmp .ge 22, 3) := by decide +kernel
theorem dX3_bucketOf_13 : decode cX3_bucketOf 13 = .ok (.bipush 31, 2) := by decide +kernel
theorem dX3_bucketOf_15 : decode cX3_bucketOf 15 = .ok (.iload_n 3, 1) := by decide +kernel
theorem dX3_bucketOf_16 : decode cX3_bucketOf 16 = .ok (.imul, 1) := by decide +kernel
theorem dX3_bucketOf_17 : decode cX3_bucketOf 17 = .ok (.aload_n 0, 1) := by decide +kernel
theorem dX3_bucketOf_18 : decode cX3_bucketOf 18 = .ok (.getfield 11, 3) := by decide +kernel
theorem dX3_bucketOf_21 : decode cX3_bucketOf 21 = .ok (.iload 4, 2) := by decide +kernel
theorem dX3_bucketOf_23 : decode cX3_bucketOf 23 = .ok (.iaload, 1) := by decide +kernel
theorem dX3_bucketOf_24 : decode cX3_bucketOf 24 = .ok (.iadd, 1) := by decide +kernel
theorem dX3_bucketOf_25 : decode cX3_bucketOf 25 = .ok (.istore_n 3, 1) := by decide +kernel
theorem dX3_bucketOf_26 : decode cX3_bucketOf 26 = .ok (.iinc 4 1, 3) := by decide +kernel
theorem dX3_bucketOf_29 : decode cX3_bucketOf 29 = .ok (.goto (-24), 3) := by decide +kernel
theorem dX3_bucketOf_32 : decode cX3_bucketOf 32 = .ok (.iload_n 3, 1) := by decide +kernel
theorem dX3_bucketOf_33 : decode cX3_bucketOf 33 = .ok (.iload_n 3, 1) := by decide +kernel
theorem dX3_bucketOf_34 : decode cX3_bucketOf 34 = .ok (.bipush 7, 2) := by decide +kernel
theorem dX3_bucketOf_36 : decode cX3_bucketOf 36 = .ok (.iushr, 1) := by decide +kernel
theorem dX3_bucketOf_37 : decode cX3_bucketOf 37 = .ok (.ixor, 1) := by decide +kernel
theorem dX3_bucketOf_38 : decode cX3_bucketOf 38 = .ok (.iload_n 3, 1) := by decide +kernel
theorem dX3_bucketOf_39 : decode cX3_bucketOf 39 = .ok (.bipush 15, 2) := by decide +kernel
theorem dX3_bucketOf_41 : decode cX3_bucketOf 41 = .ok (.iushr, 1) := by decide +kernel
theorem dX3_bucketOf_42 : decode cX3_bucketOf 42 = .ok (.ixor, 1) := by decide +kernel
theorem dX3_bucketOf_43 : decode cX3_bucketOf 43 = .ok (.bipush 63, 2) := by decide +kernel
theorem dX3_bucketOf_45 : decode cX3_bucketOf 45 = .ok (.iand, 1) := by decide +kernel
theorem dX3_bucketOf_46 : decode cX3_bucketOf 46 = .ok (.ireturn, 1) := by decide +kernel
theorem dX3_findNode_0 : decode cX3_findNode 0 = .ok (.aload_n 0, 1) := by decide +kernel
theorem dX3_findNode_1 : decode cX3_findNode 1 = .ok (.getfield 15, 3) := by decide +kernel
theorem dX3_findNode_4 : decode cX3_findNode 4 = .ok (.iload_n 1, 1) := by decide +kernel
theorem dX3_findNode_5 : decode cX3_findNode 5 = .ok (.iaload, 1) := by decide +kernel
theorem dX3_findNode_6 : decode cX3_findNode 6 = .ok (.istore 4, 2) := by decide +kernel
theorem dX3_findNode_8 : decode cX3_findNode 8 = .ok (.iconst 0, 1) := by decide +kernel
theorem dX3_findNode_9 : decode cX3_findNode 9 = .ok (.istore 5, 2) := by decide +kernel
theorem dX3_findNode_11 : decode cX3_findNode 11 = .ok (.iload 5, 2) := by decide +kernel
theorem dX3_findNode_13 : decode cX3_findNode 13 = .ok (.aload_n 0, 1) := by decide +kernel
theorem dX3_findNode_14 : decode cX3_findNode 14 = .ok (.getfield 36, 3) := by decide +kernel
theorem dX3_findNode_17 : decode cX3_findNode 17 = .ok (.if_icmp .ge 46, 3) := by decide +kernel
theorem dX3_findNode_20 : decode cX3_findNode 20 = .ok (.iload 4, 2) := by decide +kernel
theorem dX3_findNode_22 : decode cX3_findNode 22 = .ok (.ifCond .lt 41, 3) := by decide +kernel
theorem dX3_findNode_25 : decode cX3_findNode 25 = .ok (.iload 4, 2) := by decide +kernel
theorem dX3_findNode_27 : decode cX3_findNode 27 = .ok (.aload_n 0, 1) := by decide +kernel
theorem dX3_findNode_28 : decode cX3_findNode 28 = .ok (.getfield 36, 3) := by decide +kernel
theorem dX3_findNode_31 : decode cX3_findNode 31 = .ok (.if_icmp .ge 32, 3) := by decide +kernel
theorem dX3_findNode_34 : decode cX3_findNode 34 = .ok (.aload_n 0, 1) := by decide +kernel
theorem dX3_findNode_35 : decode cX3_findNode 35 = .ok (.iload 4, 2) := by decide +kernel
theorem dX3_findNode_37 : decode cX3_findNode 37 = .ok (.iload_n 2, 1) := by decide +kernel
theorem dX3_findNode_38 : decode cX3_findNode 38 = .ok (.iload_n 3, 1) := by decide +kernel
theorem dX3_findNode_39 : decode cX3_findNode 39 = .ok (.invokevirtual 132, 3) := by decide +kernel
theorem dX3_findNode_42 : decode cX3_findNode 42 = .ok (.ifCond .eq 6, 3) := by decide +kernel
theorem dX3_findNode_45 : decode cX3_findNode 45 = .ok (.iload 4, 2) := by decide +kernel
theorem dX3_findNode_47 : decode cX3_findNode 47 = .ok (.ireturn, 1) := by decide +kernel
theorem dX3_findNode_48 : decode cX3_findNode 48 = .ok (.aload_n 0, 1) := by decide +kernel
theorem dX3_findNode_49 : decode cX3_findNode 49 = .ok (.getfield 27, 3) := by decide +kernel
theorem dX3_findNode_52 : decode cX3_findNode 52 = .ok (.iload 4, 2) := by decide +kernel
theorem dX3_findNode_54 : decode cX3_findNode 54 = .ok (.iaload, 1) := by decide +kernel
theorem dX3_findNode_55 : decode cX3_findNode 55 = .ok (.istore 4, 2) := by decide +kernel
theorem dX3_findNode_57 : decode cX3_findNode 57 = .ok (.iinc 5 1, 3) := by decide +kernel
theorem dX3_findNode_60 : decode cX3_findNode 60 = .ok (.goto (-49), 3) := by decide +kernel
theorem dX3_findNode_63 : decode cX3_findNode 63 = .ok (.iconst (-1), 1) := by decide +kernel
theorem dX3_findNode_64 : decode cX3_findNode 64 = .ok (.ireturn, 1) := by decide +kernel
theorem dX3_hasRow_0 : decode cX3_hasRow 0 = .ok (.aload_n 0, 1) := by decide +kernel
theorem dX3_hasRow_1 : decode cX3_hasRow 1 = .ok (.getfield 21, 3) := by decide +kernel
theorem dX3_hasRow_4 : decode cX3_hasRow 4 = .ok (.iload_n 1, 1) := by decide +kernel
theorem dX3_hasRow_5 : decode cX3_hasRow 5 = .ok (.iaload, 1) := by decide +kernel
theorem dX3_hasRow_6 : decode cX3_hasRow 6 = .ok (.iload_n 3, 1) := by decide +kernel
theorem dX3_hasRow_7 : decode cX3_hasRow 7 = .ok (.if_icmp .eq 5, 3) := by decide +kernel
theorem dX3_hasRow_10 : decode cX3_hasRow 10 = .ok (.iconst 0, 1) := by decide +kernel
theorem dX3_hasRow_11 : decode cX3_hasRow 11 = .ok (.ireturn, 1) := by decide +kernel
theorem dX3_hasRow_12 : decode cX3_hasRow 12 = .ok (.iconst 0, 1) := by decide +kernel
theorem dX3_hasRow_13 : decode cX3_hasRow 13 = .ok (.istore 4, 2) := by decide +kernel
theorem dX3_hasRow_15 : decode cX3_hasRow 15 = .ok (.iload 4, 2) := by decide +kernel
theorem dX3_hasRow_17 : decode cX3_hasRow 17 = .ok (.iload_n 3, 1) := by decide +kernel
theorem dX3_hasRow_18 : decode cX3_hasRow 18 = .ok (.if_icmp .ge 35, 3) := by decide +kernel
theorem dX3_hasRow_21 : decode cX3_hasRow 21 = .ok (.aload_n 0, 1) := by decide +kernel
theorem dX3_hasRow_22 : decode cX3_hasRow 22 = .ok (.getfield 18, 3) := by decide +kernel
theorem dX3_hasRow_25 : decode cX3_hasRow 25 = .ok (.iload_n 1, 1) := by decide +kernel
theorem dX3_hasRow_26 : decode cX3_hasRow 26 = .ok (.bipush 16, 2) := by decide +kernel
theorem dX3_hasRow_28 : decode cX3_hasRow 28 = .ok (.imul, 1) := by decide +kernel
theorem dX3_hasRow_29 : decode cX3_hasRow 29 = .ok (.iload 4, 2) := by decide +kernel
theorem dX3_hasRow_31 : decode cX3_hasRow 31 = .ok (.iadd, 1) := by decide +kernel
theorem dX3_hasRow_32 : decode cX3_hasRow 32 = .ok (.iaload, 1) := by decide +kernel
theorem dX3_hasRow_33 : decode cX3_hasRow 33 = .ok (.aload_n 0, 1) := by decide +kernel
theorem dX3_hasRow_34 : decode cX3_hasRow 34 = .ok (.getfield 11, 3) := by decide +kernel
theorem dX3_hasRow_37 : decode cX3_hasRow 37 = .ok (.iload_n 2, 1) := by decide +kernel
theorem dX3_hasRow_38 : decode cX3_hasRow 38 = .ok (.iload 4, 2) := by decide +kernel
theorem dX3_hasRow_40 : decode cX3_hasRow 40 = .ok (.iadd, 1) := by decide +kernel
theorem dX3_hasRow_41 : decode cX3_hasRow 41 = .ok (.iaload, 1) := by decide +kernel
theorem dX3_hasRow_42 : decode cX3_hasRow 42 = .ok (.if_icmp .eq 5, 3) := by decide +kernel
theorem dX3_hasRow_45 : decode cX3_hasRow 45 = .ok (.iconst 0, 1) := by decide +kernel
theorem dX3_hasRow_46 : decode cX3_hasRow 46 = .ok (.ireturn, 1) := by decide +kernel
theorem dX3_hasRow_47 : decode cX3_hasRow 47 = .ok (.iinc 4 1, 3) := by decide +kernel
theorem dX3_hasRow_50 : decode cX3_hasRow 50 = .ok (.goto (-35), 3) := by decide +kernel
theorem dX3_hasRow_53 : decode cX3_hasRow 53 = .ok (.iconst 1, 1) := by decide +kernel
theorem dX3_hasRow_54 : decode cX3_hasRow 54 = .ok (.ireturn, 1) := by decide +kernel
theorem dX3_addNode_0 : decode cX3_addNode 0 = .ok (.aload_n 0, 1) := by decide +kernel
theorem dX3_addNode_1 : decode cX3_addNode 1 = .ok (.getfield 36, 3) := by decide +kernel
theorem dX3_addNode_4 : decode cX3_addNode 4 = .ok (.aload_n 0, 1) := by decide +kernel
theorem dX3_addNode_5 : decode cX3_addNode 5 = .ok (.getfield 21, 3) := by decide +kernel
theorem dX3_addNode_8 : decode cX3_addNode 8 = .ok (.arraylength, 1) := by decide +kernel
theorem dX3_addNode_9 : decode cX3_addNode 9 = .ok (.if_icmp .lt 7, 3) := by decide +kernel
theorem dX3_addNode_12 : decode cX3_addNode 12 = .ok (.aload_n 0, 1) := by decide +kernel
theorem dX3_addNode_13 : decode cX3_addNode 13 = .ok (.invokevirtual 136, 3) := by decide +kernel
theorem dX3_addNode_16 : decode cX3_addNode 16 = .ok (.aload_n 0, 1) := by decide +kernel
theorem dX3_addNode_17 : decode cX3_addNode 17 = .ok (.getfield 36, 3) := by decide +kernel
theorem dX3_addNode_20 : decode cX3_addNode 20 = .ok (.aload_n 0, 1) := by decide +kernel
theorem dX3_addNode_21 : decode cX3_addNode 21 = .ok (.getfield 21, 3) := by decide +kernel
theorem dX3_addNode_24 : decode cX3_addNode 24 = .ok (.arraylength, 1) := by decide +kernel
theorem dX3_addNode_25 : decode cX3_addNode 25 = .ok (.if_icmp .lt 4, 3) := by decide +kernel
theorem dX3_addNode_28 : decode cX3_addNode 28 = .ok (.return_, 1) := by decide +kernel
theorem dX3_addNode_29 : decode cX3_addNode 29 = .ok (.aload_n 0, 1) := by decide +kernel
theorem dX3_addNode_30 : decode cX3_addNode 30 = .ok (.getfield 11, 3) := by decide +kernel
theorem dX3_addNode_33 : decode cX3_addNode 33 = .ok (.iload_n 2, 1) := by decide +kernel
theorem dX3_addNode_34 : decode cX3_addNode 34 = .ok (.aload_n 0, 1) := by decide +kernel
theorem dX3_addNode_35 : decode cX3_addNode 35 = .ok (.getfield 18, 3) := by decide +kernel
theorem dX3_addNode_38 : decode cX3_addNode 38 = .ok (.aload_n 0, 1) := by decide +kernel
theorem dX3_addNode_39 : decode cX3_addNode 39 = .ok (.getfield 36, 3) := by decide +kernel
theorem dX3_addNode_42 : decode cX3_addNode 42 = .ok (.bipush 16, 2) := by decide +kernel
theorem dX3_addNode_44 : decode cX3_addNode 44 = .ok (.imul, 1) := by decide +kernel
theorem dX3_addNode_45 : decode cX3_addNode 45 = .ok (.iload_n 3, 1) := by decide +kernel
theorem dX3_addNode_46 : decode cX3_addNode 46 = .ok (.invokestatic 139, 3) := by decide +kernel
theorem dX3_addNode_49 : decode cX3_addNode 49 = .ok (.aload_n 0, 1) := by decide +kernel
theorem dX3_addNode_50 : decode cX3_addNode 50 = .ok (.getfield 21, 3) := by decide +kernel
theorem dX3_addNode_53 : decode cX3_addNode 53 = .ok (.aload_n 0, 1) := by decide +kernel
theorem dX3_addNode_54 : decode cX3_addNode 54 = .ok (.getfield 36, 3) := by decide +kernel
theorem dX3_addNode_57 : decode cX3_addNode 57 = .ok (.iload_n 3, 1) := by decide +kernel
theorem dX3_addNode_58 : decode cX3_addNode 58 = .ok (.iastore, 1) := by decide +kernel
theorem dX3_addNode_59 : decode cX3_addNode 59 = .ok (.aload_n 0, 1) := by decide +kernel
theorem dX3_addNode_60 : decode cX3_addNode 60 = .ok (.getfield 24, 3) := by decide +kernel
theorem dX3_addNode_63 : decode cX3_addNode 63 = .ok (.aload_n 0, 1) := by decide +kernel
theorem dX3_addNode_64 : decode cX3_addNode 64 = .ok (.getfield 36, 3) := by decide +kernel
theorem dX3_addNode_67 : decode cX3_addNode 67 = .ok (.iload 4, 2) := by decide +kernel
theorem dX3_addNode_69 : decode cX3_addNode 69 = .ok (.iastore, 1) := by decide +kernel
theorem dX3_addNode_70 : decode cX3_addNode 70 = .ok (.aload_n 0, 1) := by decide +kernel
theorem dX3_addNode_71 : decode cX3_addNode 71 = .ok (.getfield 27, 3) := by decide +kernel
theorem dX3_addNode_74 : decode cX3_addNode 74 = .ok (.aload_n 0, 1) := by decide +kernel
theorem dX3_addNode_75 : decode cX3_addNode 75 = .ok (.getfield 36, 3) := by decide +kernel
theorem dX3_addNode_78 : decode cX3_addNode 78 = .ok (.aload_n 0, 1) := by decide +kernel
theorem dX3_addNode_79 : decode cX3_addNode 79 = .ok (.getfield 15, 3) := by decide +kernel
theorem dX3_addNode_82 : decode cX3_addNode 82 = .ok (.iload_n 1, 1) := by decide +kernel
theorem dX3_addNode_83 : decode cX3_addNode 83 = .ok (.iaload, 1) := by decide +kernel
theorem dX3_addNode_84 : decode cX3_addNode 84 = .ok (.iastore, 1) := by decide +kernel
theorem dX3_addNode_85 : decode cX3_addNode 85 = .ok (.aload_n 0, 1) := by decide +kernel
theorem dX3_addNode_86 : decode cX3_addNode 86 = .ok (.getfield 15, 3) := by decide +kernel
theorem dX3_addNode_89 : decode cX3_addNode 89 = .ok (.iload_n 1, 1) := by decide +kernel
theorem dX3_addNode_90 : decode cX3_addNode 90 = .ok (.aload_n 0, 1) := by decide +kernel
theorem dX3_addNode_91 : decode cX3_addNode 91 = .ok (.getfield 36, 3) := by decide +kernel
theorem dX3_addNode_94 : decode cX3_addNode 94 = .ok (.iastore, 1) := by decide +kernel
theorem dX3_addNode_95 : decode cX3_addNode 95 = .ok (.aload_n 0, 1) := by decide +kernel
theorem dX3_addNode_96 : decode cX3_addNode 96 = .ok (.dup, 1) := by decide +kernel
theorem dX3_addNode_97 : decode cX3_addNode 97 = .ok (.getfield 36, 3) := by decide +kernel
theorem dX3_addNode_100 : decode cX3_addNode 100 = .ok (.iconst 1, 1) := by decide +kernel
theorem dX3_addNode_101 : decode cX3_addNode 101 = .ok (.iadd, 1) := by decide +kernel
theorem dX3_addNode_102 : decode cX3_addNode 102 = .ok (.putfield 36, 3) := by decide +kernel
theorem dX3_addNode_105 : decode cX3_addNode 105 = .ok (.return_, 1) := by decide +kernel
theorem dX3_makeRoom_0 : decode cX3_makeRoom 0 = .ok (.iconst 2, 1) := by decide +kernel
theorem dX3_makeRoom_1 : decode cX3_makeRoom 1 = .ok (.aload_n 0, 1) := by decide +kernel
theorem dX3_makeRoom_2 : decode cX3_makeRoom 2 = .ok (.getfield 21, 3) := by decide +kernel
theorem dX3_makeRoom_5 : decode cX3_makeRoom 5 = .ok (.arraylength, 1) := by decide +kernel
theorem dX3_makeRoom_6 : decode cX3_makeRoom 6 = .ok (.imul, 1) := by decide +kernel
theorem dX3_makeRoom_7 : decode cX3_makeRoom 7 = .ok (.istore_n 1, 1) := by decide +kernel
theorem dX3_makeRoom_8 : decode cX3_makeRoom 8 = .ok (.iload_n 1, 1) := by decide +kernel
theorem dX3_makeRoom_9 : decode cX3_makeRoom 9 = .ok (.sipush 1024, 3) := by decide +kernel
theorem dX3_makeRoom_12 : decode cX3_makeRoom 12 = .ok (.if_icmp .le 4, 3) := by decide +kernel
theorem dX3_makeRoom_15 : decode cX3_makeRoom 15 = .ok (.return_, 1) := by decide +kernel
theorem dX3_makeRoom_16 : decode cX3_makeRoom 16 = .ok (.aload_n 0, 1) := by decide +kernel
theorem dX3_makeRoom_17 : decode cX3_makeRoom 17 = .ok (.aload_n 0, 1) := by decide +kernel
theorem dX3_makeRoom_18 : decode cX3_makeRoom 18 = .ok (.getfield 18, 3) := by decide +kernel
theorem dX3_makeRoom_21 : decode cX3_makeRoom 21 = .ok (.iload_n 1, 1) := by decide +kernel
theorem dX3_makeRoom_22 : decode cX3_makeRoom 22 = .ok (.bipush 16, 2) := by decide +kernel
theorem dX3_makeRoom_24 : decode cX3_makeRoom 24 = .ok (.imul, 1) := by decide +kernel
theorem dX3_makeRoom_25 : decode cX3_makeRoom 25 = .ok (.invokestatic 145, 3) := by decide +kernel
theorem dX3_makeRoom_28 : decode cX3_makeRoom 28 = .ok (.putfield 18, 3) := by decide +kernel
theorem dX3_makeRoom_31 : decode cX3_makeRoom 31 = .ok (.aload_n 0, 1) := by decide +kernel
theorem dX3_makeRoom_32 : decode cX3_makeRoom 32 = .ok (.aload_n 0, 1) := by decide +kernel
theorem dX3_makeRoom_33 : decode cX3_makeRoom 33 = .ok (.getfield 21, 3) := by decide +kernel
theorem dX3_makeRoom_36 : decode cX3_makeRoom 36 = .ok (.iload_n 1, 1) := by decide +kernel
theorem dX3_makeRoom_37 : decode cX3_makeRoom 37 = .ok (.invokestatic 145, 3) := by decide +kernel
