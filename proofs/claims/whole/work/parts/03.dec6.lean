theorem dX9_compiles_94 : decode cX9_compiles 94 = .ok (.iaload, 1) := by decide +kernel
theorem dX9_compiles_95 : decode cX9_compiles 95 = .ok (.bipush 10, 2) := by decide +kernel
theorem dX9_compiles_97 : decode cX9_compiles 97 = .ok (.ishl, 1) := by decide +kernel
theorem dX9_compiles_98 : decode cX9_compiles 98 = .ok (.ior, 1) := by decide +kernel
theorem dX9_compiles_99 : decode cX9_compiles 99 = .ok (.istore_n 2, 1) := by decide +kernel
theorem dX9_compiles_100 : decode cX9_compiles 100 = .ok (.iconst 0, 1) := by decide +kernel
theorem dX9_compiles_101 : decode cX9_compiles 101 = .ok (.istore_n 3, 1) := by decide +kernel
theorem dX9_compiles_102 : decode cX9_compiles 102 = .ok (.iload_n 3, 1) := by decide +kernel
theorem dX9_compiles_103 : decode cX9_compiles 103 = .ok (.aload_n 0, 1) := by decide +kernel
theorem dX9_compiles_104 : decode cX9_compiles 104 = .ok (.getfield 7, 3) := by decide +kernel
theorem dX9_compiles_107 : decode cX9_compiles 107 = .ok (.iconst 0, 1) := by decide +kernel
theorem dX9_compiles_108 : decode cX9_compiles 108 = .ok (.iaload, 1) := by decide +kernel
theorem dX9_compiles_109 : decode cX9_compiles 109 = .ok (.if_icmp .ge 39, 3) := by decide +kernel
theorem dX9_compiles_112 : decode cX9_compiles 112 = .ok (.aload_n 0, 1) := by decide +kernel
theorem dX9_compiles_113 : decode cX9_compiles 113 = .ok (.getfield 7, 3) := by decide +kernel
theorem dX9_compiles_116 : decode cX9_compiles 116 = .ok (.iconst 1, 1) := by decide +kernel
theorem dX9_compiles_117 : decode cX9_compiles 117 = .ok (.iload_n 3, 1) := by decide +kernel
theorem dX9_compiles_118 : decode cX9_compiles 118 = .ok (.iadd, 1) := by decide +kernel
theorem dX9_compiles_119 : decode cX9_compiles 119 = .ok (.iaload, 1) := by decide +kernel
theorem dX9_compiles_120 : decode cX9_compiles 120 = .ok (.iload_n 1, 1) := by decide +kernel
theorem dX9_compiles_121 : decode cX9_compiles 121 = .ok (.iand, 1) := by decide +kernel
theorem dX9_compiles_122 : decode cX9_compiles 122 = .ok (.ifCond .ne 20, 3) := by decide +kernel
theorem dX9_compiles_125 : decode cX9_compiles 125 = .ok (.aload_n 0, 1) := by decide +kernel
theorem dX9_compiles_126 : decode cX9_compiles 126 = .ok (.iconst 0, 1) := by decide +kernel
theorem dX9_compiles_127 : decode cX9_compiles 127 = .ok (.aload_n 0, 1) := by decide +kernel
theorem dX9_compiles_128 : decode cX9_compiles 128 = .ok (.getfield 7, 3) := by decide +kernel
theorem dX9_compiles_131 : decode cX9_compiles 131 = .ok (.iconst 1, 1) := by decide +kernel
theorem dX9_compiles_132 : decode cX9_compiles 132 = .ok (.iload_n 3, 1) := by decide +kernel
theorem dX9_compiles_133 : decode cX9_compiles 133 = .ok (.iadd, 1) := by decide +kernel
theorem dX9_compiles_134 : decode cX9_compiles 134 = .ok (.iaload, 1) := by decide +kernel
theorem dX9_compiles_135 : decode cX9_compiles 135 = .ok (.iload_n 2, 1) := by decide +kernel
theorem dX9_compiles_136 : decode cX9_compiles 136 = .ok (.iconst (-1), 1) := by decide +kernel
theorem dX9_compiles_137 : decode cX9_compiles 137 = .ok (.ixor, 1) := by decide +kernel
theorem dX9_compiles_138 : decode cX9_compiles 138 = .ok (.iand, 1) := by decide +kernel
theorem dX9_compiles_139 : decode cX9_compiles 139 = .ok (.invokevirtual 122, 3) := by decide +kernel
theorem dX9_compiles_142 : decode cX9_compiles 142 = .ok (.iinc 3 1, 3) := by decide +kernel
theorem dX9_compiles_145 : decode cX9_compiles 145 = .ok (.goto (-43), 3) := by decide +kernel
theorem dX9_compiles_148 : decode cX9_compiles 148 = .ok (.aload_n 0, 1) := by decide +kernel
theorem dX9_compiles_149 : decode cX9_compiles 149 = .ok (.aload_n 0, 1) := by decide +kernel
theorem dX9_compiles_150 : decode cX9_compiles 150 = .ok (.invokevirtual 157, 3) := by decide +kernel
theorem dX9_compiles_153 : decode cX9_compiles 153 = .ok (.putfield 160, 3) := by decide +kernel
theorem dX9_compiles_156 : decode cX9_compiles 156 = .ok (.return_, 1) := by decide +kernel
theorem dX9_nodes_0 : decode cX9_nodes 0 = .ok (.aload_n 0, 1) := by decide +kernel
theorem dX9_nodes_1 : decode cX9_nodes 1 = .ok (.invokevirtual 163, 3) := by decide +kernel
theorem dX9_nodes_4 : decode cX9_nodes 4 = .ok (.aload_n 0, 1) := by decide +kernel
theorem dX9_nodes_5 : decode cX9_nodes 5 = .ok (.getfield 135, 3) := by decide +kernel
theorem dX9_nodes_8 : decode cX9_nodes 8 = .ok (.iconst 2, 1) := by decide +kernel
theorem dX9_nodes_9 : decode cX9_nodes 9 = .ok (.isub, 1) := by decide +kernel
theorem dX9_nodes_10 : decode cX9_nodes 10 = .ok (.aload_n 0, 1) := by decide +kernel
theorem dX9_nodes_11 : decode cX9_nodes 11 = .ok (.getfield 129, 3) := by decide +kernel
theorem dX9_nodes_14 : decode cX9_nodes 14 = .ok (.ifCond .eq 7, 3) := by decide +kernel
theorem dX9_nodes_17 : decode cX9_nodes 17 = .ok (.iconst 1, 1) := by decide +kernel
theorem dX9_nodes_18 : decode cX9_nodes 18 = .ok (.goto 4, 3) := by decide +kernel
theorem dX9_nodes_21 : decode cX9_nodes 21 = .ok (.iconst 0, 1) := by decide +kernel
theorem dX9_nodes_22 : decode cX9_nodes 22 = .ok (.iadd, 1) := by decide +kernel
theorem dX9_nodes_23 : decode cX9_nodes 23 = .ok (.aload_n 0, 1) := by decide +kernel
theorem dX9_nodes_24 : decode cX9_nodes 24 = .ok (.getfield 126, 3) := by decide +kernel
theorem dX9_nodes_27 : decode cX9_nodes 27 = .ok (.ifCond .eq 7, 3) := by decide +kernel
theorem dX9_nodes_30 : decode cX9_nodes 30 = .ok (.iconst 1, 1) := by decide +kernel
theorem dX9_nodes_31 : decode cX9_nodes 31 = .ok (.goto 4, 3) := by decide +kernel
theorem dX9_nodes_34 : decode cX9_nodes 34 = .ok (.iconst 0, 1) := by decide +kernel
theorem dX9_nodes_35 : decode cX9_nodes 35 = .ok (.iadd, 1) := by decide +kernel
theorem dX9_nodes_36 : decode cX9_nodes 36 = .ok (.ireturn, 1) := by decide +kernel
theorem dX9_manyOf_0 : decode cX9_manyOf 0 = .ok (.aload_n 0, 1) := by decide +kernel
theorem dX9_manyOf_1 : decode cX9_manyOf 1 = .ok (.invokevirtual 163, 3) := by decide +kernel
theorem dX9_manyOf_4 : decode cX9_manyOf 4 = .ok (.iconst 0, 1) := by decide +kernel
theorem dX9_manyOf_5 : decode cX9_manyOf 5 = .ok (.istore_n 2, 1) := by decide +kernel
theorem dX9_manyOf_6 : decode cX9_manyOf 6 = .ok (.iconst 2, 1) := by decide +kernel
theorem dX9_manyOf_7 : decode cX9_manyOf 7 = .ok (.istore_n 3, 1) := by decide +kernel
theorem dX9_manyOf_8 : decode cX9_manyOf 8 = .ok (.iload_n 3, 1) := by decide +kernel
theorem dX9_manyOf_9 : decode cX9_manyOf 9 = .ok (.aload_n 0, 1) := by decide +kernel
theorem dX9_manyOf_10 : decode cX9_manyOf 10 = .ok (.getfield 135, 3) := by decide +kernel
theorem dX9_manyOf_13 : decode cX9_manyOf 13 = .ok (.if_icmp .ge 35, 3) := by decide +kernel
theorem dX9_manyOf_16 : decode cX9_manyOf 16 = .ok (.iload_n 2, 1) := by decide +kernel
theorem dX9_manyOf_17 : decode cX9_manyOf 17 = .ok (.aload_n 0, 1) := by decide +kernel
theorem dX9_manyOf_18 : decode cX9_manyOf 18 = .ok (.getfield 28, 3) := by decide +kernel
theorem dX9_manyOf_21 : decode cX9_manyOf 21 = .ok (.iload_n 3, 1) := by decide +kernel
theorem dX9_manyOf_22 : decode cX9_manyOf 22 = .ok (.iaload, 1) := by decide +kernel
theorem dX9_manyOf_23 : decode cX9_manyOf 23 = .ok (.ifCond .le 7, 3) := by decide +kernel
theorem dX9_manyOf_26 : decode cX9_manyOf 26 = .ok (.iconst 1, 1) := by decide +kernel
theorem dX9_manyOf_27 : decode cX9_manyOf 27 = .ok (.goto 4, 3) := by decide +kernel
theorem dX9_manyOf_30 : decode cX9_manyOf 30 = .ok (.iconst 0, 1) := by decide +kernel
theorem dX9_manyOf_31 : decode cX9_manyOf 31 = .ok (.iload_n 1, 1) := by decide +kernel
theorem dX9_manyOf_32 : decode cX9_manyOf 32 = .ok (.if_icmp .ne 7, 3) := by decide +kernel
theorem dX9_manyOf_35 : decode cX9_manyOf 35 = .ok (.iconst 1, 1) := by decide +kernel
theorem dX9_manyOf_36 : decode cX9_manyOf 36 = .ok (.goto 4, 3) := by decide +kernel
theorem dX9_manyOf_39 : decode cX9_manyOf 39 = .ok (.iconst 0, 1) := by decide +kernel
theorem dX9_manyOf_40 : decode cX9_manyOf 40 = .ok (.iadd, 1) := by decide +kernel
theorem dX9_manyOf_41 : decode cX9_manyOf 41 = .ok (.istore_n 2, 1) := by decide +kernel
theorem dX9_manyOf_42 : decode cX9_manyOf 42 = .ok (.iinc 3 1, 3) := by decide +kernel
theorem dX9_manyOf_45 : decode cX9_manyOf 45 = .ok (.goto (-37), 3) := by decide +kernel
theorem dX9_manyOf_48 : decode cX9_manyOf 48 = .ok (.iload_n 2, 1) := by decide +kernel
theorem dX9_manyOf_49 : decode cX9_manyOf 49 = .ok (.ireturn, 1) := by decide +kernel
theorem dX9_decisionNodes_0 : decode cX9_decisionNodes 0 = .ok (.aload_n 0, 1) := by decide +kernel
theorem dX9_decisionNodes_1 : decode cX9_decisionNodes 1 = .ok (.iconst 1, 1) := by decide +kernel
theorem dX9_decisionNodes_2 : decode cX9_decisionNodes 2 = .ok (.invokevirtual 166, 3) := by decide +kernel
theorem dX9_decisionNodes_5 : decode cX9_decisionNodes 5 = .ok (.ireturn, 1) := by decide +kernel
theorem dX9_andNodes_0 : decode cX9_andNodes 0 = .ok (.aload_n 0, 1) := by decide +kernel
theorem dX9_andNodes_1 : decode cX9_andNodes 1 = .ok (.iconst 0, 1) := by decide +kernel
theorem dX9_andNodes_2 : decode cX9_andNodes 2 = .ok (.invokevirtual 166, 3) := by decide +kernel
theorem dX9_andNodes_5 : decode cX9_andNodes 5 = .ok (.ireturn, 1) := by decide +kernel
theorem dX9_depth_0 : decode cX9_depth 0 = .ok (.aload_n 0, 1) := by decide +kernel
theorem dX9_depth_1 : decode cX9_depth 1 = .ok (.invokevirtual 163, 3) := by decide +kernel
theorem dX9_depth_4 : decode cX9_depth 4 = .ok (.aload_n 0, 1) := by decide +kernel
theorem dX9_depth_5 : decode cX9_depth 5 = .ok (.getfield 160, 3) := by decide +kernel
theorem dX9_depth_8 : decode cX9_depth 8 = .ok (.iconst 2, 1) := by decide +kernel
theorem dX9_depth_9 : decode cX9_depth 9 = .ok (.if_icmp .ge 7, 3) := by decide +kernel
theorem dX9_depth_12 : decode cX9_depth 12 = .ok (.iconst 0, 1) := by decide +kernel
theorem dX9_depth_13 : decode cX9_depth 13 = .ok (.goto 12, 3) := by decide +kernel
theorem dX9_depth_16 : decode cX9_depth 16 = .ok (.aload_n 0, 1) := by decide +kernel
theorem dX9_depth_17 : decode cX9_depth 17 = .ok (.getfield 34, 3) := by decide +kernel
theorem dX9_depth_20 : decode cX9_depth 20 = .ok (.aload_n 0, 1) := by decide +kernel
theorem dX9_depth_21 : decode cX9_depth 21 = .ok (.getfield 160, 3) := by decide +kernel
theorem dX9_depth_24 : decode cX9_depth 24 = .ok (.iaload, 1) := by decide +kernel
theorem dX9_depth_25 : decode cX9_depth 25 = .ok (.ireturn, 1) := by decide +kernel
theorem dX9_rootVariable_0 : decode cX9_rootVariable 0 = .ok (.aload_n 0, 1) := by decide +kernel
theorem dX9_rootVariable_1 : decode cX9_rootVariable 1 = .ok (.invokevirtual 163, 3) := by decide +kernel
theorem dX9_rootVariable_4 : decode cX9_rootVariable 4 = .ok (.aload_n 0, 1) := by decide +kernel
theorem dX9_rootVariable_5 : decode cX9_rootVariable 5 = .ok (.getfield 160, 3) := by decide +kernel
theorem dX9_rootVariable_8 : decode cX9_rootVariable 8 = .ok (.iconst 2, 1) := by decide +kernel
theorem dX9_rootVariable_9 : decode cX9_rootVariable 9 = .ok (.if_icmp .ge 12, 3) := by decide +kernel
theorem dX9_rootVariable_12 : decode cX9_rootVariable 12 = .ok (.aload_n 0, 1) := by decide +kernel
theorem dX9_rootVariable_13 : decode cX9_rootVariable 13 = .ok (.getfield 160, 3) := by decide +kernel
theorem dX9_rootVariable_16 : decode cX9_rootVariable 16 = .ok (.iconst 2, 1) := by decide +kernel
theorem dX9_rootVariable_17 : decode cX9_rootVariable 17 = .ok (.isub, 1) := by decide +kernel
theorem dX9_rootVariable_18 : decode cX9_rootVariable 18 = .ok (.goto 12, 3) := by decide +kernel
theorem dX9_rootVariable_21 : decode cX9_rootVariable 21 = .ok (.aload_n 0, 1) := by decide +kernel
theorem dX9_rootVariable_22 : decode cX9_rootVariable 22 = .ok (.getfield 28, 3) := by decide +kernel
theorem dX9_rootVariable_25 : decode cX9_rootVariable 25 = .ok (.aload_n 0, 1) := by decide +kernel
theorem dX9_rootVariable_26 : decode cX9_rootVariable 26 = .ok (.getfield 160, 3) := by decide +kernel
theorem dX9_rootVariable_29 : decode cX9_rootVariable 29 = .ok (.iaload, 1) := by decide +kernel
theorem dX9_rootVariable_30 : decode cX9_rootVariable 30 = .ok (.ireturn, 1) := by decide +kernel
theorem dX9_components_0 : decode cX9_components 0 = .ok (.aload_n 0, 1) := by decide +kernel
theorem dX9_components_1 : decode cX9_components 1 = .ok (.invokevirtual 163, 3) := by decide +kernel
theorem dX9_components_4 : decode cX9_components 4 = .ok (.aload_n 0, 1) := by decide +kernel
theorem dX9_components_5 : decode cX9_components 5 = .ok (.getfield 160, 3) := by decide +kernel
theorem dX9_components_8 : decode cX9_components 8 = .ok (.iconst 2, 1) := by decide +kernel
theorem dX9_components_9 : decode cX9_components 9 = .ok (.if_icmp .ge 7, 3) := by decide +kernel
theorem dX9_components_12 : decode cX9_components 12 = .ok (.iconst 0, 1) := by decide +kernel
theorem dX9_components_13 : decode cX9_components 13 = .ok (.goto 12, 3) := by decide +kernel
theorem dX9_components_16 : decode cX9_components 16 = .ok (.aload_n 0, 1) := by decide +kernel
theorem dX9_components_17 : decode cX9_components 17 = .ok (.getfield 31, 3) := by decide +kernel
theorem dX9_components_20 : decode cX9_components 20 = .ok (.aload_n 0, 1) := by decide +kernel
theorem dX9_components_21 : decode cX9_components 21 = .ok (.getfield 160, 3) := by decide +kernel
theorem dX9_components_24 : decode cX9_components 24 = .ok (.iaload, 1) := by decide +kernel
theorem dX9_components_25 : decode cX9_components 25 = .ok (.ireturn, 1) := by decide +kernel
theorem dX9_isModel_0 : decode cX9_isModel 0 = .ok (.iload_n 1, 1) := by decide +kernel
theorem dX9_isModel_1 : decode cX9_isModel 1 = .ok (.aload_n 0, 1) := by decide +kernel
theorem dX9_isModel_2 : decode cX9_isModel 2 = .ok (.getfield 7, 3) := by decide +kernel
theorem dX9_isModel_5 : decode cX9_isModel 5 = .ok (.bipush 18, 2) := by decide +kernel
theorem dX9_isModel_7 : decode cX9_isModel 7 = .ok (.iaload, 1) := by decide +kernel
theorem dX9_isModel_8 : decode cX9_isModel 8 = .ok (.iand, 1) := by decide +kernel
theorem dX9_isModel_9 : decode cX9_isModel 9 = .ok (.ifCond .ne 21, 3) := by decide +kernel
theorem dX9_isModel_12 : decode cX9_isModel 12 = .ok (.aload_n 0, 1) := by decide +kernel
theorem dX9_isModel_13 : decode cX9_isModel 13 = .ok (.getfield 7, 3) := by decide +kernel
theorem dX9_isModel_16 : decode cX9_isModel 16 = .ok (.bipush 17, 2) := by decide +kernel
theorem dX9_isModel_18 : decode cX9_isModel 18 = .ok (.iaload, 1) := by decide +kernel
theorem dX9_isModel_19 : decode cX9_isModel 19 = .ok (.iload_n 1, 1) := by decide +kernel
theorem dX9_isModel_20 : decode cX9_isModel 20 = .ok (.iconst (-1), 1) := by decide +kernel
theorem dX9_isModel_21 : decode cX9_isModel 21 = .ok (.ixor, 1) := by decide +kernel
theorem dX9_isModel_22 : decode cX9_isModel 22 = .ok (.iand, 1) := by decide +kernel
theorem dX9_isModel_23 : decode cX9_isModel 23 = .ok (.ifCond .ne 7, 3) := by decide +kernel
theorem dX9_isModel_26 : decode cX9_isModel 26 = .ok (.iconst 1, 1) := by decide +kernel
theorem dX9_isModel_27 : decode cX9_isModel 27 = .ok (.goto 4, 3) := by decide +kernel
theorem dX9_isModel_30 : decode cX9_isModel 30 = .ok (.iconst 0, 1) := by decide +kernel
theorem dX9_isModel_31 : decode cX9_isModel 31 = .ok (.istore_n 2, 1) := by decide +kernel
theorem dX9_isModel_32 : decode cX9_isModel 32 = .ok (.iconst 0, 1) := by decide +kernel
theorem dX9_isModel_33 : decode cX9_isModel 33 = .ok (.istore_n 3, 1) := by decide +kernel
theorem dX9_isModel_34 : decode cX9_isModel 34 = .ok (.iload_n 3, 1) := by decide +kernel
theorem dX9_isModel_35 : decode cX9_isModel 35 = .ok (.aload_n 0, 1) := by decide +kernel
theorem dX9_isModel_36 : decode cX9_isModel 36 = .ok (.getfield 7, 3) := by decide +kernel
theorem dX9_isModel_39 : decode cX9_isModel 39 = .ok (.iconst 0, 1) := by decide +kernel
theorem dX9_isModel_40 : decode cX9_isModel 40 = .ok (.iaload, 1) := by decide +kernel
theorem dX9_isModel_41 : decode cX9_isModel 41 = .ok (.if_icmp .ge 43, 3) := by decide +kernel
theorem dX9_isModel_44 : decode cX9_isModel 44 = .ok (.iload_n 2, 1) := by decide +kernel
theorem dX9_isModel_45 : decode cX9_isModel 45 = .ok (.ifCond .eq 39, 3) := by decide +kernel
theorem dX9_isModel_48 : decode cX9_isModel 48 = .ok (.aload_n 0, 1) := by decide +kernel
theorem dX9_isModel_49 : decode cX9_isModel 49 = .ok (.getfield 7, 3) := by decide +kernel
theorem dX9_isModel_52 : decode cX9_isModel 52 = .ok (.iconst 1, 1) := by decide +kernel
theorem dX9_isModel_53 : decode cX9_isModel 53 = .ok (.iload_n 3, 1) := by decide +kernel
theorem dX9_isModel_54 : decode cX9_isModel 54 = .ok (.iadd, 1) := by decide +kernel
theorem dX9_isModel_55 : decode cX9_isModel 55 = .ok (.iaload, 1) := by decide +kernel
theorem dX9_isModel_56 : decode cX9_isModel 56 = .ok (.iload_n 1, 1) := by decide +kernel
theorem dX9_isModel_57 : decode cX9_isModel 57 = .ok (.sipush 1023, 3) := by decide +kernel
theorem dX9_isModel_60 : decode cX9_isModel 60 = .ok (.iload_n 1, 1) := by decide +kernel
theorem dX9_isModel_61 : decode cX9_isModel 61 = .ok (.iconst (-1), 1) := by decide +kernel
theorem dX9_isModel_62 : decode cX9_isModel 62 = .ok (.ixor, 1) := by decide +kernel
theorem dX9_isModel_63 : decode cX9_isModel 63 = .ok (.iand, 1) := by decide +kernel
theorem dX9_isModel_64 : decode cX9_isModel 64 = .ok (.bipush 10, 2) := by decide +kernel
theorem dX9_isModel_66 : decode cX9_isModel 66 = .ok (.ishl, 1) := by decide +kernel
theorem dX9_isModel_67 : decode cX9_isModel 67 = .ok (.ior, 1) := by decide +kernel
theorem dX9_isModel_68 : decode cX9_isModel 68 = .ok (.iand, 1) := by decide +kernel
theorem dX9_isModel_69 : decode cX9_isModel 69 = .ok (.ifCond .eq 7, 3) := by decide +kernel
theorem dX9_isModel_72 : decode cX9_isModel 72 = .ok (.iconst 1, 1) := by decide +kernel
theorem dX9_isModel_73 : decode cX9_isModel 73 = .ok (.goto 4, 3) := by decide +kernel
theorem dX9_isModel_76 : decode cX9_isModel 76 = .ok (.iconst 0, 1) := by decide +kernel
theorem dX9_isModel_77 : decode cX9_isModel 77 = .ok (.istore_n 2, 1) := by decide +kernel
theorem dX9_isModel_78 : decode cX9_isModel 78 = .ok (.iinc 3 1, 3) := by decide +kernel
theorem dX9_isModel_81 : decode cX9_isModel 81 = .ok (.goto (-47), 3) := by decide +kernel
theorem dX9_isModel_84 : decode cX9_isModel 84 = .ok (.iload_n 2, 1) := by decide +kernel
theorem dX9_isModel_85 : decode cX9_isModel 85 = .ok (.ireturn, 1) := by decide +kernel
theorem dX9_lists_0 : decode cX9_lists 0 = .ok (.aload_n 0, 1) := by decide +kernel
theorem dX9_lists_1 : decode cX9_lists 1 = .ok (.getfield 81, 3) := by decide +kernel
theorem dX9_lists_4 : decode cX9_lists 4 = .ok (.ifCond .eq 4, 3) := by decide +kernel
theorem dX9_lists_7 : decode cX9_lists 7 = .ok (.return_, 1) := by decide +kernel
theorem dX9_lists_8 : decode cX9_lists 8 = .ok (.aload_n 0, 1) := by decide +kernel
theorem dX9_lists_9 : decode cX9_lists 9 = .ok (.iconst 1, 1) := by decide +kernel
theorem dX9_lists_10 : decode cX9_lists 10 = .ok (.putfield 81, 3) := by decide +kernel
theorem dX9_lists_13 : decode cX9_lists 13 = .ok (.aload_n 0, 1) := by decide +kernel
theorem dX9_lists_14 : decode cX9_lists 14 = .ok (.iconst 0, 1) := by decide +kernel
theorem dX9_lists_15 : decode cX9_lists 15 = .ok (.putfield 170, 3) := by decide +kernel
theorem dX9_lists_18 : decode cX9_lists 18 = .ok (.iconst 0, 1) := by decide +kernel
theorem dX9_lists_19 : decode cX9_lists 19 = .ok (.istore_n 1, 1) := by decide +kernel
theorem dX9_lists_20 : decode cX9_lists 20 = .ok (.iload_n 1, 1) := by decide +kernel
theorem dX9_lists_21 : decode cX9_lists 21 = .ok (.sipush 1023, 3) := by decide +kernel
theorem dX9_lists_24 : decode cX9_lists 24 = .ok (.if_icmp .gt 37, 3) := by decide +kernel
theorem dX9_lists_27 : decode cX9_lists 27 = .ok (.aload_n 0, 1) := by decide +kernel
theorem dX9_lists_28 : decode cX9_lists 28 = .ok (.iload_n 1, 1) := by decide +kernel
theorem dX9_lists_29 : decode cX9_lists 29 = .ok (.invokevirtual 173, 3) := by decide +kernel
theorem dX9_lists_32 : decode cX9_lists 32 = .ok (.ifCond .eq 23, 3) := by decide +kernel
theorem dX9_lists_35 : decode cX9_lists 35 = .ok (.aload_n 0, 1) := by decide +kernel
theorem dX9_lists_36 : decode cX9_lists 36 = .ok (.getfield 59, 3) := by decide +kernel
theorem dX9_lists_39 : decode cX9_lists 39 = .ok (.aload_n 0, 1) := by decide +kernel
theorem dX9_lists_40 : decode cX9_lists 40 = .ok (.getfield 170, 3) := by decide +kernel
theorem dX9_lists_43 : decode cX9_lists 43 = .ok (.iload_n 1, 1) := by decide +kernel
theorem dX9_lists_44 : decode cX9_lists 44 = .ok (.iastore, 1) := by decide +kernel
theorem dX9_lists_45 : decode cX9_lists 45 = .ok (.aload_n 0, 1) := by decide +kernel
theorem dX9_lists_46 : decode cX9_lists 46 = .ok (.dup, 1) := by decide +kernel
theorem dX9_lists_47 : decode cX9_lists 47 = .ok (.getfield 170, 3) := by decide +kernel
theorem dX9_lists_50 : decode cX9_lists 50 = .ok (.iconst 1, 1) := by decide +kernel
theorem dX9_lists_51 : decode cX9_lists 51 = .ok (.iadd, 1) := by decide +kernel
theorem dX9_lists_52 : decode cX9_lists 52 = .ok (.putfield 170, 3) := by decide +kernel
theorem dX9_lists_55 : decode cX9_lists 55 = .ok (.iinc 1 1, 3) := by decide +kernel
theorem dX9_lists_58 : decode cX9_lists 58 = .ok (.goto (-38), 3) := by decide +kernel
theorem dX9_lists_61 : decode cX9_lists 61 = .ok (.return_, 1) := by decide +kernel
theorem dX9_modelsBy_0 : decode cX9_modelsBy 0 = .ok (.aload_n 0, 1) := by decide +kernel
theorem dX9_modelsBy_1 : decode cX9_modelsBy 1 = .ok (.invokevirtual 176, 3) := by decide +kernel
theorem dX9_modelsBy_4 : decode cX9_modelsBy 4 = .ok (.iconst 0, 1) := by decide +kernel
theorem dX9_modelsBy_5 : decode cX9_modelsBy 5 = .ok (.istore_n 2, 1) := by decide +kernel
theorem dX9_modelsBy_6 : decode cX9_modelsBy 6 = .ok (.iconst 0, 1) := by decide +kernel
theorem dX9_modelsBy_7 : decode cX9_modelsBy 7 = .ok (.istore_n 3, 1) := by decide +kernel
theorem dX9_modelsBy_8 : decode cX9_modelsBy 8 = .ok (.iload_n 3, 1) := by decide +kernel
theorem dX9_modelsBy_9 : decode cX9_modelsBy 9 = .ok (.aload_n 0, 1) := by decide +kernel
theorem dX9_modelsBy_10 : decode cX9_modelsBy 10 = .ok (.getfield 170, 3) := by decide +kernel
theorem dX9_modelsBy_13 : decode cX9_modelsBy 13 = .ok (.if_icmp .ge 46, 3) := by decide +kernel
theorem dX9_modelsBy_16 : decode cX9_modelsBy 16 = .ok (.aload_n 0, 1) := by decide +kernel
theorem dX9_modelsBy_17 : decode cX9_modelsBy 17 = .ok (.getfield 59, 3) := by decide +kernel
theorem dX9_modelsBy_20 : decode cX9_modelsBy 20 = .ok (.iload_n 3, 1) := by decide +kernel
theorem dX9_modelsBy_21 : decode cX9_modelsBy 21 = .ok (.iaload, 1) := by decide +kernel
theorem dX9_modelsBy_22 : decode cX9_modelsBy 22 = .ok (.istore 4, 2) := by decide +kernel
theorem dX9_modelsBy_24 : decode cX9_modelsBy 24 = .ok (.iload_n 2, 1) := by decide +kernel
theorem dX9_modelsBy_25 : decode cX9_modelsBy 25 = .ok (.iload_n 1, 1) := by decide +kernel
theorem dX9_modelsBy_26 : decode cX9_modelsBy 26 = .ok (.iload 4, 2) := by decide +kernel
theorem dX9_modelsBy_28 : decode cX9_modelsBy 28 = .ok (.sipush 1023, 3) := by decide +kernel
theorem dX9_modelsBy_31 : decode cX9_modelsBy 31 = .ok (.iload 4, 2) := by decide +kernel
theorem dX9_modelsBy_33 : decode cX9_modelsBy 33 = .ok (.iconst (-1), 1) := by decide +kernel
theorem dX9_modelsBy_34 : decode cX9_modelsBy 34 = .ok (.ixor, 1) := by decide +kernel
theorem dX9_modelsBy_35 : decode cX9_modelsBy 35 = .ok (.iand, 1) := by decide +kernel
theorem dX9_modelsBy_36 : decode cX9_modelsBy 36 = .ok (.bipush 10, 2) := by decide +kernel
theorem dX9_modelsBy_38 : decode cX9_modelsBy 38 = .ok (.ishl, 1) := by decide +kernel
theorem dX9_modelsBy_39 : decode cX9_modelsBy 39 = .ok (.ior, 1) := by decide +kernel
theorem dX9_modelsBy_40 : decode cX9_modelsBy 40 = .ok (.iconst (-1), 1) := by decide +kernel
theorem dX9_modelsBy_41 : decode cX9_modelsBy 41 = .ok (.ixor, 1) := by decide +kernel
theorem dX9_modelsBy_42 : decode cX9_modelsBy 42 = .ok (.iand, 1) := by decide +kernel
theorem dX9_modelsBy_43 : decode cX9_modelsBy 43 = .ok (.ifCond .ne 7, 3) := by decide +kernel
theorem dX9_modelsBy_46 : decode cX9_modelsBy 46 = .ok (.iconst 1, 1) := by decide +kernel
theorem dX9_modelsBy_47 : decode cX9_modelsBy 47 = .ok (.goto 4, 3) := by decide +kernel
theorem dX9_modelsBy_50 : decode cX9_modelsBy 50 = .ok (.iconst 0, 1) := by decide +kernel
theorem dX9_modelsBy_51 : decode cX9_modelsBy 51 = .ok (.iadd, 1) := by decide +kernel
theorem dX9_modelsBy_52 : decode cX9_modelsBy 52 = .ok (.istore_n 2, 1) := by decide +kernel
theorem dX9_modelsBy_53 : decode cX9_modelsBy 53 = .ok (.iinc 3 1, 3) := by decide +kernel
theorem dX9_modelsBy_56 : decode cX9_modelsBy 56 = .ok (.goto (-48), 3) := by decide +kernel
theorem dX9_modelsBy_59 : decode cX9_modelsBy 59 = .ok (.iload_n 2, 1) := by decide +kernel
theorem dX9_modelsBy_60 : decode cX9_modelsBy 60 = .ok (.ireturn, 1) := by decide +kernel
theorem dX9_models_0 : decode cX9_models 0 = .ok (.aload_n 0, 1) := by decide +kernel
theorem dX9_models_1 : decode cX9_models 1 = .ok (.iconst 0, 1) := by decide +kernel
theorem dX9_models_2 : decode cX9_models 2 = .ok (.invokevirtual 179, 3) := by decide +kernel
theorem dX9_models_5 : decode cX9_models 5 = .ok (.ireturn, 1) := by decide +kernel
theorem dX9_modelsWith_0 : decode cX9_modelsWith 0 = .ok (.iload_n 1, 1) := by decide +kernel
theorem dX9_modelsWith_1 : decode cX9_modelsWith 1 = .ok (.invokestatic 104, 3) := by decide +kernel
theorem dX9_modelsWith_4 : decode cX9_modelsWith 4 = .ok (.ifCond .eq 14, 3) := by decide +kernel
theorem dX9_modelsWith_7 : decode cX9_modelsWith 7 = .ok (.aload_n 0, 1) := by decide +kernel
theorem dX9_modelsWith_8 : decode cX9_modelsWith 8 = .ok (.iload_n 1, 1) := by decide +kernel
theorem dX9_modelsWith_9 : decode cX9_modelsWith 9 = .ok (.invokestatic 88, 3) := by decide +kernel
theorem dX9_modelsWith_12 : decode cX9_modelsWith 12 = .ok (.invokevirtual 179, 3) := by decide +kernel
theorem dX9_modelsWith_15 : decode cX9_modelsWith 15 = .ok (.goto 9, 3) := by decide +kernel
theorem dX9_modelsWith_18 : decode cX9_modelsWith 18 = .ok (.aload_n 0, 1) := by decide +kernel
theorem dX9_modelsWith_19 : decode cX9_modelsWith 19 = .ok (.bipush (-2), 2) := by decide +kernel
theorem dX9_modelsWith_21 : decode cX9_modelsWith 21 = .ok (.invokevirtual 84, 3) := by decide +kernel
theorem dX9_modelsWith_24 : decode cX9_modelsWith 24 = .ok (.ireturn, 1) := by decide +kernel
theorem dX9_weightedCount_0 : decode cX9_weightedCount 0 = .ok (.lconst 0, 1) := by decide +kernel
theorem dX9_weightedCount_1 : decode cX9_weightedCount 1 = .ok (.lstore_n 1, 1) := by decide +kernel
theorem dX9_weightedCount_2 : decode cX9_weightedCount 2 = .ok (.iconst 0, 1) := by decide +kernel
theorem dX9_weightedCount_3 : decode cX9_weightedCount 3 = .ok (.istore_n 3, 1) := by decide +kernel
theorem dX9_weightedCount_4 : decode cX9_weightedCount 4 = .ok (.iload_n 3, 1) := by decide +kernel
theorem dX9_weightedCount_5 : decode cX9_weightedCount 5 = .ok (.sipush 1023, 3) := by decide +kernel
theorem dX9_weightedCount_8 : decode cX9_weightedCount 8 = .ok (.if_icmp .gt 68, 3) := by decide +kernel
theorem dX9_weightedCount_11 : decode cX9_weightedCount 11 = .ok (.aload_n 0, 1) := by decide +kernel
theorem dX9_weightedCount_12 : decode cX9_weightedCount 12 = .ok (.iload_n 3, 1) := by decide +kernel
theorem dX9_weightedCount_13 : decode cX9_weightedCount 13 = .ok (.invokevirtual 173, 3) := by decide +kernel
theorem dX9_weightedCount_16 : decode cX9_weightedCount 16 = .ok (.ifCond .eq 54, 3) := by decide +kernel
theorem dX9_weightedCount_19 : decode cX9_weightedCount 19 = .ok (.lconst 1, 1) := by decide +kernel
theorem dX9_weightedCount_20 : decode cX9_weightedCount 20 = .ok (.lstore 4, 2) := by decide +kernel
theorem dX9_weightedCount_22 : decode cX9_weightedCount 22 = .ok (.iconst 0, 1) := by decide +kernel
theorem dX9_weightedCount_23 : decode cX9_weightedCount 23 = .ok (.istore 6, 2) := by decide +kernel
theorem dX9_weightedCount_25 : decode cX9_weightedCount 25 = .ok (.iload 6, 2) := by decide +kernel
theorem dX9_weightedCount_27 : decode cX9_weightedCount 27 = .ok (.bipush 10, 2) := by decide +kernel
theorem dX9_weightedCount_29 : decode cX9_weightedCount 29 = .ok (.if_icmp .ge 36, 3) := by decide +kernel
theorem dX9_weightedCount_32 : decode cX9_weightedCount 32 = .ok (.lload 4, 2) := by decide +kernel
theorem dX9_weightedCount_34 : decode cX9_weightedCount 34 = .ok (.aload_n 0, 1) := by decide +kernel
theorem dX9_weightedCount_35 : decode cX9_weightedCount 35 = .ok (.getfield 7, 3) := by decide +kernel
theorem dX9_weightedCount_38 : decode cX9_weightedCount 38 = .ok (.bipush 19, 2) := by decide +kernel
theorem dX9_weightedCount_40 : decode cX9_weightedCount 40 = .ok (.iconst 2, 1) := by decide +kernel
theorem dX9_weightedCount_41 : decode cX9_weightedCount 41 = .ok (.iload 6, 2) := by decide +kernel
theorem dX9_weightedCount_43 : decode cX9_weightedCount 43 = .ok (.imul, 1) := by decide +kernel
theorem dX9_weightedCount_44 : decode cX9_weightedCount 44 = .ok (.iadd, 1) := by decide +kernel
theorem dX9_weightedCount_45 : decode cX9_weightedCount 45 = .ok (.iconst 1, 1) := by decide +kernel
theorem dX9_weightedCount_46 : decode cX9_weightedCount 46 = .ok (.iadd, 1) := by decide +kernel
theorem dX9_weightedCount_47 : decode cX9_weightedCount 47 = .ok (.iload_n 3, 1) := by decide +kernel
theorem dX9_weightedCount_48 : decode cX9_weightedCount 48 = .ok (.iload 6, 2) := by decide +kernel
theorem dX9_weightedCount_50 : decode cX9_weightedCount 50 = .ok (.ishr, 1) := by decide +kernel
theorem dX9_weightedCount_51 : decode cX9_weightedCount 51 = .ok (.iconst 1, 1) := by decide +kernel
theorem dX9_weightedCount_52 : decode cX9_weightedCount 52 = .ok (.iand, 1) := by decide +kernel
theorem dX9_weightedCount_53 : decode cX9_weightedCount 53 = .ok (.isub, 1) := by decide +kernel
theorem dX9_weightedCount_54 : decode cX9_weightedCount 54 = .ok (.iaload, 1) := by decide +kernel
theorem dX9_weightedCount_55 : decode cX9_weightedCount 55 = .ok (.i2l, 1) := by decide +kernel
theorem dX9_weightedCount_56 : decode cX9_weightedCount 56 = .ok (.lmul, 1) := by decide +kernel
theorem dX9_weightedCount_57 : decode cX9_weightedCount 57 = .ok (.lstore 4, 2) := by decide +kernel
theorem dX9_weightedCount_59 : decode cX9_weightedCount 59 = .ok (.iinc 6 1, 3) := by decide +kernel
theorem dX9_weightedCount_62 : decode cX9_weightedCount 62 = .ok (.goto (-37), 3) := by decide +kernel
theorem dX9_weightedCount_65 : decode cX9_weightedCount 65 = .ok (.lload_n 1, 1) := by decide +kernel
theorem dX9_weightedCount_66 : decode cX9_weightedCount 66 = .ok (.lload 4, 2) := by decide +kernel
theorem dX9_weightedCount_68 : decode cX9_weightedCount 68 = .ok (.ladd, 1) := by decide +kernel
theorem dX9_weightedCount_69 : decode cX9_weightedCount 69 = .ok (.lstore_n 1, 1) := by decide +kernel
theorem dX9_weightedCount_70 : decode cX9_weightedCount 70 = .ok (.iinc 3 1, 3) := by decide +kernel
theorem dX9_weightedCount_73 : decode cX9_weightedCount 73 = .ok (.goto (-69), 3) := by decide +kernel
theorem dX9_weightedCount_76 : decode cX9_weightedCount 76 = .ok (.lload_n 1, 1) := by decide +kernel
theorem dX9_weightedCount_77 : decode cX9_weightedCount 77 = .ok (.lreturn, 1) := by decide +kernel
theorem dX9_shareBits_0 : decode cX9_shareBits 0 = .ok (.aload_n 0, 1) := by decide +kernel
theorem dX9_shareBits_1 : decode cX9_shareBits 1 = .ok (.invokevirtual 182, 3) := by decide +kernel
theorem dX9_shareBits_4 : decode cX9_shareBits 4 = .ok (.i2f, 1) := by decide +kernel
theorem dX9_shareBits_5 : decode cX9_shareBits 5 = .ok (.ldc 185, 2) := by decide +kernel
theorem dX9_shareBits_7 : decode cX9_shareBits 7 = .ok (.fdiv, 1) := by decide +kernel
theorem dX9_shareBits_8 : decode cX9_shareBits 8 = .ok (.invokestatic 186, 3) := by decide +kernel
theorem dX9_shareBits_11 : decode cX9_shareBits 11 = .ok (.ireturn, 1) := by decide +kernel
theorem dX9_implied_0 : decode cX9_implied 0 = .ok (.iload_n 1, 1) := by decide +kernel
theorem dX9_implied_1 : decode cX9_implied 1 = .ok (.iconst 1, 1) := by decide +kernel
theorem dX9_implied_2 : decode cX9_implied 2 = .ok (.if_icmp .eq 15, 3) := by decide +kernel
theorem dX9_implied_5 : decode cX9_implied 5 = .ok (.iload_n 1, 1) := by decide +kernel
theorem dX9_implied_6 : decode cX9_implied 6 = .ok (.iconst (-1), 1) := by decide +kernel
theorem dX9_implied_7 : decode cX9_implied 7 = .ok (.if_icmp .eq 10, 3) := by decide +kernel
theorem dX9_implied_10 : decode cX9_implied 10 = .ok (.aload_n 0, 1) := by decide +kernel
theorem dX9_implied_11 : decode cX9_implied 11 = .ok (.bipush (-2), 2) := by decide +kernel
theorem dX9_implied_13 : decode cX9_implied 13 = .ok (.invokevirtual 84, 3) := by decide +kernel
theorem dX9_implied_16 : decode cX9_implied 16 = .ok (.ireturn, 1) := by decide +kernel
theorem dX9_implied_17 : decode cX9_implied 17 = .ok (.sipush 1023, 3) := by decide +kernel
theorem dX9_implied_20 : decode cX9_implied 20 = .ok (.istore_n 2, 1) := by decide +kernel
theorem dX9_implied_21 : decode cX9_implied 21 = .ok (.iconst 0, 1) := by decide +kernel
theorem dX9_implied_22 : decode cX9_implied 22 = .ok (.istore_n 3, 1) := by decide +kernel
theorem dX9_implied_23 : decode cX9_implied 23 = .ok (.iload_n 3, 1) := by decide +kernel
theorem dX9_implied_24 : decode cX9_implied 24 = .ok (.sipush 1023, 3) := by decide +kernel
theorem dX9_implied_27 : decode cX9_implied 27 = .ok (.if_icmp .gt 32, 3) := by decide +kernel
theorem dX9_implied_30 : decode cX9_implied 30 = .ok (.aload_n 0, 1) := by decide +kernel
theorem dX9_implied_31 : decode cX9_implied 31 = .ok (.iload_n 3, 1) := by decide +kernel
theorem dX9_implied_32 : decode cX9_implied 32 = .ok (.invokevirtual 173, 3) := by decide +kernel
theorem dX9_implied_35 : decode cX9_implied 35 = .ok (.ifCond .eq 18, 3) := by decide +kernel
theorem dX9_implied_38 : decode cX9_implied 38 = .ok (.iload_n 2, 1) := by decide +kernel
theorem dX9_implied_39 : decode cX9_implied 39 = .ok (.iload_n 1, 1) := by decide +kernel
theorem dX9_implied_40 : decode cX9_implied 40 = .ok (.iconst 1, 1) := by decide +kernel
theorem dX9_implied_41 : decode cX9_implied 41 = .ok (.if_icmp .ne 7, 3) := by decide +kernel
theorem dX9_implied_44 : decode cX9_implied 44 = .ok (.iload_n 3, 1) := by decide +kernel
theorem dX9_implied_45 : decode cX9_implied 45 = .ok (.goto 6, 3) := by decide +kernel
theorem dX9_implied_48 : decode cX9_implied 48 = .ok (.iload_n 3, 1) := by decide +kernel
theorem dX9_implied_49 : decode cX9_implied 49 = .ok (.iconst (-1), 1) := by decide +kernel
theorem dX9_implied_50 : decode cX9_implied 50 = .ok (.ixor, 1) := by decide +kernel
theorem dX9_implied_51 : decode cX9_implied 51 = .ok (.iand, 1) := by decide +kernel
theorem dX9_implied_52 : decode cX9_implied 52 = .ok (.istore_n 2, 1) := by decide +kernel
theorem dX9_implied_53 : decode cX9_implied 53 = .ok (.iinc 3 1, 3) := by decide +kernel
theorem dX9_implied_56 : decode cX9_implied 56 = .ok (.goto (-33), 3) := by decide +kernel
theorem dX9_implied_59 : decode cX9_implied 59 = .ok (.iload_n 2, 1) := by decide +kernel
theorem dX9_implied_60 : decode cX9_implied 60 = .ok (.ireturn, 1) := by decide +kernel
theorem dX9_leastModel_0 : decode cX9_leastModel 0 = .ok (.iconst 0, 1) := by decide +kernel
theorem dX9_leastModel_1 : decode cX9_leastModel 1 = .ok (.istore_n 1, 1) := by decide +kernel
theorem dX9_leastModel_2 : decode cX9_leastModel 2 = .ok (.iload_n 1, 1) := by decide +kernel
theorem dX9_leastModel_3 : decode cX9_leastModel 3 = .ok (.sipush 1023, 3) := by decide +kernel
theorem dX9_leastModel_6 : decode cX9_leastModel 6 = .ok (.if_icmp .gt 19, 3) := by decide +kernel
theorem dX9_leastModel_9 : decode cX9_leastModel 9 = .ok (.aload_n 0, 1) := by decide +kernel
theorem dX9_leastModel_10 : decode cX9_leastModel 10 = .ok (.iload_n 1, 1) := by decide +kernel
theorem dX9_leastModel_11 : decode cX9_leastModel 11 = .ok (.invokevirtual 173, 3) := by decide +kernel
theorem dX9_leastModel_14 : decode cX9_leastModel 14 = .ok (.ifCond .eq 5, 3) := by decide +kernel
theorem dX9_leastModel_17 : decode cX9_leastModel 17 = .ok (.iload_n 1, 1) := by decide +kernel
theorem dX9_leastModel_18 : decode cX9_leastModel 18 = .ok (.ireturn, 1) := by decide +kernel
theorem dX9_leastModel_19 : decode cX9_leastModel 19 = .ok (.iinc 1 1, 3) := by decide +kernel
theorem dX9_leastModel_22 : decode cX9_leastModel 22 = .ok (.goto (-20), 3) := by decide +kernel
theorem dX9_leastModel_25 : decode cX9_leastModel 25 = .ok (.iconst (-1), 1) := by decide +kernel
theorem dX9_leastModel_26 : decode cX9_leastModel 26 = .ok (.ireturn, 1) := by decide +kernel
theorem dX9_literalBy_0 : decode cX9_literalBy 0 = .ok (.iload_n 0, 1) := by decide +kernel
theorem dX9_literalBy_1 : decode cX9_literalBy 1 = .ok (.iconst 2, 1) := by decide +kernel
theorem dX9_literalBy_2 : decode cX9_literalBy 2 = .ok (.irem, 1) := by decide +kernel
theorem dX9_literalBy_3 : decode cX9_literalBy 3 = .ok (.ifCond .ne 9, 3) := by decide +kernel
theorem dX9_literalBy_6 : decode cX9_literalBy 6 = .ok (.iload_n 0, 1) := by decide +kernel
theorem dX9_literalBy_7 : decode cX9_literalBy 7 = .ok (.iconst 2, 1) := by decide +kernel
theorem dX9_literalBy_8 : decode cX9_literalBy 8 = .ok (.idiv, 1) := by decide +kernel
theorem dX9_literalBy_9 : decode cX9_literalBy 9 = .ok (.goto 7, 3) := by decide +kernel
theorem dX9_literalBy_12 : decode cX9_literalBy 12 = .ok (.iload_n 0, 1) := by decide +kernel
theorem dX9_literalBy_13 : decode cX9_literalBy 13 = .ok (.iconst 2, 1) := by decide +kernel
theorem dX9_literalBy_14 : decode cX9_literalBy 14 = .ok (.idiv, 1) := by decide +kernel
theorem dX9_literalBy_15 : decode cX9_literalBy 15 = .ok (.ineg, 1) := by decide +kernel
theorem dX9_literalBy_16 : decode cX9_literalBy 16 = .ok (.ireturn, 1) := by decide +kernel
theorem dX9_explains_0 : decode cX9_explains 0 = .ok (.aload_n 0, 1) := by decide +kernel
theorem dX9_explains_1 : decode cX9_explains 1 = .ok (.iload_n 1, 1) := by decide +kernel
theorem dX9_explains_2 : decode cX9_explains 2 = .ok (.invokevirtual 179, 3) := by decide +kernel
theorem dX9_explains_5 : decode cX9_explains 5 = .ok (.istore_n 3, 1) := by decide +kernel
theorem dX9_explains_6 : decode cX9_explains 6 = .ok (.iload_n 3, 1) := by decide +kernel
theorem dX9_explains_7 : decode cX9_explains 7 = .ok (.ifCond .le 21, 3) := by decide +kernel
theorem dX9_explains_10 : decode cX9_explains 10 = .ok (.aload_n 0, 1) := by decide +kernel
theorem dX9_explains_11 : decode cX9_explains 11 = .ok (.iload_n 1, 1) := by decide +kernel
theorem dX9_explains_12 : decode cX9_explains 12 = .ok (.iload_n 2, 1) := by decide +kernel
theorem dX9_explains_13 : decode cX9_explains 13 = .ok (.invokestatic 88, 3) := by decide +kernel
theorem dX9_explains_16 : decode cX9_explains 16 = .ok (.ior, 1) := by decide +kernel
theorem dX9_explains_17 : decode cX9_explains 17 = .ok (.invokevirtual 179, 3) := by decide +kernel
theorem dX9_explains_20 : decode cX9_explains 20 = .ok (.iload_n 3, 1) := by decide +kernel
theorem dX9_explains_21 : decode cX9_explains 21 = .ok (.if_icmp .ne 7, 3) := by decide +kernel
theorem dX9_explains_24 : decode cX9_explains 24 = .ok (.iconst 1, 1) := by decide +kernel
theorem dX9_explains_25 : decode cX9_explains 25 = .ok (.goto 4, 3) := by decide +kernel
theorem dX9_explains_28 : decode cX9_explains 28 = .ok (.iconst 0, 1) := by decide +kernel
theorem dX9_explains_29 : decode cX9_explains 29 = .ok (.ireturn, 1) := by decide +kernel
theorem dX9_mayBe_0 : decode cX9_mayBe 0 = .ok (.iload_n 1, 1) := by decide +kernel
theorem dX9_mayBe_1 : decode cX9_mayBe 1 = .ok (.invokestatic 192, 3) := by decide +kernel
theorem dX9_mayBe_4 : decode cX9_mayBe 4 = .ok (.invokestatic 88, 3) := by decide +kernel
theorem dX9_mayBe_7 : decode cX9_mayBe 7 = .ok (.invokestatic 91, 3) := by decide +kernel
theorem dX9_mayBe_10 : decode cX9_mayBe 10 = .ok (.istore 4, 2) := by decide +kernel
theorem dX9_mayBe_12 : decode cX9_mayBe 12 = .ok (.iload 4, 2) := by decide +kernel
theorem dX9_mayBe_14 : decode cX9_mayBe 14 = .ok (.iload_n 2, 1) := by decide +kernel
theorem dX9_mayBe_15 : decode cX9_mayBe 15 = .ok (.invokestatic 91, 3) := by decide +kernel
theorem dX9_mayBe_18 : decode cX9_mayBe 18 = .ok (.aload_n 0, 1) := by decide +kernel
theorem dX9_mayBe_19 : decode cX9_mayBe 19 = .ok (.invokevirtual 107, 3) := by decide +kernel
theorem dX9_mayBe_22 : decode cX9_mayBe 22 = .ok (.ior, 1) := by decide +kernel
theorem dX9_mayBe_23 : decode cX9_mayBe 23 = .ok (.iload_n 3, 1) := by decide +kernel
theorem dX9_mayBe_24 : decode cX9_mayBe 24 = .ok (.invokestatic 88, 3) := by decide +kernel
theorem dX9_mayBe_27 : decode cX9_mayBe 27 = .ok (.invokestatic 91, 3) := by decide +kernel
theorem dX9_mayBe_30 : decode cX9_mayBe 30 = .ok (.ior, 1) := by decide +kernel
theorem dX9_mayBe_31 : decode cX9_mayBe 31 = .ok (.iand, 1) := by decide +kernel
theorem dX9_mayBe_32 : decode cX9_mayBe 32 = .ok (.ifCond .ne 7, 3) := by decide +kernel
theorem dX9_mayBe_35 : decode cX9_mayBe 35 = .ok (.iconst 1, 1) := by decide +kernel
theorem dX9_mayBe_36 : decode cX9_mayBe 36 = .ok (.goto 4, 3) := by decide +kernel
theorem dX9_mayBe_39 : decode cX9_mayBe 39 = .ok (.iconst 0, 1) := by decide +kernel
theorem dX9_mayBe_40 : decode cX9_mayBe 40 = .ok (.ireturn, 1) := by decide +kernel
theorem dX9_explained_0 : decode cX9_explained 0 = .ok (.aload_n 0, 1) := by decide +kernel
theorem dX9_explained_1 : decode cX9_explained 1 = .ok (.iconst 0, 1) := by decide +kernel
theorem dX9_explained_2 : decode cX9_explained 2 = .ok (.iload_n 1, 1) := by decide +kernel
theorem dX9_explained_3 : decode cX9_explained 3 = .ok (.invokevirtual 195, 3) := by decide +kernel
theorem dX9_explained_6 : decode cX9_explained 6 = .ok (.ifCond .eq 5, 3) := by decide +kernel
theorem dX9_explained_9 : decode cX9_explained 9 = .ok (.iconst 0, 1) := by decide +kernel
theorem dX9_explained_10 : decode cX9_explained 10 = .ok (.ireturn, 1) := by decide +kernel
theorem dX9_explained_11 : decode cX9_explained 11 = .ok (.iconst 1, 1) := by decide +kernel
theorem dX9_explained_12 : decode cX9_explained 12 = .ok (.istore_n 2, 1) := by decide +kernel
theorem dX9_explained_13 : decode cX9_explained 13 = .ok (.iload_n 2, 1) := by decide +kernel
theorem dX9_explained_14 : decode cX9_explained 14 = .ok (.iconst 4, 1) := by decide +kernel
theorem dX9_explained_15 : decode cX9_explained 15 = .ok (.if_icmp .ge 90, 3) := by decide +kernel
theorem dX9_explained_18 : decode cX9_explained 18 = .ok (.iconst 2, 1) := by decide +kernel
theorem dX9_explained_19 : decode cX9_explained 19 = .ok (.istore_n 3, 1) := by decide +kernel
theorem dX9_explained_20 : decode cX9_explained 20 = .ok (.iload_n 3, 1) := by decide +kernel
theorem dX9_explained_21 : decode cX9_explained 21 = .ok (.bipush 22, 2) := by decide +kernel
theorem dX9_explained_23 : decode cX9_explained 23 = .ok (.if_icmp .ge 76, 3) := by decide +kernel
theorem dX9_explained_26 : decode cX9_explained 26 = .ok (.iload_n 3, 1) := by decide +kernel
theorem dX9_explained_27 : decode cX9_explained 27 = .ok (.invokestatic 192, 3) := by decide +kernel
theorem dX9_explained_30 : decode cX9_explained 30 = .ok (.invokestatic 88, 3) := by decide +kernel
theorem dX9_explained_33 : decode cX9_explained 33 = .ok (.istore 4, 2) := by decide +kernel
theorem dX9_explained_35 : decode cX9_explained 35 = .ok (.aload_n 0, 1) := by decide +kernel
theorem dX9_explained_36 : decode cX9_explained 36 = .ok (.iload_n 3, 1) := by decide +kernel
theorem dX9_explained_37 : decode cX9_explained 37 = .ok (.iconst 0, 1) := by decide +kernel
theorem dX9_explained_38 : decode cX9_explained 38 = .ok (.iload_n 1, 1) := by decide +kernel
theorem dX9_explained_39 : decode cX9_explained 39 = .ok (.invokevirtual 199, 3) := by decide +kernel
theorem dX9_explained_42 : decode cX9_explained 42 = .ok (.ifCond .eq 51, 3) := by decide +kernel
theorem dX9_explained_45 : decode cX9_explained 45 = .ok (.iload_n 2, 1) := by decide +kernel
theorem dX9_explained_46 : decode cX9_explained 46 = .ok (.iconst 1, 1) := by decide +kernel
theorem dX9_explained_47 : decode cX9_explained 47 = .ok (.if_icmp .ne 18, 3) := by decide +kernel
theorem dX9_explained_50 : decode cX9_explained 50 = .ok (.aload_n 0, 1) := by decide +kernel
theorem dX9_explained_51 : decode cX9_explained 51 = .ok (.iload 4, 2) := by decide +kernel
theorem dX9_explained_53 : decode cX9_explained 53 = .ok (.iload_n 1, 1) := by decide +kernel
theorem dX9_explained_54 : decode cX9_explained 54 = .ok (.invokevirtual 195, 3) := by decide +kernel
theorem dX9_explained_57 : decode cX9_explained 57 = .ok (.ifCond .eq 8, 3) := by decide +kernel
theorem dX9_explained_60 : decode cX9_explained 60 = .ok (.ldc 203, 2) := by decide +kernel
theorem dX9_explained_62 : decode cX9_explained 62 = .ok (.iload_n 3, 1) := by decide +kernel
theorem dX9_explained_63 : decode cX9_explained 63 = .ok (.iadd, 1) := by decide +kernel
theorem dX9_explained_64 : decode cX9_explained 64 = .ok (.ireturn, 1) := by decide +kernel
theorem dX9_explained_65 : decode cX9_explained 65 = .ok (.iload_n 2, 1) := by decide +kernel
theorem dX9_explained_66 : decode cX9_explained 66 = .ok (.iconst 1, 1) := by decide +kernel
theorem dX9_explained_67 : decode cX9_explained 67 = .ok (.if_icmp .ne 7, 3) := by decide +kernel
theorem dX9_explained_70 : decode cX9_explained 70 = .ok (.iconst (-1), 1) := by decide +kernel
theorem dX9_explained_71 : decode cX9_explained 71 = .ok (.goto 12, 3) := by decide +kernel
theorem dX9_explained_74 : decode cX9_explained 74 = .ok (.aload_n 0, 1) := by decide +kernel
theorem dX9_explained_75 : decode cX9_explained 75 = .ok (.iload_n 2, 1) := by decide +kernel
theorem dX9_explained_76 : decode cX9_explained 76 = .ok (.iload_n 3, 1) := by decide +kernel
theorem dX9_explained_77 : decode cX9_explained 77 = .ok (.iload 4, 2) := by decide +kernel
theorem dX9_explained_79 : decode cX9_explained 79 = .ok (.iload_n 1, 1) := by decide +kernel
theorem dX9_explained_80 : decode cX9_explained 80 = .ok (.invokevirtual 204, 3) := by decide +kernel
theorem dX9_explained_83 : decode cX9_explained 83 = .ok (.istore 5, 2) := by decide +kernel
theorem dX9_explained_85 : decode cX9_explained 85 = .ok (.iload 5, 2) := by decide +kernel
theorem dX9_explained_87 : decode cX9_explained 87 = .ok (.ifCond .lt 6, 3) := by decide +kernel
theorem dX9_explained_90 : decode cX9_explained 90 = .ok (.iload 5, 2) := by decide +kernel
theorem dX9_explained_92 : decode cX9_explained 92 = .ok (.ireturn, 1) := by decide +kernel
theorem dX9_explained_93 : decode cX9_explained 93 = .ok (.iinc 3 1, 3) := by decide +kernel
theorem dX9_explained_96 : decode cX9_explained 96 = .ok (.goto (-76), 3) := by decide +kernel
theorem dX9_explained_99 : decode cX9_explained 99 = .ok (.iinc 2 1, 3) := by decide +kernel
theorem dX9_explained_102 : decode cX9_explained 102 = .ok (.goto (-89), 3) := by decide +kernel
theorem dX9_explained_105 : decode cX9_explained 105 = .ok (.iconst (-1), 1) := by decide +kernel
theorem dX9_explained_106 : decode cX9_explained 106 = .ok (.ireturn, 1) := by decide +kernel
theorem dX9_explainedFrom_0 : decode cX9_explainedFrom 0 = .ok (.iload_n 2, 1) := by decide +kernel
theorem dX9_explainedFrom_1 : decode cX9_explainedFrom 1 = .ok (.iconst 1, 1) := by decide +kernel
theorem dX9_explainedFrom_2 : decode cX9_explainedFrom 2 = .ok (.iadd, 1) := by decide +kernel
theorem dX9_explainedFrom_3 : decode cX9_explainedFrom 3 = .ok (.istore 5, 2) := by decide +kernel
theorem dX9_explainedFrom_5 : decode cX9_explainedFrom 5 = .ok (.iload 5, 2) := by decide +kernel
theorem dX9_explainedFrom_7 : decode cX9_explainedFrom 7 = .ok (.bipush 22, 2) := by decide +kernel
theorem dX9_explainedFrom_9 : decode cX9_explainedFrom 9 = .ok (.if_icmp .ge 135, 3) := by decide +kernel
theorem dX9_explainedFrom_12 : decode cX9_explainedFrom 12 = .ok (.aload_n 0, 1) := by decide +kernel
theorem dX9_explainedFrom_13 : decode cX9_explainedFrom 13 = .ok (.iload 5, 2) := by decide +kernel
theorem dX9_explainedFrom_15 : decode cX9_explainedFrom 15 = .ok (.iload_n 3, 1) := by decide +kernel
theorem dX9_explainedFrom_16 : decode cX9_explainedFrom 16 = .ok (.iload 4, 2) := by decide +kernel
theorem dX9_explainedFrom_18 : decode cX9_explainedFrom 18 = .ok (.invokevirtual 199, 3) := by decide +kernel
theorem dX9_explainedFrom_21 : decode cX9_explainedFrom 21 = .ok (.ifCond .eq 117, 3) := by decide +kernel
theorem dX9_explainedFrom_24 : decode cX9_explainedFrom 24 = .ok (.iload_n 3, 1) := by decide +kernel
theorem dX9_explainedFrom_25 : decode cX9_explainedFrom 25 = .ok (.iload 5, 2) := by decide +kernel
theorem dX9_explainedFrom_27 : decode cX9_explainedFrom 27 = .ok (.invokestatic 192, 3) := by decide +kernel
theorem dX9_explainedFrom_30 : decode cX9_explainedFrom 30 = .ok (.invokestatic 88, 3) := by decide +kernel
theorem dX9_explainedFrom_33 : decode cX9_explainedFrom 33 = .ok (.ior, 1) := by decide +kernel
theorem dX9_explainedFrom_34 : decode cX9_explainedFrom 34 = .ok (.istore 6, 2) := by decide +kernel
theorem dX9_explainedFrom_36 : decode cX9_explainedFrom 36 = .ok (.iload_n 1, 1) := by decide +kernel
theorem dX9_explainedFrom_37 : decode cX9_explainedFrom 37 = .ok (.iconst 2, 1) := by decide +kernel
theorem dX9_explainedFrom_38 : decode cX9_explainedFrom 38 = .ok (.if_icmp .ne 25, 3) := by decide +kernel
theorem dX9_explainedFrom_41 : decode cX9_explainedFrom 41 = .ok (.aload_n 0, 1) := by decide +kernel
theorem dX9_explainedFrom_42 : decode cX9_explainedFrom 42 = .ok (.iload 6, 2) := by decide +kernel
theorem dX9_explainedFrom_44 : decode cX9_explainedFrom 44 = .ok (.iload 4, 2) := by decide +kernel
theorem dX9_explainedFrom_46 : decode cX9_explainedFrom 46 = .ok (.invokevirtual 195, 3) := by decide +kernel
theorem dX9_explainedFrom_49 : decode cX9_explainedFrom 49 = .ok (.ifCond .eq 14, 3) := by decide +kernel
theorem dX9_explainedFrom_52 : decode cX9_explainedFrom 52 = .ok (.ldc 208, 2) := by decide +kernel
theorem dX9_explainedFrom_54 : decode cX9_explainedFrom 54 = .ok (.bipush 32, 2) := by decide +kernel
theorem dX9_explainedFrom_56 : decode cX9_explainedFrom 56 = .ok (.iload 5, 2) := by decide +kernel
theorem dX9_explainedFrom_58 : decode cX9_explainedFrom 58 = .ok (.imul, 1) := by decide +kernel
theorem dX9_explainedFrom_59 : decode cX9_explainedFrom 59 = .ok (.iadd, 1) := by decide +kernel
theorem dX9_explainedFrom_60 : decode cX9_explainedFrom 60 = .ok (.iload_n 2, 1) := by decide +kernel
theorem dX9_explainedFrom_61 : decode cX9_explainedFrom 61 = .ok (.iadd, 1) := by decide +kernel
theorem dX9_explainedFrom_62 : decode cX9_explainedFrom 62 = .ok (.ireturn, 1) := by decide +kernel
theorem dX9_explainedFrom_63 : decode cX9_explainedFrom 63 = .ok (.iload 5, 2) := by decide +kernel
theorem dX9_explainedFrom_65 : decode cX9_explainedFrom 65 = .ok (.iconst 1, 1) := by decide +kernel
theorem dX9_explainedFrom_66 : decode cX9_explainedFrom 66 = .ok (.iadd, 1) := by decide +kernel
theorem dX9_explainedFrom_67 : decode cX9_explainedFrom 67 = .ok (.istore 7, 2) := by decide +kernel
theorem dX9_explainedFrom_69 : decode cX9_explainedFrom 69 = .ok (.iload 7, 2) := by decide +kernel
theorem dX9_explainedFrom_71 : decode cX9_explainedFrom 71 = .ok (.bipush 22, 2) := by decide +kernel
theorem dX9_explainedFrom_73 : decode cX9_explainedFrom 73 = .ok (.if_icmp .ge 65, 3) := by decide +kernel
theorem dX9_explainedFrom_76 : decode cX9_explainedFrom 76 = .ok (.iload_n 1, 1) := by decide +kernel
theorem dX9_explainedFrom_77 : decode cX9_explainedFrom 77 = .ok (.iconst 3, 1) := by decide +kernel
theorem dX9_explainedFrom_78 : decode cX9_explainedFrom 78 = .ok (.if_icmp .ne 60, 3) := by decide +kernel
theorem dX9_explainedFrom_81 : decode cX9_explainedFrom 81 = .ok (.aload_n 0, 1) := by decide +kernel
theorem dX9_explainedFrom_82 : decode cX9_explainedFrom 82 = .ok (.iload 7, 2) := by decide +kernel
theorem dX9_explainedFrom_84 : decode cX9_explainedFrom 84 = .ok (.iload 6, 2) := by decide +kernel
theorem dX9_explainedFrom_86 : decode cX9_explainedFrom 86 = .ok (.iload 4, 2) := by decide +kernel
theorem dX9_explainedFrom_88 : decode cX9_explainedFrom 88 = .ok (.invokevirtual 199, 3) := by decide +kernel
theorem dX9_explainedFrom_91 : decode cX9_explainedFrom 91 = .ok (.ifCond .eq 41, 3) := by decide +kernel
theorem dX9_explainedFrom_94 : decode cX9_explainedFrom 94 = .ok (.aload_n 0, 1) := by decide +kernel
theorem dX9_explainedFrom_95 : decode cX9_explainedFrom 95 = .ok (.iload 6, 2) := by decide +kernel
theorem dX9_explainedFrom_97 : decode cX9_explainedFrom 97 = .ok (.iload 7, 2) := by decide +kernel
theorem dX9_explainedFrom_99 : decode cX9_explainedFrom 99 = .ok (.invokestatic 192, 3) := by decide +kernel
theorem dX9_explainedFrom_102 : decode cX9_explainedFrom 102 = .ok (.invokestatic 88, 3) := by decide +kernel
theorem dX9_explainedFrom_105 : decode cX9_explainedFrom 105 = .ok (.ior, 1) := by decide +kernel
theorem dX9_explainedFrom_106 : decode cX9_explainedFrom 106 = .ok (.iload 4, 2) := by decide +kernel
theorem dX9_explainedFrom_108 : decode cX9_explainedFrom 108 = .ok (.invokevirtual 195, 3) := by decide +kernel
theorem dX9_explainedFrom_111 : decode cX9_explainedFrom 111 = .ok (.ifCond .eq 21, 3) := by decide +kernel
theorem dX9_explainedFrom_114 : decode cX9_explainedFrom 114 = .ok (.ldc 209, 2) := by decide +kernel
theorem dX9_explainedFrom_116 : decode cX9_explainedFrom 116 = .ok (.sipush 1024, 3) := by decide +kernel
theorem dX9_explainedFrom_119 : decode cX9_explainedFrom 119 = .ok (.iload 7, 2) := by decide +kernel
theorem dX9_explainedFrom_121 : decode cX9_explainedFrom 121 = .ok (.imul, 1) := by decide +kernel
theorem dX9_explainedFrom_122 : decode cX9_explainedFrom 122 = .ok (.iadd, 1) := by decide +kernel
theorem dX9_explainedFrom_123 : decode cX9_explainedFrom 123 = .ok (.bipush 32, 2) := by decide +kernel
theorem dX9_explainedFrom_125 : decode cX9_explainedFrom 125 = .ok (.iload 5, 2) := by decide +kernel
theorem dX9_explainedFrom_127 : decode cX9_explainedFrom 127 = .ok (.imul, 1) := by decide +kernel
theorem dX9_explainedFrom_128 : decode cX9_explainedFrom 128 = .ok (.iadd, 1) := by decide +kernel
theorem dX9_explainedFrom_129 : decode cX9_explainedFrom 129 = .ok (.iload_n 2, 1) := by decide +kernel
theorem dX9_explainedFrom_130 : decode cX9_explainedFrom 130 = .ok (.iadd, 1) := by decide +kernel
theorem dX9_explainedFrom_131 : decode cX9_explainedFrom 131 = .ok (.ireturn, 1) := by decide +kernel
theorem dX9_explainedFrom_132 : decode cX9_explainedFrom 132 = .ok (.iinc 7 1, 3) := by decide +kernel
theorem dX9_explainedFrom_135 : decode cX9_explainedFrom 135 = .ok (.goto (-66), 3) := by decide +kernel
theorem dX9_explainedFrom_138 : decode cX9_explainedFrom 138 = .ok (.iinc 5 1, 3) := by decide +kernel
theorem dX9_explainedFrom_141 : decode cX9_explainedFrom 141 = .ok (.goto (-136), 3) := by decide +kernel
theorem dX9_explainedFrom_144 : decode cX9_explainedFrom 144 = .ok (.iconst (-1), 1) := by decide +kernel
theorem dX9_explainedFrom_145 : decode cX9_explainedFrom 145 = .ok (.ireturn, 1) := by decide +kernel
theorem dX9_explanation_0 : decode cX9_explanation 0 = .ok (.iload_n 1, 1) := by decide +kernel
theorem dX9_explanation_1 : decode cX9_explanation 1 = .ok (.invokestatic 104, 3) := by decide +kernel
theorem dX9_explanation_4 : decode cX9_explanation 4 = .ok (.ifCond .eq 17, 3) := by decide +kernel
theorem dX9_explanation_7 : decode cX9_explanation 7 = .ok (.iload_n 2, 1) := by decide +kernel
theorem dX9_explanation_8 : decode cX9_explanation 8 = .ok (.i2l, 1) := by decide +kernel
theorem dX9_explanation_9 : decode cX9_explanation 9 = .ok (.ldc2_w 210, 3) := by decide +kernel
theorem dX9_explanation_12 : decode cX9_explanation 12 = .ok (.ldc2_w 212, 3) := by decide +kernel
theorem dX9_explanation_15 : decode cX9_explanation 15 = .ok (.invokestatic 69, 3) := by decide +kernel
theorem dX9_explanation_18 : decode cX9_explanation 18 = .ok (.ifCond .ne 16, 3) := by decide +kernel
theorem dX9_explanation_21 : decode cX9_explanation 21 = .ok (.aload_n 0, 1) := by decide +kernel
theorem dX9_explanation_22 : decode cX9_explanation 22 = .ok (.getfield 16, 3) := by decide +kernel
theorem dX9_explanation_25 : decode cX9_explanation 25 = .ok (.iconst 0, 1) := by decide +kernel
theorem dX9_explanation_26 : decode cX9_explanation 26 = .ok (.dup2, 1) := by decide +kernel
theorem dX9_explanation_27 : decode cX9_explanation 27 = .ok (.iaload, 1) := by decide +kernel
theorem dX9_explanation_28 : decode cX9_explanation 28 = .ok (.iconst 1, 1) := by decide +kernel
theorem dX9_explanation_29 : decode cX9_explanation 29 = .ok (.iadd, 1) := by decide +kernel
theorem dX9_explanation_30 : decode cX9_explanation 30 = .ok (.iastore, 1) := by decide +kernel
theorem dX9_explanation_31 : decode cX9_explanation 31 = .ok (.bipush (-102), 2) := by decide +kernel
theorem dX9_explanation_33 : decode cX9_explanation 33 = .ok (.ireturn, 1) := by decide +kernel
theorem dX9_explanation_34 : decode cX9_explanation 34 = .ok (.aload_n 0, 1) := by decide +kernel
theorem dX9_explanation_35 : decode cX9_explanation 35 = .ok (.iload_n 1, 1) := by decide +kernel
theorem dX9_explanation_36 : decode cX9_explanation 36 = .ok (.invokevirtual 214, 3) := by decide +kernel
theorem dX9_explanation_39 : decode cX9_explanation 39 = .ok (.istore_n 3, 1) := by decide +kernel
theorem dX9_explanation_40 : decode cX9_explanation 40 = .ok (.iload_n 2, 1) := by decide +kernel
theorem dX9_explanation_41 : decode cX9_explanation 41 = .ok (.ifCond .ge 16, 3) := by decide +kernel
theorem dX9_explanation_44 : decode cX9_explanation 44 = .ok (.iload_n 3, 1) := by decide +kernel
theorem dX9_explanation_45 : decode cX9_explanation 45 = .ok (.ifCond .ge 7, 3) := by decide +kernel
theorem dX9_explanation_48 : decode cX9_explanation 48 = .ok (.iconst (-1), 1) := by decide +kernel
theorem dX9_explanation_49 : decode cX9_explanation 49 = .ok (.goto 7, 3) := by decide +kernel
theorem dX9_explanation_52 : decode cX9_explanation 52 = .ok (.iload_n 3, 1) := by decide +kernel
theorem dX9_explanation_53 : decode cX9_explanation 53 = .ok (.ldc 203, 2) := by decide +kernel
theorem dX9_explanation_55 : decode cX9_explanation 55 = .ok (.idiv, 1) := by decide +kernel
theorem dX9_explanation_56 : decode cX9_explanation 56 = .ok (.ireturn, 1) := by decide +kernel
theorem dX9_explanation_57 : decode cX9_explanation 57 = .ok (.iload_n 3, 1) := by decide +kernel
theorem dX9_explanation_58 : decode cX9_explanation 58 = .ok (.ifCond .lt 11, 3) := by decide +kernel
theorem dX9_explanation_61 : decode cX9_explanation 61 = .ok (.iload_n 2, 1) := by decide +kernel
theorem dX9_explanation_62 : decode cX9_explanation 62 = .ok (.iload_n 3, 1) := by decide +kernel
theorem dX9_explanation_63 : decode cX9_explanation 63 = .ok (.ldc 203, 2) := by decide +kernel
theorem dX9_explanation_65 : decode cX9_explanation 65 = .ok (.idiv, 1) := by decide +kernel
theorem dX9_explanation_66 : decode cX9_explanation 66 = .ok (.if_icmp .lt 5, 3) := by decide +kernel
theorem dX9_explanation_69 : decode cX9_explanation 69 = .ok (.iconst 0, 1) := by decide +kernel
theorem dX9_explanation_70 : decode cX9_explanation 70 = .ok (.ireturn, 1) := by decide +kernel
theorem dX9_explanation_71 : decode cX9_explanation 71 = .ok (.iload_n 3, 1) := by decide +kernel
theorem dX9_explanation_72 : decode cX9_explanation 72 = .ok (.ldc 203, 2) := by decide +kernel
theorem dX9_explanation_74 : decode cX9_explanation 74 = .ok (.irem, 1) := by decide +kernel
theorem dX9_explanation_75 : decode cX9_explanation 75 = .ok (.iconst 5, 1) := by decide +kernel
theorem dX9_explanation_76 : decode cX9_explanation 76 = .ok (.iload_n 2, 1) := by decide +kernel
theorem dX9_explanation_77 : decode cX9_explanation 77 = .ok (.imul, 1) := by decide +kernel
theorem dX9_explanation_78 : decode cX9_explanation 78 = .ok (.ishr, 1) := by decide +kernel
theorem dX9_explanation_79 : decode cX9_explanation 79 = .ok (.bipush 31, 2) := by decide +kernel
theorem dX9_explanation_81 : decode cX9_explanation 81 = .ok (.iand, 1) := by decide +kernel
theorem dX9_explanation_82 : decode cX9_explanation 82 = .ok (.invokestatic 192, 3) := by decide +kernel
theorem dX9_explanation_85 : decode cX9_explanation 85 = .ok (.ireturn, 1) := by decide +kernel
theorem dX9_append_0 : decode cX9_append 0 = .ok (.iload_n 1, 1) := by decide +kernel
theorem dX9_append_1 : decode cX9_append 1 = .ok (.i2l, 1) := by decide +kernel
theorem dX9_append_2 : decode cX9_append 2 = .ok (.lconst 0, 1) := by decide +kernel
theorem dX9_append_3 : decode cX9_append 3 = .ok (.ldc2_w 217, 3) := by decide +kernel
theorem dX9_append_6 : decode cX9_append 6 = .ok (.invokestatic 69, 3) := by decide +kernel
theorem dX9_append_9 : decode cX9_append 9 = .ok (.ifCond .ne 10, 3) := by decide +kernel
theorem dX9_append_12 : decode cX9_append 12 = .ok (.aload_n 0, 1) := by decide +kernel
theorem dX9_append_13 : decode cX9_append 13 = .ok (.bipush (-2), 2) := by decide +kernel
theorem dX9_append_15 : decode cX9_append 15 = .ok (.invokevirtual 84, 3) := by decide +kernel
theorem dX9_append_18 : decode cX9_append 18 = .ok (.ireturn, 1) := by decide +kernel
theorem dX9_append_19 : decode cX9_append 19 = .ok (.aload_n 0, 1) := by decide +kernel
theorem dX9_append_20 : decode cX9_append 20 = .ok (.getfield 219, 3) := by decide +kernel
theorem dX9_append_23 : decode cX9_append 23 = .ok (.sipush 150, 3) := by decide +kernel
theorem dX9_append_26 : decode cX9_append 26 = .ok (.if_icmp .ne 10, 3) := by decide +kernel
theorem dX9_append_29 : decode cX9_append 29 = .ok (.aload_n 0, 1) := by decide +kernel
theorem dX9_append_30 : decode cX9_append 30 = .ok (.bipush (-4), 2) := by decide +kernel
theorem dX9_append_32 : decode cX9_append 32 = .ok (.invokevirtual 84, 3) := by decide +kernel
theorem dX9_append_35 : decode cX9_append 35 = .ok (.ireturn, 1) := by decide +kernel
theorem dX9_append_36 : decode cX9_append 36 = .ok (.aload_n 0, 1) := by decide +kernel
theorem dX9_append_37 : decode cX9_append 37 = .ok (.getfield 19, 3) := by decide +kernel
theorem dX9_append_40 : decode cX9_append 40 = .ok (.aload_n 0, 1) := by decide +kernel
theorem dX9_append_41 : decode cX9_append 41 = .ok (.getfield 219, 3) := by decide +kernel
theorem dX9_append_44 : decode cX9_append 44 = .ok (.iload_n 1, 1) := by decide +kernel
theorem dX9_append_45 : decode cX9_append 45 = .ok (.iastore, 1) := by decide +kernel
theorem dX9_append_46 : decode cX9_append 46 = .ok (.aload_n 0, 1) := by decide +kernel
theorem dX9_append_47 : decode cX9_append 47 = .ok (.dup, 1) := by decide +kernel
theorem dX9_append_48 : decode cX9_append 48 = .ok (.getfield 219, 3) := by decide +kernel
theorem dX9_append_51 : decode cX9_append 51 = .ok (.iconst 1, 1) := by decide +kernel
theorem dX9_append_52 : decode cX9_append 52 = .ok (.iadd, 1) := by decide +kernel
theorem dX9_append_53 : decode cX9_append 53 = .ok (.putfield 219, 3) := by decide +kernel
theorem dX9_append_56 : decode cX9_append 56 = .ok (.aload_n 0, 1) := by decide +kernel
theorem dX9_append_57 : decode cX9_append 57 = .ok (.getfield 219, 3) := by decide +kernel
theorem dX9_append_60 : decode cX9_append 60 = .ok (.ireturn, 1) := by decide +kernel
theorem dX9_clearText_0 : decode cX9_clearText 0 = .ok (.aload_n 0, 1) := by decide +kernel
theorem dX9_clearText_1 : decode cX9_clearText 1 = .ok (.getfield 219, 3) := by decide +kernel
theorem dX9_clearText_4 : decode cX9_clearText 4 = .ok (.istore_n 1, 1) := by decide +kernel
theorem dX9_clearText_5 : decode cX9_clearText 5 = .ok (.aload_n 0, 1) := by decide +kernel
theorem dX9_clearText_6 : decode cX9_clearText 6 = .ok (.iconst 0, 1) := by decide +kernel
theorem dX9_clearText_7 : decode cX9_clearText 7 = .ok (.putfield 219, 3) := by decide +kernel
theorem dX9_clearText_10 : decode cX9_clearText 10 = .ok (.iload_n 1, 1) := by decide +kernel
theorem dX9_clearText_11 : decode cX9_clearText 11 = .ok (.ireturn, 1) := by decide +kernel
theorem dX9_byteAt_0 : decode cX9_byteAt 0 = .ok (.iload_n 1, 1) := by decide +kernel
theorem dX9_byteAt_1 : decode cX9_byteAt 1 = .ok (.aload_n 0, 1) := by decide +kernel
theorem dX9_byteAt_2 : decode cX9_byteAt 2 = .ok (.getfield 219, 3) := by decide +kernel
theorem dX9_byteAt_5 : decode cX9_byteAt 5 = .ok (.if_icmp .ge 12, 3) := by decide +kernel
theorem dX9_byteAt_8 : decode cX9_byteAt 8 = .ok (.aload_n 0, 1) := by decide +kernel
theorem dX9_byteAt_9 : decode cX9_byteAt 9 = .ok (.getfield 19, 3) := by decide +kernel
theorem dX9_byteAt_12 : decode cX9_byteAt 12 = .ok (.iload_n 1, 1) := by decide +kernel
theorem dX9_byteAt_13 : decode cX9_byteAt 13 = .ok (.iaload, 1) := by decide +kernel
theorem dX9_byteAt_14 : decode cX9_byteAt 14 = .ok (.goto 4, 3) := by decide +kernel
theorem dX9_byteAt_17 : decode cX9_byteAt 17 = .ok (.iconst (-1), 1) := by decide +kernel
theorem dX9_byteAt_18 : decode cX9_byteAt 18 = .ok (.ireturn, 1) := by decide +kernel
theorem dX9_isFigure_0 : decode cX9_isFigure 0 = .ok (.iload_n 0, 1) := by decide +kernel
theorem dX9_isFigure_1 : decode cX9_isFigure 1 = .ok (.i2l, 1) := by decide +kernel
theorem dX9_isFigure_2 : decode cX9_isFigure 2 = .ok (.ldc2_w 222, 3) := by decide +kernel
theorem dX9_isFigure_5 : decode cX9_isFigure 5 = .ok (.ldc2_w 224, 3) := by decide +kernel
theorem dX9_isFigure_8 : decode cX9_isFigure 8 = .ok (.invokestatic 69, 3) := by decide +kernel
theorem dX9_isFigure_11 : decode cX9_isFigure 11 = .ok (.ireturn, 1) := by decide +kernel
theorem dX9_literalHere_0 : decode cX9_literalHere 0 = .ok (.aload_n 0, 1) := by decide +kernel
theorem dX9_literalHere_1 : decode cX9_literalHere 1 = .ok (.getfield 226, 3) := by decide +kernel
