theorem dX0_init_0 : decode cX0_init 0 = .ok (.aload_n 0, 1) := by decide +kernel
theorem dX0_init_1 : decode cX0_init 1 = .ok (.invokespecial 3, 3) := by decide +kernel
theorem dX0_init_4 : decode cX0_init 4 = .ok (.aload_n 0, 1) := by decide +kernel
theorem dX0_init_5 : decode cX0_init 5 = .ok (.bipush 16, 2) := by decide +kernel
theorem dX0_init_7 : decode cX0_init 7 = .ok (.newarray .int, 2) := by decide +kernel
theorem dX0_init_9 : decode cX0_init 9 = .ok (.putfield 9, 3) := by decide +kernel
theorem dX0_init_12 : decode cX0_init 12 = .ok (.aload_n 0, 1) := by decide +kernel
theorem dX0_init_13 : decode cX0_init 13 = .ok (.iconst 0, 1) := by decide +kernel
theorem dX0_init_14 : decode cX0_init 14 = .ok (.putfield 15, 3) := by decide +kernel
theorem dX0_init_17 : decode cX0_init 17 = .ok (.aload_n 0, 1) := by decide +kernel
theorem dX0_init_18 : decode cX0_init 18 = .ok (.iconst 0, 1) := by decide +kernel
theorem dX0_init_19 : decode cX0_init 19 = .ok (.putfield 19, 3) := by decide +kernel
theorem dX0_init_22 : decode cX0_init 22 = .ok (.aload_n 0, 1) := by decide +kernel
theorem dX0_init_23 : decode cX0_init 23 = .ok (.iconst 0, 1) := by decide +kernel
theorem dX0_init_24 : decode cX0_init 24 = .ok (.putfield 22, 3) := by decide +kernel
theorem dX0_init_27 : decode cX0_init 27 = .ok (.aload_n 0, 1) := by decide +kernel
theorem dX0_init_28 : decode cX0_init 28 = .ok (.iconst (-1), 1) := by decide +kernel
theorem dX0_init_29 : decode cX0_init 29 = .ok (.putfield 25, 3) := by decide +kernel
theorem dX0_init_32 : decode cX0_init 32 = .ok (.return_, 1) := by decide +kernel
theorem dX0_clauseAt_0 : decode cX0_clauseAt 0 = .ok (.iload_n 1, 1) := by decide +kernel
theorem dX0_clauseAt_1 : decode cX0_clauseAt 1 = .ok (.ifCond .lt 26, 3) := by decide +kernel
theorem dX0_clauseAt_4 : decode cX0_clauseAt 4 = .ok (.iload_n 1, 1) := by decide +kernel
theorem dX0_clauseAt_5 : decode cX0_clauseAt 5 = .ok (.aload_n 0, 1) := by decide +kernel
theorem dX0_clauseAt_6 : decode cX0_clauseAt 6 = .ok (.getfield 15, 3) := by decide +kernel
theorem dX0_clauseAt_9 : decode cX0_clauseAt 9 = .ok (.if_icmp .ge 18, 3) := by decide +kernel
theorem dX0_clauseAt_12 : decode cX0_clauseAt 12 = .ok (.iload_n 1, 1) := by decide +kernel
theorem dX0_clauseAt_13 : decode cX0_clauseAt 13 = .ok (.bipush 16, 2) := by decide +kernel
theorem dX0_clauseAt_15 : decode cX0_clauseAt 15 = .ok (.if_icmp .ge 12, 3) := by decide +kernel
theorem dX0_clauseAt_18 : decode cX0_clauseAt 18 = .ok (.aload_n 0, 1) := by decide +kernel
theorem dX0_clauseAt_19 : decode cX0_clauseAt 19 = .ok (.getfield 9, 3) := by decide +kernel
theorem dX0_clauseAt_22 : decode cX0_clauseAt 22 = .ok (.iload_n 1, 1) := by decide +kernel
theorem dX0_clauseAt_23 : decode cX0_clauseAt 23 = .ok (.iaload, 1) := by decide +kernel
theorem dX0_clauseAt_24 : decode cX0_clauseAt 24 = .ok (.goto 4, 3) := by decide +kernel
theorem dX0_clauseAt_27 : decode cX0_clauseAt 27 = .ok (.iconst 0, 1) := by decide +kernel
theorem dX0_clauseAt_28 : decode cX0_clauseAt 28 = .ok (.ireturn, 1) := by decide +kernel
theorem dX0_read_0 : decode cX0_read 0 = .ok (.aload_n 0, 1) := by decide +kernel
theorem dX0_read_1 : decode cX0_read 1 = .ok (.iconst 0, 1) := by decide +kernel
theorem dX0_read_2 : decode cX0_read 2 = .ok (.putfield 15, 3) := by decide +kernel
theorem dX0_read_5 : decode cX0_read 5 = .ok (.aload_n 0, 1) := by decide +kernel
theorem dX0_read_6 : decode cX0_read 6 = .ok (.iconst 0, 1) := by decide +kernel
theorem dX0_read_7 : decode cX0_read 7 = .ok (.putfield 19, 3) := by decide +kernel
theorem dX0_read_10 : decode cX0_read 10 = .ok (.aload_n 0, 1) := by decide +kernel
theorem dX0_read_11 : decode cX0_read 11 = .ok (.iconst 0, 1) := by decide +kernel
theorem dX0_read_12 : decode cX0_read 12 = .ok (.putfield 22, 3) := by decide +kernel
theorem dX0_read_15 : decode cX0_read 15 = .ok (.aload_n 0, 1) := by decide +kernel
theorem dX0_read_16 : decode cX0_read 16 = .ok (.iconst (-1), 1) := by decide +kernel
theorem dX0_read_17 : decode cX0_read 17 = .ok (.putfield 25, 3) := by decide +kernel
theorem dX0_read_20 : decode cX0_read 20 = .ok (.iconst 0, 1) := by decide +kernel
theorem dX0_read_21 : decode cX0_read 21 = .ok (.istore_n 3, 1) := by decide +kernel
theorem dX0_read_22 : decode cX0_read 22 = .ok (.iload_n 3, 1) := by decide +kernel
theorem dX0_read_23 : decode cX0_read 23 = .ok (.sipush 150, 3) := by decide +kernel
theorem dX0_read_26 : decode cX0_read 26 = .ok (.if_icmp .ge 34, 3) := by decide +kernel
theorem dX0_read_29 : decode cX0_read 29 = .ok (.aload_n 0, 1) := by decide +kernel
theorem dX0_read_30 : decode cX0_read 30 = .ok (.getfield 19, 3) := by decide +kernel
theorem dX0_read_33 : decode cX0_read 33 = .ok (.aload_n 1, 1) := by decide +kernel
theorem dX0_read_34 : decode cX0_read 34 = .ok (.getfield 28, 3) := by decide +kernel
theorem dX0_read_37 : decode cX0_read 37 = .ok (.if_icmp .ge 23, 3) := by decide +kernel
theorem dX0_read_40 : decode cX0_read 40 = .ok (.aload_n 0, 1) := by decide +kernel
theorem dX0_read_41 : decode cX0_read 41 = .ok (.getfield 25, 3) := by decide +kernel
theorem dX0_read_44 : decode cX0_read 44 = .ok (.iconst (-1), 1) := by decide +kernel
theorem dX0_read_45 : decode cX0_read 45 = .ok (.if_icmp .ne 15, 3) := by decide +kernel
theorem dX0_read_48 : decode cX0_read 48 = .ok (.aload_n 0, 1) := by decide +kernel
theorem dX0_read_49 : decode cX0_read 49 = .ok (.aload_n 1, 1) := by decide +kernel
theorem dX0_read_50 : decode cX0_read 50 = .ok (.iload_n 2, 1) := by decide +kernel
theorem dX0_read_51 : decode cX0_read 51 = .ok (.invokevirtual 33, 3) := by decide +kernel
theorem dX0_read_54 : decode cX0_read 54 = .ok (.iinc 3 1, 3) := by decide +kernel
theorem dX0_read_57 : decode cX0_read 57 = .ok (.goto (-35), 3) := by decide +kernel
theorem dX0_read_60 : decode cX0_read 60 = .ok (.aload_n 0, 1) := by decide +kernel
theorem dX0_read_61 : decode cX0_read 61 = .ok (.getfield 25, 3) := by decide +kernel
theorem dX0_read_64 : decode cX0_read 64 = .ok (.iconst (-1), 1) := by decide +kernel
theorem dX0_read_65 : decode cX0_read 65 = .ok (.if_icmp .ne 18, 3) := by decide +kernel
theorem dX0_read_68 : decode cX0_read 68 = .ok (.aload_n 0, 1) := by decide +kernel
theorem dX0_read_69 : decode cX0_read 69 = .ok (.getfield 22, 3) := by decide +kernel
theorem dX0_read_72 : decode cX0_read 72 = .ok (.ifCond .eq 11, 3) := by decide +kernel
theorem dX0_read_75 : decode cX0_read 75 = .ok (.aload_n 0, 1) := by decide +kernel
theorem dX0_read_76 : decode cX0_read 76 = .ok (.aload_n 1, 1) := by decide +kernel
theorem dX0_read_77 : decode cX0_read 77 = .ok (.getfield 28, 3) := by decide +kernel
theorem dX0_read_80 : decode cX0_read 80 = .ok (.putfield 25, 3) := by decide +kernel
theorem dX0_read_83 : decode cX0_read 83 = .ok (.aload_n 0, 1) := by decide +kernel
theorem dX0_read_84 : decode cX0_read 84 = .ok (.getfield 25, 3) := by decide +kernel
theorem dX0_read_87 : decode cX0_read 87 = .ok (.ireturn, 1) := by decide +kernel
theorem dX0_readToken_0 : decode cX0_readToken 0 = .ok (.aload_n 1, 1) := by decide +kernel
theorem dX0_readToken_1 : decode cX0_readToken 1 = .ok (.aload_n 0, 1) := by decide +kernel
theorem dX0_readToken_2 : decode cX0_readToken 2 = .ok (.getfield 19, 3) := by decide +kernel
theorem dX0_readToken_5 : decode cX0_readToken 5 = .ok (.invokevirtual 37, 3) := by decide +kernel
theorem dX0_readToken_8 : decode cX0_readToken 8 = .ok (.istore_n 3, 1) := by decide +kernel
theorem dX0_readToken_9 : decode cX0_readToken 9 = .ok (.iload_n 3, 1) := by decide +kernel
theorem dX0_readToken_10 : decode cX0_readToken 10 = .ok (.bipush 32, 2) := by decide +kernel
theorem dX0_readToken_12 : decode cX0_readToken 12 = .ok (.if_icmp .ne 16, 3) := by decide +kernel
theorem dX0_readToken_15 : decode cX0_readToken 15 = .ok (.aload_n 0, 1) := by decide +kernel
theorem dX0_readToken_16 : decode cX0_readToken 16 = .ok (.dup, 1) := by decide +kernel
theorem dX0_readToken_17 : decode cX0_readToken 17 = .ok (.getfield 19, 3) := by decide +kernel
theorem dX0_readToken_20 : decode cX0_readToken 20 = .ok (.iconst 1, 1) := by decide +kernel
theorem dX0_readToken_21 : decode cX0_readToken 21 = .ok (.iadd, 1) := by decide +kernel
theorem dX0_readToken_22 : decode cX0_readToken 22 = .ok (.putfield 19, 3) := by decide +kernel
theorem dX0_readToken_25 : decode cX0_readToken 25 = .ok (.goto 50, 3) := by decide +kernel
theorem dX0_readToken_28 : decode cX0_readToken 28 = .ok (.iload_n 3, 1) := by decide +kernel
theorem dX0_readToken_29 : decode cX0_readToken 29 = .ok (.bipush 59, 2) := by decide +kernel
theorem dX0_readToken_31 : decode cX0_readToken 31 = .ok (.if_icmp .ne 10, 3) := by decide +kernel
theorem dX0_readToken_34 : decode cX0_readToken 34 = .ok (.aload_n 0, 1) := by decide +kernel
theorem dX0_readToken_35 : decode cX0_readToken 35 = .ok (.invokevirtual 41, 3) := by decide +kernel
theorem dX0_readToken_38 : decode cX0_readToken 38 = .ok (.goto 37, 3) := by decide +kernel
theorem dX0_readToken_41 : decode cX0_readToken 41 = .ok (.iload_n 3, 1) := by decide +kernel
theorem dX0_readToken_42 : decode cX0_readToken 42 = .ok (.bipush 45, 2) := by decide +kernel
theorem dX0_readToken_44 : decode cX0_readToken 44 = .ok (.if_icmp .eq 14, 3) := by decide +kernel
theorem dX0_readToken_47 : decode cX0_readToken 47 = .ok (.aload_n 1, 1) := by decide +kernel
theorem dX0_readToken_48 : decode cX0_readToken 48 = .ok (.aload_n 0, 1) := by decide +kernel
theorem dX0_readToken_49 : decode cX0_readToken 49 = .ok (.getfield 19, 3) := by decide +kernel
theorem dX0_readToken_52 : decode cX0_readToken 52 = .ok (.invokevirtual 44, 3) := by decide +kernel
theorem dX0_readToken_55 : decode cX0_readToken 55 = .ok (.ifCond .eq 12, 3) := by decide +kernel
theorem dX0_readToken_58 : decode cX0_readToken 58 = .ok (.aload_n 0, 1) := by decide +kernel
theorem dX0_readToken_59 : decode cX0_readToken 59 = .ok (.aload_n 1, 1) := by decide +kernel
theorem dX0_readToken_60 : decode cX0_readToken 60 = .ok (.iload_n 2, 1) := by decide +kernel
theorem dX0_readToken_61 : decode cX0_readToken 61 = .ok (.invokevirtual 48, 3) := by decide +kernel
theorem dX0_readToken_64 : decode cX0_readToken 64 = .ok (.goto 11, 3) := by decide +kernel
theorem dX0_readToken_67 : decode cX0_readToken 67 = .ok (.aload_n 0, 1) := by decide +kernel
theorem dX0_readToken_68 : decode cX0_readToken 68 = .ok (.aload_n 0, 1) := by decide +kernel
theorem dX0_readToken_69 : decode cX0_readToken 69 = .ok (.getfield 19, 3) := by decide +kernel
theorem dX0_readToken_72 : decode cX0_readToken 72 = .ok (.putfield 25, 3) := by decide +kernel
theorem dX0_readToken_75 : decode cX0_readToken 75 = .ok (.return_, 1) := by decide +kernel
theorem dX0_closeClause_0 : decode cX0_closeClause 0 = .ok (.aload_n 0, 1) := by decide +kernel
theorem dX0_closeClause_1 : decode cX0_closeClause 1 = .ok (.getfield 22, 3) := by decide +kernel
theorem dX0_closeClause_4 : decode cX0_closeClause 4 = .ok (.ifCond .eq 12, 3) := by decide +kernel
theorem dX0_closeClause_7 : decode cX0_closeClause 7 = .ok (.aload_n 0, 1) := by decide +kernel
theorem dX0_closeClause_8 : decode cX0_closeClause 8 = .ok (.getfield 15, 3) := by decide +kernel
theorem dX0_closeClause_11 : decode cX0_closeClause 11 = .ok (.bipush 16, 2) := by decide +kernel
theorem dX0_closeClause_13 : decode cX0_closeClause 13 = .ok (.if_icmp .lt 12, 3) := by decide +kernel
theorem dX0_closeClause_16 : decode cX0_closeClause 16 = .ok (.aload_n 0, 1) := by decide +kernel
theorem dX0_closeClause_17 : decode cX0_closeClause 17 = .ok (.aload_n 0, 1) := by decide +kernel
theorem dX0_closeClause_18 : decode cX0_closeClause 18 = .ok (.getfield 19, 3) := by decide +kernel
theorem dX0_closeClause_21 : decode cX0_closeClause 21 = .ok (.putfield 25, 3) := by decide +kernel
theorem dX0_closeClause_24 : decode cX0_closeClause 24 = .ok (.return_, 1) := by decide +kernel
theorem dX0_closeClause_25 : decode cX0_closeClause 25 = .ok (.aload_n 0, 1) := by decide +kernel
theorem dX0_closeClause_26 : decode cX0_closeClause 26 = .ok (.getfield 9, 3) := by decide +kernel
theorem dX0_closeClause_29 : decode cX0_closeClause 29 = .ok (.aload_n 0, 1) := by decide +kernel
theorem dX0_closeClause_30 : decode cX0_closeClause 30 = .ok (.getfield 15, 3) := by decide +kernel
theorem dX0_closeClause_33 : decode cX0_closeClause 33 = .ok (.aload_n 0, 1) := by decide +kernel
theorem dX0_closeClause_34 : decode cX0_closeClause 34 = .ok (.getfield 22, 3) := by decide +kernel
theorem dX0_closeClause_37 : decode cX0_closeClause 37 = .ok (.iastore, 1) := by decide +kernel
theorem dX0_closeClause_38 : decode cX0_closeClause 38 = .ok (.aload_n 0, 1) := by decide +kernel
theorem dX0_closeClause_39 : decode cX0_closeClause 39 = .ok (.dup, 1) := by decide +kernel
theorem dX0_closeClause_40 : decode cX0_closeClause 40 = .ok (.getfield 15, 3) := by decide +kernel
theorem dX0_closeClause_43 : decode cX0_closeClause 43 = .ok (.iconst 1, 1) := by decide +kernel
theorem dX0_closeClause_44 : decode cX0_closeClause 44 = .ok (.iadd, 1) := by decide +kernel
theorem dX0_closeClause_45 : decode cX0_closeClause 45 = .ok (.putfield 15, 3) := by decide +kernel
theorem dX0_closeClause_48 : decode cX0_closeClause 48 = .ok (.aload_n 0, 1) := by decide +kernel
theorem dX0_closeClause_49 : decode cX0_closeClause 49 = .ok (.iconst 0, 1) := by decide +kernel
theorem dX0_closeClause_50 : decode cX0_closeClause 50 = .ok (.putfield 22, 3) := by decide +kernel
theorem dX0_closeClause_53 : decode cX0_closeClause 53 = .ok (.aload_n 0, 1) := by decide +kernel
theorem dX0_closeClause_54 : decode cX0_closeClause 54 = .ok (.dup, 1) := by decide +kernel
theorem dX0_closeClause_55 : decode cX0_closeClause 55 = .ok (.getfield 19, 3) := by decide +kernel
theorem dX0_closeClause_58 : decode cX0_closeClause 58 = .ok (.iconst 1, 1) := by decide +kernel
theorem dX0_closeClause_59 : decode cX0_closeClause 59 = .ok (.iadd, 1) := by decide +kernel
theorem dX0_closeClause_60 : decode cX0_closeClause 60 = .ok (.putfield 19, 3) := by decide +kernel
theorem dX0_closeClause_63 : decode cX0_closeClause 63 = .ok (.return_, 1) := by decide +kernel
theorem dX0_readLiteral_0 : decode cX0_readLiteral 0 = .ok (.aload_n 0, 1) := by decide +kernel
theorem dX0_readLiteral_1 : decode cX0_readLiteral 1 = .ok (.getfield 22, 3) := by decide +kernel
theorem dX0_readLiteral_4 : decode cX0_readLiteral 4 = .ok (.invokestatic 51, 3) := by decide +kernel
theorem dX0_readLiteral_7 : decode cX0_readLiteral 7 = .ok (.iconst 4, 1) := by decide +kernel
theorem dX0_readLiteral_8 : decode cX0_readLiteral 8 = .ok (.if_icmp .lt 7, 3) := by decide +kernel
theorem dX0_readLiteral_11 : decode cX0_readLiteral 11 = .ok (.iconst 1, 1) := by decide +kernel
theorem dX0_readLiteral_12 : decode cX0_readLiteral 12 = .ok (.goto 4, 3) := by decide +kernel
theorem dX0_readLiteral_15 : decode cX0_readLiteral 15 = .ok (.iconst 0, 1) := by decide +kernel
theorem dX0_readLiteral_16 : decode cX0_readLiteral 16 = .ok (.istore_n 3, 1) := by decide +kernel
theorem dX0_readLiteral_17 : decode cX0_readLiteral 17 = .ok (.aload_n 0, 1) := by decide +kernel
theorem dX0_readLiteral_18 : decode cX0_readLiteral 18 = .ok (.getfield 22, 3) := by decide +kernel
theorem dX0_readLiteral_21 : decode cX0_readLiteral 21 = .ok (.ifCond .ne 15, 3) := by decide +kernel
theorem dX0_readLiteral_24 : decode cX0_readLiteral 24 = .ok (.aload_n 0, 1) := by decide +kernel
theorem dX0_readLiteral_25 : decode cX0_readLiteral 25 = .ok (.getfield 15, 3) := by decide +kernel
theorem dX0_readLiteral_28 : decode cX0_readLiteral 28 = .ok (.iload_n 2, 1) := by decide +kernel
theorem dX0_readLiteral_29 : decode cX0_readLiteral 29 = .ok (.if_icmp .lt 7, 3) := by decide +kernel
theorem dX0_readLiteral_32 : decode cX0_readLiteral 32 = .ok (.iconst 1, 1) := by decide +kernel
theorem dX0_readLiteral_33 : decode cX0_readLiteral 33 = .ok (.goto 4, 3) := by decide +kernel
theorem dX0_readLiteral_36 : decode cX0_readLiteral 36 = .ok (.iconst 0, 1) := by decide +kernel
theorem dX0_readLiteral_37 : decode cX0_readLiteral 37 = .ok (.istore 4, 2) := by decide +kernel
theorem dX0_readLiteral_39 : decode cX0_readLiteral 39 = .ok (.iload_n 3, 1) := by decide +kernel
theorem dX0_readLiteral_40 : decode cX0_readLiteral 40 = .ok (.ifCond .ne 8, 3) := by decide +kernel
theorem dX0_readLiteral_43 : decode cX0_readLiteral 43 = .ok (.iload 4, 2) := by decide +kernel
theorem dX0_readLiteral_45 : decode cX0_readLiteral 45 = .ok (.ifCond .eq 12, 3) := by decide +kernel
theorem dX0_readLiteral_48 : decode cX0_readLiteral 48 = .ok (.aload_n 0, 1) := by decide +kernel
theorem dX0_readLiteral_49 : decode cX0_readLiteral 49 = .ok (.aload_n 0, 1) := by decide +kernel
theorem dX0_readLiteral_50 : decode cX0_readLiteral 50 = .ok (.getfield 19, 3) := by decide +kernel
theorem dX0_readLiteral_53 : decode cX0_readLiteral 53 = .ok (.putfield 25, 3) := by decide +kernel
theorem dX0_readLiteral_56 : decode cX0_readLiteral 56 = .ok (.return_, 1) := by decide +kernel
theorem dX0_readLiteral_57 : decode cX0_readLiteral 57 = .ok (.aload_n 1, 1) := by decide +kernel
theorem dX0_readLiteral_58 : decode cX0_readLiteral 58 = .ok (.aload_n 0, 1) := by decide +kernel
theorem dX0_readLiteral_59 : decode cX0_readLiteral 59 = .ok (.getfield 19, 3) := by decide +kernel
theorem dX0_readLiteral_62 : decode cX0_readLiteral 62 = .ok (.invokevirtual 37, 3) := by decide +kernel
theorem dX0_readLiteral_65 : decode cX0_readLiteral 65 = .ok (.bipush 45, 2) := by decide +kernel
theorem dX0_readLiteral_67 : decode cX0_readLiteral 67 = .ok (.if_icmp .ne 7, 3) := by decide +kernel
theorem dX0_readLiteral_70 : decode cX0_readLiteral 70 = .ok (.iconst 1, 1) := by decide +kernel
theorem dX0_readLiteral_71 : decode cX0_readLiteral 71 = .ok (.goto 4, 3) := by decide +kernel
theorem dX0_readLiteral_74 : decode cX0_readLiteral 74 = .ok (.iconst 0, 1) := by decide +kernel
theorem dX0_readLiteral_75 : decode cX0_readLiteral 75 = .ok (.istore 5, 2) := by decide +kernel
theorem dX0_readLiteral_77 : decode cX0_readLiteral 77 = .ok (.iload 5, 2) := by decide +kernel
theorem dX0_readLiteral_79 : decode cX0_readLiteral 79 = .ok (.ifCond .eq 12, 3) := by decide +kernel
theorem dX0_readLiteral_82 : decode cX0_readLiteral 82 = .ok (.aload_n 0, 1) := by decide +kernel
theorem dX0_readLiteral_83 : decode cX0_readLiteral 83 = .ok (.getfield 19, 3) := by decide +kernel
theorem dX0_readLiteral_86 : decode cX0_readLiteral 86 = .ok (.iconst 1, 1) := by decide +kernel
theorem dX0_readLiteral_87 : decode cX0_readLiteral 87 = .ok (.iadd, 1) := by decide +kernel
theorem dX0_readLiteral_88 : decode cX0_readLiteral 88 = .ok (.goto 7, 3) := by decide +kernel
theorem dX0_readLiteral_91 : decode cX0_readLiteral 91 = .ok (.aload_n 0, 1) := by decide +kernel
theorem dX0_readLiteral_92 : decode cX0_readLiteral 92 = .ok (.getfield 19, 3) := by decide +kernel
theorem dX0_readLiteral_95 : decode cX0_readLiteral 95 = .ok (.istore 6, 2) := by decide +kernel
theorem dX0_readLiteral_97 : decode cX0_readLiteral 97 = .ok (.aload_n 1, 1) := by decide +kernel
theorem dX0_readLiteral_98 : decode cX0_readLiteral 98 = .ok (.iload 6, 2) := by decide +kernel
theorem dX0_readLiteral_100 : decode cX0_readLiteral 100 = .ok (.invokestatic 56, 3) := by decide +kernel
theorem dX0_readLiteral_103 : decode cX0_readLiteral 103 = .ok (.istore 7, 2) := by decide +kernel
theorem dX0_readLiteral_105 : decode cX0_readLiteral 105 = .ok (.iload 7, 2) := by decide +kernel
theorem dX0_readLiteral_107 : decode cX0_readLiteral 107 = .ok (.ifCond .eq 9, 3) := by decide +kernel
theorem dX0_readLiteral_110 : decode cX0_readLiteral 110 = .ok (.iload 7, 2) := by decide +kernel
theorem dX0_readLiteral_112 : decode cX0_readLiteral 112 = .ok (.iconst 2, 1) := by decide +kernel
theorem dX0_readLiteral_113 : decode cX0_readLiteral 113 = .ok (.if_icmp .le 22, 3) := by decide +kernel
theorem dX0_readLiteral_116 : decode cX0_readLiteral 116 = .ok (.aload_n 0, 1) := by decide +kernel
theorem dX0_readLiteral_117 : decode cX0_readLiteral 117 = .ok (.iload 7, 2) := by decide +kernel
theorem dX0_readLiteral_119 : decode cX0_readLiteral 119 = .ok (.ifCond .ne 8, 3) := by decide +kernel
theorem dX0_readLiteral_122 : decode cX0_readLiteral 122 = .ok (.iload 6, 2) := by decide +kernel
theorem dX0_readLiteral_124 : decode cX0_readLiteral 124 = .ok (.goto 7, 3) := by decide +kernel
theorem dX0_readLiteral_127 : decode cX0_readLiteral 127 = .ok (.iload 6, 2) := by decide +kernel
theorem dX0_readLiteral_129 : decode cX0_readLiteral 129 = .ok (.iconst 2, 1) := by decide +kernel
theorem dX0_readLiteral_130 : decode cX0_readLiteral 130 = .ok (.iadd, 1) := by decide +kernel
theorem dX0_readLiteral_131 : decode cX0_readLiteral 131 = .ok (.putfield 25, 3) := by decide +kernel
theorem dX0_readLiteral_134 : decode cX0_readLiteral 134 = .ok (.return_, 1) := by decide +kernel
theorem dX0_readLiteral_135 : decode cX0_readLiteral 135 = .ok (.aload_n 1, 1) := by decide +kernel
theorem dX0_readLiteral_136 : decode cX0_readLiteral 136 = .ok (.iload 6, 2) := by decide +kernel
theorem dX0_readLiteral_138 : decode cX0_readLiteral 138 = .ok (.iload 7, 2) := by decide +kernel
theorem dX0_readLiteral_140 : decode cX0_readLiteral 140 = .ok (.invokestatic 60, 3) := by decide +kernel
theorem dX0_readLiteral_143 : decode cX0_readLiteral 143 = .ok (.istore 8, 2) := by decide +kernel
theorem dX0_readLiteral_145 : decode cX0_readLiteral 145 = .ok (.iload 8, 2) := by decide +kernel
theorem dX0_readLiteral_147 : decode cX0_readLiteral 147 = .ok (.iconst 1, 1) := by decide +kernel
theorem dX0_readLiteral_148 : decode cX0_readLiteral 148 = .ok (.if_icmp .lt 10, 3) := by decide +kernel
theorem dX0_readLiteral_151 : decode cX0_readLiteral 151 = .ok (.iload 8, 2) := by decide +kernel
theorem dX0_readLiteral_153 : decode cX0_readLiteral 153 = .ok (.bipush 10, 2) := by decide +kernel
theorem dX0_readLiteral_155 : decode cX0_readLiteral 155 = .ok (.if_icmp .le 10, 3) := by decide +kernel
theorem dX0_readLiteral_158 : decode cX0_readLiteral 158 = .ok (.aload_n 0, 1) := by decide +kernel
theorem dX0_readLiteral_159 : decode cX0_readLiteral 159 = .ok (.iload 6, 2) := by decide +kernel
theorem dX0_readLiteral_161 : decode cX0_readLiteral 161 = .ok (.putfield 25, 3) := by decide +kernel
theorem dX0_readLiteral_164 : decode cX0_readLiteral 164 = .ok (.return_, 1) := by decide +kernel
theorem dX0_readLiteral_165 : decode cX0_readLiteral 165 = .ok (.iload 5, 2) := by decide +kernel
theorem dX0_readLiteral_167 : decode cX0_readLiteral 167 = .ok (.ifCond .eq 9, 3) := by decide +kernel
theorem dX0_readLiteral_170 : decode cX0_readLiteral 170 = .ok (.iload 8, 2) := by decide +kernel
theorem dX0_readLiteral_172 : decode cX0_readLiteral 172 = .ok (.ineg, 1) := by decide +kernel
theorem dX0_readLiteral_173 : decode cX0_readLiteral 173 = .ok (.goto 5, 3) := by decide +kernel
theorem dX0_readLiteral_176 : decode cX0_readLiteral 176 = .ok (.iload 8, 2) := by decide +kernel
theorem dX0_readLiteral_178 : decode cX0_readLiteral 178 = .ok (.invokestatic 64, 3) := by decide +kernel
theorem dX0_readLiteral_181 : decode cX0_readLiteral 181 = .ok (.istore 9, 2) := by decide +kernel
theorem dX0_readLiteral_183 : decode cX0_readLiteral 183 = .ok (.aload_n 0, 1) := by decide +kernel
theorem dX0_readLiteral_184 : decode cX0_readLiteral 184 = .ok (.getfield 22, 3) := by decide +kernel
theorem dX0_readLiteral_187 : decode cX0_readLiteral 187 = .ok (.invokestatic 67, 3) := by decide +kernel
theorem dX0_readLiteral_190 : decode cX0_readLiteral 190 = .ok (.iload 9, 2) := by decide +kernel
theorem dX0_readLiteral_192 : decode cX0_readLiteral 192 = .ok (.invokestatic 67, 3) := by decide +kernel
theorem dX0_readLiteral_195 : decode cX0_readLiteral 195 = .ok (.iand, 1) := by decide +kernel
theorem dX0_readLiteral_196 : decode cX0_readLiteral 196 = .ok (.ifCond .eq 12, 3) := by decide +kernel
theorem dX0_readLiteral_199 : decode cX0_readLiteral 199 = .ok (.aload_n 0, 1) := by decide +kernel
theorem dX0_readLiteral_200 : decode cX0_readLiteral 200 = .ok (.aload_n 0, 1) := by decide +kernel
theorem dX0_readLiteral_201 : decode cX0_readLiteral 201 = .ok (.getfield 19, 3) := by decide +kernel
theorem dX0_readLiteral_204 : decode cX0_readLiteral 204 = .ok (.putfield 25, 3) := by decide +kernel
theorem dX0_readLiteral_207 : decode cX0_readLiteral 207 = .ok (.return_, 1) := by decide +kernel
theorem dX0_readLiteral_208 : decode cX0_readLiteral 208 = .ok (.aload_n 0, 1) := by decide +kernel
theorem dX0_readLiteral_209 : decode cX0_readLiteral 209 = .ok (.dup, 1) := by decide +kernel
theorem dX0_readLiteral_210 : decode cX0_readLiteral 210 = .ok (.getfield 22, 3) := by decide +kernel
theorem dX0_readLiteral_213 : decode cX0_readLiteral 213 = .ok (.iload 9, 2) := by decide +kernel
theorem dX0_readLiteral_215 : decode cX0_readLiteral 215 = .ok (.ior, 1) := by decide +kernel
theorem dX0_readLiteral_216 : decode cX0_readLiteral 216 = .ok (.putfield 22, 3) := by decide +kernel
theorem dX0_readLiteral_219 : decode cX0_readLiteral 219 = .ok (.aload_n 0, 1) := by decide +kernel
theorem dX0_readLiteral_220 : decode cX0_readLiteral 220 = .ok (.iload 6, 2) := by decide +kernel
theorem dX0_readLiteral_222 : decode cX0_readLiteral 222 = .ok (.iload 7, 2) := by decide +kernel
theorem dX0_readLiteral_224 : decode cX0_readLiteral 224 = .ok (.iadd, 1) := by decide +kernel
theorem dX0_readLiteral_225 : decode cX0_readLiteral 225 = .ok (.putfield 19, 3) := by decide +kernel
theorem dX0_readLiteral_228 : decode cX0_readLiteral 228 = .ok (.return_, 1) := by decide +kernel
theorem dX0_countDigits_0 : decode cX0_countDigits 0 = .ok (.iconst 0, 1) := by decide +kernel
theorem dX0_countDigits_1 : decode cX0_countDigits 1 = .ok (.istore_n 2, 1) := by decide +kernel
theorem dX0_countDigits_2 : decode cX0_countDigits 2 = .ok (.iload_n 2, 1) := by decide +kernel
theorem dX0_countDigits_3 : decode cX0_countDigits 3 = .ok (.iconst 2, 1) := by decide +kernel
theorem dX0_countDigits_4 : decode cX0_countDigits 4 = .ok (.if_icmp .gt 19, 3) := by decide +kernel
theorem dX0_countDigits_7 : decode cX0_countDigits 7 = .ok (.aload_n 0, 1) := by decide +kernel
theorem dX0_countDigits_8 : decode cX0_countDigits 8 = .ok (.iload_n 1, 1) := by decide +kernel
theorem dX0_countDigits_9 : decode cX0_countDigits 9 = .ok (.iload_n 2, 1) := by decide +kernel
theorem dX0_countDigits_10 : decode cX0_countDigits 10 = .ok (.iadd, 1) := by decide +kernel
theorem dX0_countDigits_11 : decode cX0_countDigits 11 = .ok (.invokevirtual 44, 3) := by decide +kernel
theorem dX0_countDigits_14 : decode cX0_countDigits 14 = .ok (.ifCond .eq 9, 3) := by decide +kernel
theorem dX0_countDigits_17 : decode cX0_countDigits 17 = .ok (.iinc 2 1, 3) := by decide +kernel
theorem dX0_countDigits_20 : decode cX0_countDigits 20 = .ok (.goto (-18), 3) := by decide +kernel
theorem dX0_countDigits_23 : decode cX0_countDigits 23 = .ok (.iload_n 2, 1) := by decide +kernel
theorem dX0_countDigits_24 : decode cX0_countDigits 24 = .ok (.ireturn, 1) := by decide +kernel
theorem dX0_numberAt_0 : decode cX0_numberAt 0 = .ok (.iconst 0, 1) := by decide +kernel
theorem dX0_numberAt_1 : decode cX0_numberAt 1 = .ok (.istore_n 3, 1) := by decide +kernel
theorem dX0_numberAt_2 : decode cX0_numberAt 2 = .ok (.iconst 0, 1) := by decide +kernel
theorem dX0_numberAt_3 : decode cX0_numberAt 3 = .ok (.istore 4, 2) := by decide +kernel
theorem dX0_numberAt_5 : decode cX0_numberAt 5 = .ok (.iload 4, 2) := by decide +kernel
theorem dX0_numberAt_7 : decode cX0_numberAt 7 = .ok (.iload_n 2, 1) := by decide +kernel
theorem dX0_numberAt_8 : decode cX0_numberAt 8 = .ok (.if_icmp .ge 26, 3) := by decide +kernel
theorem dX0_numberAt_11 : decode cX0_numberAt 11 = .ok (.bipush 10, 2) := by decide +kernel
theorem dX0_numberAt_13 : decode cX0_numberAt 13 = .ok (.iload_n 3, 1) := by decide +kernel
theorem dX0_numberAt_14 : decode cX0_numberAt 14 = .ok (.imul, 1) := by decide +kernel
theorem dX0_numberAt_15 : decode cX0_numberAt 15 = .ok (.aload_n 0, 1) := by decide +kernel
theorem dX0_numberAt_16 : decode cX0_numberAt 16 = .ok (.iload_n 1, 1) := by decide +kernel
theorem dX0_numberAt_17 : decode cX0_numberAt 17 = .ok (.iload 4, 2) := by decide +kernel
theorem dX0_numberAt_19 : decode cX0_numberAt 19 = .ok (.iadd, 1) := by decide +kernel
theorem dX0_numberAt_20 : decode cX0_numberAt 20 = .ok (.invokevirtual 37, 3) := by decide +kernel
theorem dX0_numberAt_23 : decode cX0_numberAt 23 = .ok (.iadd, 1) := by decide +kernel
theorem dX0_numberAt_24 : decode cX0_numberAt 24 = .ok (.bipush 48, 2) := by decide +kernel
theorem dX0_numberAt_26 : decode cX0_numberAt 26 = .ok (.isub, 1) := by decide +kernel
theorem dX0_numberAt_27 : decode cX0_numberAt 27 = .ok (.istore_n 3, 1) := by decide +kernel
theorem dX0_numberAt_28 : decode cX0_numberAt 28 = .ok (.iinc 4 1, 3) := by decide +kernel
theorem dX0_numberAt_31 : decode cX0_numberAt 31 = .ok (.goto (-26), 3) := by decide +kernel
theorem dX0_numberAt_34 : decode cX0_numberAt 34 = .ok (.iload_n 3, 1) := by decide +kernel
theorem dX0_numberAt_35 : decode cX0_numberAt 35 = .ok (.ireturn, 1) := by decide +kernel
theorem dX1_init_0 : decode cX1_init 0 = .ok (.aload_n 0, 1) := by decide +kernel
theorem dX1_init_1 : decode cX1_init 1 = .ok (.invokespecial 3, 3) := by decide +kernel
theorem dX1_init_4 : decode cX1_init 4 = .ok (.aload_n 0, 1) := by decide +kernel
theorem dX1_init_5 : decode cX1_init 5 = .ok (.bipush 16, 2) := by decide +kernel
theorem dX1_init_7 : decode cX1_init 7 = .ok (.newarray .long, 2) := by decide +kernel
theorem dX1_init_9 : decode cX1_init 9 = .ok (.putfield 9, 3) := by decide +kernel
theorem dX1_init_12 : decode cX1_init 12 = .ok (.aload_n 0, 1) := by decide +kernel
theorem dX1_init_13 : decode cX1_init 13 = .ok (.bipush 16, 2) := by decide +kernel
theorem dX1_init_15 : decode cX1_init 15 = .ok (.newarray .long, 2) := by decide +kernel
theorem dX1_init_17 : decode cX1_init 17 = .ok (.putfield 15, 3) := by decide +kernel
theorem dX1_init_20 : decode cX1_init 20 = .ok (.aload_n 0, 1) := by decide +kernel
theorem dX1_init_21 : decode cX1_init 21 = .ok (.iconst 3, 1) := by decide +kernel
theorem dX1_init_22 : decode cX1_init 22 = .ok (.newarray .int, 2) := by decide +kernel
theorem dX1_init_24 : decode cX1_init 24 = .ok (.putfield 18, 3) := by decide +kernel
theorem dX1_init_27 : decode cX1_init 27 = .ok (.aload_n 0, 1) := by decide +kernel
theorem dX1_init_28 : decode cX1_init 28 = .ok (.iconst 0, 1) := by decide +kernel
theorem dX1_init_29 : decode cX1_init 29 = .ok (.putfield 22, 3) := by decide +kernel
theorem dX1_init_32 : decode cX1_init 32 = .ok (.aload_n 0, 1) := by decide +kernel
theorem dX1_init_33 : decode cX1_init 33 = .ok (.iconst (-1), 1) := by decide +kernel
theorem dX1_init_34 : decode cX1_init 34 = .ok (.putfield 26, 3) := by decide +kernel
theorem dX1_init_37 : decode cX1_init 37 = .ok (.aload_n 0, 1) := by decide +kernel
theorem dX1_init_38 : decode cX1_init 38 = .ok (.iconst (-1), 1) := by decide +kernel
theorem dX1_init_39 : decode cX1_init 39 = .ok (.putfield 29, 3) := by decide +kernel
theorem dX1_init_42 : decode cX1_init 42 = .ok (.return_, 1) := by decide +kernel
theorem dX1_forget_0 : decode cX1_forget 0 = .ok (.aload_n 0, 1) := by decide +kernel
theorem dX1_forget_1 : decode cX1_forget 1 = .ok (.iconst (-1), 1) := by decide +kernel
theorem dX1_forget_2 : decode cX1_forget 2 = .ok (.putfield 26, 3) := by decide +kernel
theorem dX1_forget_5 : decode cX1_forget 5 = .ok (.return_, 1) := by decide +kernel
theorem dX1_explain_0 : decode cX1_explain 0 = .ok (.aload_n 0, 1) := by decide +kernel
theorem dX1_explain_1 : decode cX1_explain 1 = .ok (.iload_n 1, 1) := by decide +kernel
theorem dX1_explain_2 : decode cX1_explain 2 = .ok (.putfield 26, 3) := by decide +kernel
theorem dX1_explain_5 : decode cX1_explain 5 = .ok (.iconst 0, 1) := by decide +kernel
theorem dX1_explain_6 : decode cX1_explain 6 = .ok (.istore 4, 2) := by decide +kernel
theorem dX1_explain_8 : decode cX1_explain 8 = .ok (.iload 4, 2) := by decide +kernel
theorem dX1_explain_10 : decode cX1_explain 10 = .ok (.bipush 16, 2) := by decide +kernel
theorem dX1_explain_12 : decode cX1_explain 12 = .ok (.if_icmp .ge 56, 3) := by decide +kernel
theorem dX1_explain_15 : decode cX1_explain 15 = .ok (.aload_n 0, 1) := by decide +kernel
theorem dX1_explain_16 : decode cX1_explain 16 = .ok (.getfield 26, 3) := by decide +kernel
theorem dX1_explain_19 : decode cX1_explain 19 = .ok (.iload 4, 2) := by decide +kernel
theorem dX1_explain_21 : decode cX1_explain 21 = .ok (.invokestatic 32, 3) := by decide +kernel
theorem dX1_explain_24 : decode cX1_explain 24 = .ok (.lstore 5, 2) := by decide +kernel
theorem dX1_explain_26 : decode cX1_explain 26 = .ok (.aload_n 0, 1) := by decide +kernel
theorem dX1_explain_27 : decode cX1_explain 27 = .ok (.getfield 9, 3) := by decide +kernel
theorem dX1_explain_30 : decode cX1_explain 30 = .ok (.iload 4, 2) := by decide +kernel
theorem dX1_explain_32 : decode cX1_explain 32 = .ok (.aload_n 2, 1) := by decide +kernel
theorem dX1_explain_33 : decode cX1_explain 33 = .ok (.iload 4, 2) := by decide +kernel
theorem dX1_explain_35 : decode cX1_explain 35 = .ok (.invokevirtual 38, 3) := by decide +kernel
theorem dX1_explain_38 : decode cX1_explain 38 = .ok (.lload 5, 2) := by decide +kernel
theorem dX1_explain_40 : decode cX1_explain 40 = .ok (.land, 1) := by decide +kernel
theorem dX1_explain_41 : decode cX1_explain 41 = .ok (.lastore, 1) := by decide +kernel
theorem dX1_explain_42 : decode cX1_explain 42 = .ok (.aload_n 0, 1) := by decide +kernel
theorem dX1_explain_43 : decode cX1_explain 43 = .ok (.getfield 15, 3) := by decide +kernel
theorem dX1_explain_46 : decode cX1_explain 46 = .ok (.iload 4, 2) := by decide +kernel
theorem dX1_explain_48 : decode cX1_explain 48 = .ok (.aload_n 2, 1) := by decide +kernel
theorem dX1_explain_49 : decode cX1_explain 49 = .ok (.iload 4, 2) := by decide +kernel
theorem dX1_explain_51 : decode cX1_explain 51 = .ok (.invokevirtual 38, 3) := by decide +kernel
theorem dX1_explain_54 : decode cX1_explain 54 = .ok (.lload 5, 2) := by decide +kernel
theorem dX1_explain_56 : decode cX1_explain 56 = .ok (.ldc2_w 42, 3) := by decide +kernel
theorem dX1_explain_59 : decode cX1_explain 59 = .ok (.lxor, 1) := by decide +kernel
theorem dX1_explain_60 : decode cX1_explain 60 = .ok (.land, 1) := by decide +kernel
theorem dX1_explain_61 : decode cX1_explain 61 = .ok (.lastore, 1) := by decide +kernel
theorem dX1_explain_62 : decode cX1_explain 62 = .ok (.iinc 4 1, 3) := by decide +kernel
theorem dX1_explain_65 : decode cX1_explain 65 = .ok (.goto (-57), 3) := by decide +kernel
theorem dX1_explain_68 : decode cX1_explain 68 = .ok (.iload_n 3, 1) := by decide +kernel
theorem dX1_explain_69 : decode cX1_explain 69 = .ok (.iconst 1, 1) := by decide +kernel
theorem dX1_explain_70 : decode cX1_explain 70 = .ok (.aload_n 0, 1) := by decide +kernel
theorem dX1_explain_71 : decode cX1_explain 71 = .ok (.getfield 26, 3) := by decide +kernel
theorem dX1_explain_74 : decode cX1_explain 74 = .ok (.ishl, 1) := by decide +kernel
theorem dX1_explain_75 : decode cX1_explain 75 = .ok (.ior, 1) := by decide +kernel
theorem dX1_explain_76 : decode cX1_explain 76 = .ok (.invokestatic 44, 3) := by decide +kernel
theorem dX1_explain_79 : decode cX1_explain 79 = .ok (.istore 4, 2) := by decide +kernel
theorem dX1_explain_81 : decode cX1_explain 81 = .ok (.aload_n 0, 1) := by decide +kernel
theorem dX1_explain_82 : decode cX1_explain 82 = .ok (.iload 4, 2) := by decide +kernel
theorem dX1_explain_84 : decode cX1_explain 84 = .ok (.iload 4, 2) := by decide +kernel
theorem dX1_explain_86 : decode cX1_explain 86 = .ok (.iconst 1, 1) := by decide +kernel
theorem dX1_explain_87 : decode cX1_explain 87 = .ok (.ishl, 1) := by decide +kernel
theorem dX1_explain_88 : decode cX1_explain 88 = .ok (.ior, 1) := by decide +kernel
theorem dX1_explain_89 : decode cX1_explain 89 = .ok (.iconst (-1), 1) := by decide +kernel
theorem dX1_explain_90 : decode cX1_explain 90 = .ok (.ixor, 1) := by decide +kernel
theorem dX1_explain_91 : decode cX1_explain 91 = .ok (.putfield 22, 3) := by decide +kernel
theorem dX1_explain_94 : decode cX1_explain 94 = .ok (.aload_n 0, 1) := by decide +kernel
theorem dX1_explain_95 : decode cX1_explain 95 = .ok (.iconst (-1), 1) := by decide +kernel
theorem dX1_explain_96 : decode cX1_explain 96 = .ok (.putfield 29, 3) := by decide +kernel
theorem dX1_explain_99 : decode cX1_explain 99 = .ok (.iconst 0, 1) := by decide +kernel
theorem dX1_explain_100 : decode cX1_explain 100 = .ok (.istore 5, 2) := by decide +kernel
theorem dX1_explain_102 : decode cX1_explain 102 = .ok (.iload 5, 2) := by decide +kernel
theorem dX1_explain_104 : decode cX1_explain 104 = .ok (.iconst 3, 1) := by decide +kernel
theorem dX1_explain_105 : decode cX1_explain 105 = .ok (.if_icmp .gt 34, 3) := by decide +kernel
theorem dX1_explain_108 : decode cX1_explain 108 = .ok (.aload_n 0, 1) := by decide +kernel
theorem dX1_explain_109 : decode cX1_explain 109 = .ok (.getfield 29, 3) := by decide +kernel
theorem dX1_explain_112 : decode cX1_explain 112 = .ok (.iconst (-1), 1) := by decide +kernel
theorem dX1_explain_113 : decode cX1_explain 113 = .ok (.if_icmp .ne 26, 3) := by decide +kernel
theorem dX1_explain_116 : decode cX1_explain 116 = .ok (.aload_n 0, 1) := by decide +kernel
theorem dX1_explain_117 : decode cX1_explain 117 = .ok (.iconst 0, 1) := by decide +kernel
theorem dX1_explain_118 : decode cX1_explain 118 = .ok (.iconst 2, 1) := by decide +kernel
theorem dX1_explain_119 : decode cX1_explain 119 = .ok (.iload 5, 2) := by decide +kernel
theorem dX1_explain_121 : decode cX1_explain 121 = .ok (.invokevirtual 48, 3) := by decide +kernel
theorem dX1_explain_124 : decode cX1_explain 124 = .ok (.ifCond .eq 9, 3) := by decide +kernel
theorem dX1_explain_127 : decode cX1_explain 127 = .ok (.aload_n 0, 1) := by decide +kernel
theorem dX1_explain_128 : decode cX1_explain 128 = .ok (.iload 5, 2) := by decide +kernel
theorem dX1_explain_130 : decode cX1_explain 130 = .ok (.putfield 29, 3) := by decide +kernel
theorem dX1_explain_133 : decode cX1_explain 133 = .ok (.iinc 5 1, 3) := by decide +kernel
theorem dX1_explain_136 : decode cX1_explain 136 = .ok (.goto (-34), 3) := by decide +kernel
theorem dX1_explain_139 : decode cX1_explain 139 = .ok (.return_, 1) := by decide +kernel
theorem dX1_complete_0 : decode cX1_complete 0 = .ok (.iload_n 1, 1) := by decide +kernel
theorem dX1_complete_1 : decode cX1_complete 1 = .ok (.iload_n 3, 1) := by decide +kernel
theorem dX1_complete_2 : decode cX1_complete 2 = .ok (.if_icmp .ge 12, 3) := by decide +kernel
theorem dX1_complete_5 : decode cX1_complete 5 = .ok (.iload_n 1, 1) := by decide +kernel
theorem dX1_complete_6 : decode cX1_complete 6 = .ok (.ifCond .lt 8, 3) := by decide +kernel
theorem dX1_complete_9 : decode cX1_complete 9 = .ok (.iload_n 1, 1) := by decide +kernel
theorem dX1_complete_10 : decode cX1_complete 10 = .ok (.iconst 3, 1) := by decide +kernel
theorem dX1_complete_11 : decode cX1_complete 11 = .ok (.if_icmp .lt 9, 3) := by decide +kernel
theorem dX1_complete_14 : decode cX1_complete 14 = .ok (.aload_n 0, 1) := by decide +kernel
theorem dX1_complete_15 : decode cX1_complete 15 = .ok (.iload_n 3, 1) := by decide +kernel
theorem dX1_complete_16 : decode cX1_complete 16 = .ok (.invokevirtual 52, 3) := by decide +kernel
theorem dX1_complete_19 : decode cX1_complete 19 = .ok (.ireturn, 1) := by decide +kernel
theorem dX1_complete_20 : decode cX1_complete 20 = .ok (.iload_n 2, 1) := by decide +kernel
theorem dX1_complete_21 : decode cX1_complete 21 = .ok (.istore 4, 2) := by decide +kernel
theorem dX1_complete_23 : decode cX1_complete 23 = .ok (.iload 4, 2) := by decide +kernel
theorem dX1_complete_25 : decode cX1_complete 25 = .ok (.bipush 21, 2) := by decide +kernel
theorem dX1_complete_27 : decode cX1_complete 27 = .ok (.if_icmp .gt 52, 3) := by decide +kernel
theorem dX1_complete_30 : decode cX1_complete 30 = .ok (.aload_n 0, 1) := by decide +kernel
theorem dX1_complete_31 : decode cX1_complete 31 = .ok (.getfield 22, 3) := by decide +kernel
theorem dX1_complete_34 : decode cX1_complete 34 = .ok (.iload 4, 2) := by decide +kernel
theorem dX1_complete_36 : decode cX1_complete 36 = .ok (.invokestatic 56, 3) := by decide +kernel
theorem dX1_complete_39 : decode cX1_complete 39 = .ok (.ifCond .eq 34, 3) := by decide +kernel
theorem dX1_complete_42 : decode cX1_complete 42 = .ok (.aload_n 0, 1) := by decide +kernel
theorem dX1_complete_43 : decode cX1_complete 43 = .ok (.getfield 18, 3) := by decide +kernel
theorem dX1_complete_46 : decode cX1_complete 46 = .ok (.iload_n 1, 1) := by decide +kernel
theorem dX1_complete_47 : decode cX1_complete 47 = .ok (.iload 4, 2) := by decide +kernel
theorem dX1_complete_49 : decode cX1_complete 49 = .ok (.iastore, 1) := by decide +kernel
theorem dX1_complete_50 : decode cX1_complete 50 = .ok (.iload 4, 2) := by decide +kernel
theorem dX1_complete_52 : decode cX1_complete 52 = .ok (.iconst 1, 1) := by decide +kernel
theorem dX1_complete_53 : decode cX1_complete 53 = .ok (.ior, 1) := by decide +kernel
theorem dX1_complete_54 : decode cX1_complete 54 = .ok (.iconst 1, 1) := by decide +kernel
theorem dX1_complete_55 : decode cX1_complete 55 = .ok (.iadd, 1) := by decide +kernel
theorem dX1_complete_56 : decode cX1_complete 56 = .ok (.istore 5, 2) := by decide +kernel
theorem dX1_complete_58 : decode cX1_complete 58 = .ok (.aload_n 0, 1) := by decide +kernel
theorem dX1_complete_59 : decode cX1_complete 59 = .ok (.iload_n 1, 1) := by decide +kernel
theorem dX1_complete_60 : decode cX1_complete 60 = .ok (.iconst 1, 1) := by decide +kernel
theorem dX1_complete_61 : decode cX1_complete 61 = .ok (.iadd, 1) := by decide +kernel
theorem dX1_complete_62 : decode cX1_complete 62 = .ok (.iload 5, 2) := by decide +kernel
theorem dX1_complete_64 : decode cX1_complete 64 = .ok (.iload_n 3, 1) := by decide +kernel
theorem dX1_complete_65 : decode cX1_complete 65 = .ok (.invokevirtual 48, 3) := by decide +kernel
theorem dX1_complete_68 : decode cX1_complete 68 = .ok (.ifCond .eq 5, 3) := by decide +kernel
theorem dX1_complete_71 : decode cX1_complete 71 = .ok (.iconst 1, 1) := by decide +kernel
theorem dX1_complete_72 : decode cX1_complete 72 = .ok (.ireturn, 1) := by decide +kernel
theorem dX1_complete_73 : decode cX1_complete 73 = .ok (.iinc 4 1, 3) := by decide +kernel
theorem dX1_complete_76 : decode cX1_complete 76 = .ok (.goto (-53), 3) := by decide +kernel
theorem dX1_complete_79 : decode cX1_complete 79 = .ok (.iconst 0, 1) := by decide +kernel
theorem dX1_complete_80 : decode cX1_complete 80 = .ok (.ireturn, 1) := by decide +kernel
theorem dX1_explains_0 : decode cX1_explains 0 = .ok (.iconst 0, 1) := by decide +kernel
theorem dX1_explains_1 : decode cX1_explains 1 = .ok (.istore_n 2, 1) := by decide +kernel
theorem dX1_explains_2 : decode cX1_explains 2 = .ok (.iconst 0, 1) := by decide +kernel
theorem dX1_explains_3 : decode cX1_explains 3 = .ok (.istore_n 3, 1) := by decide +kernel
theorem dX1_explains_4 : decode cX1_explains 4 = .ok (.iload_n 3, 1) := by decide +kernel
theorem dX1_explains_5 : decode cX1_explains 5 = .ok (.bipush 16, 2) := by decide +kernel
theorem dX1_explains_7 : decode cX1_explains 7 = .ok (.if_icmp .ge 91, 3) := by decide +kernel
theorem dX1_explains_10 : decode cX1_explains 10 = .ok (.ldc2_w 42, 3) := by decide +kernel
theorem dX1_explains_13 : decode cX1_explains 13 = .ok (.lstore 4, 2) := by decide +kernel
theorem dX1_explains_15 : decode cX1_explains 15 = .ok (.iconst 0, 1) := by decide +kernel
theorem dX1_explains_16 : decode cX1_explains 16 = .ok (.istore 6, 2) := by decide +kernel
theorem dX1_explains_18 : decode cX1_explains 18 = .ok (.iload 6, 2) := by decide +kernel
theorem dX1_explains_20 : decode cX1_explains 20 = .ok (.iload_n 1, 1) := by decide +kernel
theorem dX1_explains_21 : decode cX1_explains 21 = .ok (.if_icmp .ge 31, 3) := by decide +kernel
theorem dX1_explains_24 : decode cX1_explains 24 = .ok (.iload 6, 2) := by decide +kernel
theorem dX1_explains_26 : decode cX1_explains 26 = .ok (.iconst 3, 1) := by decide +kernel
theorem dX1_explains_27 : decode cX1_explains 27 = .ok (.if_icmp .ge 25, 3) := by decide +kernel
theorem dX1_explains_30 : decode cX1_explains 30 = .ok (.lload 4, 2) := by decide +kernel
theorem dX1_explains_32 : decode cX1_explains 32 = .ok (.aload_n 0, 1) := by decide +kernel
theorem dX1_explains_33 : decode cX1_explains 33 = .ok (.getfield 18, 3) := by decide +kernel
theorem dX1_explains_36 : decode cX1_explains 36 = .ok (.iload 6, 2) := by decide +kernel
theorem dX1_explains_38 : decode cX1_explains 38 = .ok (.iaload, 1) := by decide +kernel
theorem dX1_explains_39 : decode cX1_explains 39 = .ok (.iload_n 3, 1) := by decide +kernel
theorem dX1_explains_40 : decode cX1_explains 40 = .ok (.invokestatic 32, 3) := by decide +kernel
theorem dX1_explains_43 : decode cX1_explains 43 = .ok (.land, 1) := by decide +kernel
theorem dX1_explains_44 : decode cX1_explains 44 = .ok (.lstore 4, 2) := by decide +kernel
theorem dX1_explains_46 : decode cX1_explains 46 = .ok (.iinc 6 1, 3) := by decide +kernel
theorem dX1_explains_49 : decode cX1_explains 49 = .ok (.goto (-31), 3) := by decide +kernel
theorem dX1_explains_52 : decode cX1_explains 52 = .ok (.aload_n 0, 1) := by decide +kernel
theorem dX1_explains_53 : decode cX1_explains 53 = .ok (.getfield 15, 3) := by decide +kernel
theorem dX1_explains_56 : decode cX1_explains 56 = .ok (.iload_n 3, 1) := by decide +kernel
theorem dX1_explains_57 : decode cX1_explains 57 = .ok (.laload, 1) := by decide +kernel
theorem dX1_explains_58 : decode cX1_explains 58 = .ok (.lload 4, 2) := by decide +kernel
theorem dX1_explains_60 : decode cX1_explains 60 = .ok (.land, 1) := by decide +kernel
theorem dX1_explains_61 : decode cX1_explains 61 = .ok (.lconst 0, 1) := by decide +kernel
theorem dX1_explains_62 : decode cX1_explains 62 = .ok (.lcmp, 1) := by decide +kernel
theorem dX1_explains_63 : decode cX1_explains 63 = .ok (.ifCond .eq 5, 3) := by decide +kernel
theorem dX1_explains_66 : decode cX1_explains 66 = .ok (.iconst 0, 1) := by decide +kernel
theorem dX1_explains_67 : decode cX1_explains 67 = .ok (.ireturn, 1) := by decide +kernel
theorem dX1_explains_68 : decode cX1_explains 68 = .ok (.iload_n 2, 1) := by decide +kernel
theorem dX1_explains_69 : decode cX1_explains 69 = .ok (.ifCond .ne 17, 3) := by decide +kernel
theorem dX1_explains_72 : decode cX1_explains 72 = .ok (.aload_n 0, 1) := by decide +kernel
theorem dX1_explains_73 : decode cX1_explains 73 = .ok (.getfield 9, 3) := by decide +kernel
theorem dX1_explains_76 : decode cX1_explains 76 = .ok (.iload_n 3, 1) := by decide +kernel
theorem dX1_explains_77 : decode cX1_explains 77 = .ok (.laload, 1) := by decide +kernel
theorem dX1_explains_78 : decode cX1_explains 78 = .ok (.lload 4, 2) := by decide +kernel
theorem dX1_explains_80 : decode cX1_explains 80 = .ok (.land, 1) := by decide +kernel
theorem dX1_explains_81 : decode cX1_explains 81 = .ok (.lconst 0, 1) := by decide +kernel
theorem dX1_explains_82 : decode cX1_explains 82 = .ok (.lcmp, 1) := by decide +kernel
theorem dX1_explains_83 : decode cX1_explains 83 = .ok (.ifCond .eq 7, 3) := by decide +kernel
theorem dX1_explains_86 : decode cX1_explains 86 = .ok (.iconst 1, 1) := by decide +kernel
theorem dX1_explains_87 : decode cX1_explains 87 = .ok (.goto 4, 3) := by decide +kernel
theorem dX1_explains_90 : decode cX1_explains 90 = .ok (.iconst 0, 1) := by decide +kernel
theorem dX1_explains_91 : decode cX1_explains 91 = .ok (.istore_n 2, 1) := by decide +kernel
theorem dX1_explains_92 : decode cX1_explains 92 = .ok (.iinc 3 1, 3) := by decide +kernel
theorem dX1_explains_95 : decode cX1_explains 95 = .ok (.goto (-91), 3) := by decide +kernel
theorem dX1_explains_98 : decode cX1_explains 98 = .ok (.iload_n 2, 1) := by decide +kernel
theorem dX1_explains_99 : decode cX1_explains 99 = .ok (.ireturn, 1) := by decide +kernel
theorem dX1_literalAt_0 : decode cX1_literalAt 0 = .ok (.iload_n 1, 1) := by decide +kernel
theorem dX1_literalAt_1 : decode cX1_literalAt 1 = .ok (.ifCond .lt 20, 3) := by decide +kernel
theorem dX1_literalAt_4 : decode cX1_literalAt 4 = .ok (.iload_n 1, 1) := by decide +kernel
theorem dX1_literalAt_5 : decode cX1_literalAt 5 = .ok (.aload_n 0, 1) := by decide +kernel
theorem dX1_literalAt_6 : decode cX1_literalAt 6 = .ok (.getfield 29, 3) := by decide +kernel
theorem dX1_literalAt_9 : decode cX1_literalAt 9 = .ok (.if_icmp .ge 12, 3) := by decide +kernel
theorem dX1_literalAt_12 : decode cX1_literalAt 12 = .ok (.iload_n 1, 1) := by decide +kernel
theorem dX1_literalAt_13 : decode cX1_literalAt 13 = .ok (.iconst 3, 1) := by decide +kernel
theorem dX1_literalAt_14 : decode cX1_literalAt 14 = .ok (.if_icmp .ge 7, 3) := by decide +kernel
theorem dX1_literalAt_17 : decode cX1_literalAt 17 = .ok (.iconst 1, 1) := by decide +kernel
theorem dX1_literalAt_18 : decode cX1_literalAt 18 = .ok (.goto 4, 3) := by decide +kernel
theorem dX1_literalAt_21 : decode cX1_literalAt 21 = .ok (.iconst 0, 1) := by decide +kernel
theorem dX1_literalAt_22 : decode cX1_literalAt 22 = .ok (.istore_n 2, 1) := by decide +kernel
theorem dX1_literalAt_23 : decode cX1_literalAt 23 = .ok (.iload_n 2, 1) := by decide +kernel
theorem dX1_literalAt_24 : decode cX1_literalAt 24 = .ok (.ifCond .eq 15, 3) := by decide +kernel
theorem dX1_literalAt_27 : decode cX1_literalAt 27 = .ok (.aload_n 0, 1) := by decide +kernel
theorem dX1_literalAt_28 : decode cX1_literalAt 28 = .ok (.getfield 18, 3) := by decide +kernel
theorem dX1_literalAt_31 : decode cX1_literalAt 31 = .ok (.iload_n 1, 1) := by decide +kernel
theorem dX1_literalAt_32 : decode cX1_literalAt 32 = .ok (.iaload, 1) := by decide +kernel
theorem dX1_literalAt_33 : decode cX1_literalAt 33 = .ok (.invokestatic 60, 3) := by decide +kernel
theorem dX1_literalAt_36 : decode cX1_literalAt 36 = .ok (.goto 4, 3) := by decide +kernel
theorem dX1_literalAt_39 : decode cX1_literalAt 39 = .ok (.iconst 0, 1) := by decide +kernel
theorem dX1_literalAt_40 : decode cX1_literalAt 40 = .ok (.ireturn, 1) := by decide +kernel
theorem dX2_init_0 : decode cX2_init 0 = .ok (.aload_n 0, 1) := by decide +kernel
theorem dX2_init_1 : decode cX2_init 1 = .ok (.invokespecial 3, 3) := by decide +kernel
theorem dX2_init_4 : decode cX2_init 4 = .ok (.aload_n 0, 1) := by decide +kernel
theorem dX2_init_5 : decode cX2_init 5 = .ok (.sipush 150, 3) := by decide +kernel
theorem dX2_init_8 : decode cX2_init 8 = .ok (.newarray .int, 2) := by decide +kernel
theorem dX2_init_10 : decode cX2_init 10 = .ok (.putfield 9, 3) := by decide +kernel
theorem dX2_init_13 : decode cX2_init 13 = .ok (.aload_n 0, 1) := by decide +kernel
theorem dX2_init_14 : decode cX2_init 14 = .ok (.iconst 0, 1) := by decide +kernel
theorem dX2_init_15 : decode cX2_init 15 = .ok (.putfield 15, 3) := by decide +kernel
theorem dX2_init_18 : decode cX2_init 18 = .ok (.return_, 1) := by decide +kernel
theorem dX2_addByte_0 : decode cX2_addByte 0 = .ok (.aload_n 0, 1) := by decide +kernel
theorem dX2_addByte_1 : decode cX2_addByte 1 = .ok (.getfield 15, 3) := by decide +kernel
theorem dX2_addByte_4 : decode cX2_addByte 4 = .ok (.sipush 150, 3) := by decide +kernel
theorem dX2_addByte_7 : decode cX2_addByte 7 = .ok (.if_icmp .ge 23, 3) := by decide +kernel
theorem dX2_addByte_10 : decode cX2_addByte 10 = .ok (.aload_n 0, 1) := by decide +kernel
theorem dX2_addByte_11 : decode cX2_addByte 11 = .ok (.getfield 9, 3) := by decide +kernel
theorem dX2_addByte_14 : decode cX2_addByte 14 = .ok (.aload_n 0, 1) := by decide +kernel
theorem dX2_addByte_15 : decode cX2_addByte 15 = .ok (.getfield 15, 3) := by decide +kernel
theorem dX2_addByte_18 : decode cX2_addByte 18 = .ok (.iload_n 1, 1) := by decide +kernel
theorem dX2_addByte_19 : decode cX2_addByte 19 = .ok (.iastore, 1) := by decide +kernel
theorem dX2_addByte_20 : decode cX2_addByte 20 = .ok (.aload_n 0, 1) := by decide +kernel
theorem dX2_addByte_21 : decode cX2_addByte 21 = .ok (.dup, 1) := by decide +kernel
theorem dX2_addByte_22 : decode cX2_addByte 22 = .ok (.getfield 15, 3) := by decide +kernel
theorem dX2_addByte_25 : decode cX2_addByte 25 = .ok (.iconst 1, 1) := by decide +kernel
theorem dX2_addByte_26 : decode cX2_addByte 26 = .ok (.iadd, 1) := by decide +kernel
theorem dX2_addByte_27 : decode cX2_addByte 27 = .ok (.putfield 15, 3) := by decide +kernel
theorem dX2_addByte_30 : decode cX2_addByte 30 = .ok (.return_, 1) := by decide +kernel
theorem dX2_byteAt_0 : decode cX2_byteAt 0 = .ok (.iload_n 1, 1) := by decide +kernel
theorem dX2_byteAt_1 : decode cX2_byteAt 1 = .ok (.ifCond .lt 20, 3) := by decide +kernel
theorem dX2_byteAt_4 : decode cX2_byteAt 4 = .ok (.iload_n 1, 1) := by decide +kernel
theorem dX2_byteAt_5 : decode cX2_byteAt 5 = .ok (.aload_n 0, 1) := by decide +kernel
theorem dX2_byteAt_6 : decode cX2_byteAt 6 = .ok (.getfield 15, 3) := by decide +kernel
theorem dX2_byteAt_9 : decode cX2_byteAt 9 = .ok (.if_icmp .ge 12, 3) := by decide +kernel
theorem dX2_byteAt_12 : decode cX2_byteAt 12 = .ok (.aload_n 0, 1) := by decide +kernel
theorem dX2_byteAt_13 : decode cX2_byteAt 13 = .ok (.getfield 9, 3) := by decide +kernel
theorem dX2_byteAt_16 : decode cX2_byteAt 16 = .ok (.iload_n 1, 1) := by decide +kernel
theorem dX2_byteAt_17 : decode cX2_byteAt 17 = .ok (.iaload, 1) := by decide +kernel
theorem dX2_byteAt_18 : decode cX2_byteAt 18 = .ok (.goto 4, 3) := by decide +kernel
theorem dX2_byteAt_21 : decode cX2_byteAt 21 = .ok (.iconst (-1), 1) := by decide +kernel
theorem dX2_byteAt_22 : decode cX2_byteAt 22 = .ok (.ireturn, 1) := by decide +kernel
theorem dX2_hasDigitAt_0 : decode cX2_hasDigitAt 0 = .ok (.aload_n 0, 1) := by decide +kernel
theorem dX2_hasDigitAt_1 : decode cX2_hasDigitAt 1 = .ok (.iload_n 1, 1) := by decide +kernel
theorem dX2_hasDigitAt_2 : decode cX2_hasDigitAt 2 = .ok (.invokevirtual 19, 3) := by decide +kernel
theorem dX2_hasDigitAt_5 : decode cX2_hasDigitAt 5 = .ok (.istore_n 2, 1) := by decide +kernel
theorem dX2_hasDigitAt_6 : decode cX2_hasDigitAt 6 = .ok (.iload_n 2, 1) := by decide +kernel
theorem dX2_hasDigitAt_7 : decode cX2_hasDigitAt 7 = .ok (.bipush 48, 2) := by decide +kernel
theorem dX2_hasDigitAt_9 : decode cX2_hasDigitAt 9 = .ok (.if_icmp .lt 13, 3) := by decide +kernel
theorem dX2_hasDigitAt_12 : decode cX2_hasDigitAt 12 = .ok (.iload_n 2, 1) := by decide +kernel
theorem dX2_hasDigitAt_13 : decode cX2_hasDigitAt 13 = .ok (.bipush 57, 2) := by decide +kernel
theorem dX2_hasDigitAt_15 : decode cX2_hasDigitAt 15 = .ok (.if_icmp .gt 7, 3) := by decide +kernel
theorem dX2_hasDigitAt_18 : decode cX2_hasDigitAt 18 = .ok (.iconst 1, 1) := by decide +kernel
theorem dX2_hasDigitAt_19 : decode cX2_hasDigitAt 19 = .ok (.goto 4, 3) := by decide +kernel
theorem dX2_hasDigitAt_22 : decode cX2_hasDigitAt 22 = .ok (.iconst 0, 1) := by decide +kernel
theorem dX2_hasDigitAt_23 : decode cX2_hasDigitAt 23 = .ok (.ireturn, 1) := by decide +kernel
theorem dX3_init_0 : decode cX3_init 0 = .ok (.aload_n 0, 1) := by decide +kernel
theorem dX3_init_1 : decode cX3_init 1 = .ok (.invokespecial 3, 3) := by decide +kernel
theorem dX3_init_4 : decode cX3_init 4 = .ok (.aload_n 0, 1) := by decide +kernel
theorem dX3_init_5 : decode cX3_init 5 = .ok (.sipush 176, 3) := by decide +kernel
theorem dX3_init_8 : decode cX3_init 8 = .ok (.newarray .int, 2) := by decide +kernel
theorem dX3_init_10 : decode cX3_init 10 = .ok (.putfield 11, 3) := by decide +kernel
theorem dX3_init_13 : decode cX3_init 13 = .ok (.aload_n 0, 1) := by decide +kernel
theorem dX3_init_14 : decode cX3_init 14 = .ok (.bipush 64, 2) := by decide +kernel
theorem dX3_init_16 : decode cX3_init 16 = .ok (.newarray .int, 2) := by decide +kernel
theorem dX3_init_18 : decode cX3_init 18 = .ok (.putfield 15, 3) := by decide +kernel
theorem dX3_init_21 : decode cX3_init 21 = .ok (.aload_n 0, 1) := by decide +kernel
theorem dX3_init_22 : decode cX3_init 22 = .ok (.sipush 1024, 3) := by decide +kernel
theorem dX3_init_25 : decode cX3_init 25 = .ok (.newarray .int, 2) := by decide +kernel
theorem dX3_init_27 : decode cX3_init 27 = .ok (.putfield 18, 3) := by decide +kernel
theorem dX3_init_30 : decode cX3_init 30 = .ok (.aload_n 0, 1) := by decide +kernel
theorem dX3_init_31 : decode cX3_init 31 = .ok (.bipush 64, 2) := by decide +kernel
theorem dX3_init_33 : decode cX3_init 33 = .ok (.newarray .int, 2) := by decide +kernel
theorem dX3_init_35 : decode cX3_init 35 = .ok (.putfield 21, 3) := by decide +kernel
theorem dX3_init_38 : decode cX3_init 38 = .ok (.aload_n 0, 1) := by decide +kernel
theorem dX3_init_39 : decode cX3_init 39 = .ok (.bipush 64, 2) := by decide +kernel
theorem dX3_init_41 : decode cX3_init 41 = .ok (.newarray .int, 2) := by decide +kernel
theorem dX3_init_43 : decode cX3_init 43 = .ok (.putfield 24, 3) := by decide +kernel
theorem dX3_init_46 : decode cX3_init 46 = .ok (.aload_n 0, 1) := by decide +kernel
theorem dX3_init_47 : decode cX3_init 47 = .ok (.bipush 64, 2) := by decide +kernel
theorem dX3_init_49 : decode cX3_init 49 = .ok (.newarray .int, 2) := by decide +kernel
theorem dX3_init_51 : decode cX3_init 51 = .ok (.putfield 27, 3) := by decide +kernel
theorem dX3_init_54 : decode cX3_init 54 = .ok (.return_, 1) := by decide +kernel
theorem dX3_compile_0 : decode cX3_compile 0 = .ok (.aload_n 0, 1) := by decide +kernel
theorem dX3_compile_1 : decode cX3_compile 1 = .ok (.getfield 15, 3) := by decide +kernel
theorem dX3_compile_4 : decode cX3_compile 4 = .ok (.iconst (-1), 1) := by decide +kernel
theorem dX3_compile_5 : decode cX3_compile 5 = .ok (.invokestatic 30, 3) := by decide +kernel
theorem dX3_compile_8 : decode cX3_compile 8 = .ok (.aload_n 0, 1) := by decide +kernel
theorem dX3_compile_9 : decode cX3_compile 9 = .ok (.iconst 0, 1) := by decide +kernel
theorem dX3_compile_10 : decode cX3_compile 10 = .ok (.putfield 36, 3) := by decide +kernel
theorem dX3_compile_13 : decode cX3_compile 13 = .ok (.aload_n 0, 1) := by decide +kernel
theorem dX3_compile_14 : decode cX3_compile 14 = .ok (.iconst 0, 1) := by decide +kernel
theorem dX3_compile_15 : decode cX3_compile 15 = .ok (.putfield 40, 3) := by decide +kernel
theorem dX3_compile_18 : decode cX3_compile 18 = .ok (.aload_n 0, 1) := by decide +kernel
theorem dX3_compile_19 : decode cX3_compile 19 = .ok (.iconst 0, 1) := by decide +kernel
theorem dX3_compile_20 : decode cX3_compile 20 = .ok (.putfield 43, 3) := by decide +kernel
theorem dX3_compile_23 : decode cX3_compile 23 = .ok (.aload_n 0, 1) := by decide +kernel
theorem dX3_compile_24 : decode cX3_compile 24 = .ok (.iconst 0, 1) := by decide +kernel
theorem dX3_compile_25 : decode cX3_compile 25 = .ok (.putfield 46, 3) := by decide +kernel
theorem dX3_compile_28 : decode cX3_compile 28 = .ok (.aload_n 0, 1) := by decide +kernel
theorem dX3_compile_29 : decode cX3_compile 29 = .ok (.iconst 0, 1) := by decide +kernel
theorem dX3_compile_30 : decode cX3_compile 30 = .ok (.putfield 50, 3) := by decide +kernel
theorem dX3_compile_33 : decode cX3_compile 33 = .ok (.aload_n 0, 1) := by decide +kernel
theorem dX3_compile_34 : decode cX3_compile 34 = .ok (.iconst 0, 1) := by decide +kernel
theorem dX3_compile_35 : decode cX3_compile 35 = .ok (.putfield 53, 3) := by decide +kernel
theorem dX3_compile_38 : decode cX3_compile 38 = .ok (.iconst 0, 1) := by decide +kernel
theorem dX3_compile_39 : decode cX3_compile 39 = .ok (.istore_n 2, 1) := by decide +kernel
theorem dX3_compile_40 : decode cX3_compile 40 = .ok (.iload_n 2, 1) := by decide +kernel
theorem dX3_compile_41 : decode cX3_compile 41 = .ok (.aload_n 1, 1) := by decide +kernel
theorem dX3_compile_42 : decode cX3_compile 42 = .ok (.getfield 56, 3) := by decide +kernel
theorem dX3_compile_45 : decode cX3_compile 45 = .ok (.if_icmp .ge 31, 3) := by decide +kernel
theorem dX3_compile_48 : decode cX3_compile 48 = .ok (.aload_n 0, 1) := by decide +kernel
theorem dX3_compile_49 : decode cX3_compile 49 = .ok (.aload_n 0, 1) := by decide +kernel
theorem dX3_compile_50 : decode cX3_compile 50 = .ok (.iconst 0, 1) := by decide +kernel
theorem dX3_compile_51 : decode cX3_compile 51 = .ok (.aload_n 0, 1) := by decide +kernel
theorem dX3_compile_52 : decode cX3_compile 52 = .ok (.getfield 53, 3) := by decide +kernel
theorem dX3_compile_55 : decode cX3_compile 55 = .ok (.aload_n 1, 1) := by decide +kernel
theorem dX3_compile_56 : decode cX3_compile 56 = .ok (.iload_n 2, 1) := by decide +kernel
theorem dX3_compile_57 : decode cX3_compile 57 = .ok (.invokevirtual 61, 3) := by decide +kernel
theorem dX3_compile_60 : decode cX3_compile 60 = .ok (.aload_n 1, 1) := by decide +kernel
theorem dX3_compile_61 : decode cX3_compile 61 = .ok (.getfield 65, 3) := by decide +kernel
theorem dX3_compile_64 : decode cX3_compile 64 = .ok (.invokevirtual 68, 3) := by decide +kernel
theorem dX3_compile_67 : decode cX3_compile 67 = .ok (.putfield 53, 3) := by decide +kernel
theorem dX3_compile_70 : decode cX3_compile 70 = .ok (.iinc 2 1, 3) := by decide +kernel
theorem dX3_compile_73 : decode cX3_compile 73 = .ok (.goto (-33), 3) := by decide +kernel
theorem dX3_compile_76 : decode cX3_compile 76 = .ok (.aload_n 0, 1) := by decide +kernel
theorem dX3_compile_77 : decode cX3_compile 77 = .ok (.aload_n 0, 1) := by decide +kernel
theorem dX3_compile_78 : decode cX3_compile 78 = .ok (.iconst 0, 1) := by decide +kernel
theorem dX3_compile_79 : decode cX3_compile 79 = .ok (.aload_n 0, 1) := by decide +kernel
theorem dX3_compile_80 : decode cX3_compile 80 = .ok (.getfield 53, 3) := by decide +kernel
theorem dX3_compile_83 : decode cX3_compile 83 = .ok (.invokevirtual 72, 3) := by decide +kernel
theorem dX3_compile_86 : decode cX3_compile 86 = .ok (.putfield 76, 3) := by decide +kernel
theorem dX3_compile_89 : decode cX3_compile 89 = .ok (.return_, 1) := by decide +kernel
theorem dX3_nodeTotal_0 : decode cX3_nodeTotal 0 = .ok (.aload_n 0, 1) := by decide +kernel
theorem dX3_nodeTotal_1 : decode cX3_nodeTotal 1 = .ok (.getfield 40, 3) := by decide +kernel
theorem dX3_nodeTotal_4 : decode cX3_nodeTotal 4 = .ok (.aload_n 0, 1) := by decide +kernel
theorem dX3_nodeTotal_5 : decode cX3_nodeTotal 5 = .ok (.getfield 43, 3) := by decide +kernel
theorem dX3_nodeTotal_8 : decode cX3_nodeTotal 8 = .ok (.iadd, 1) := by decide +kernel
theorem dX3_nodeTotal_9 : decode cX3_nodeTotal 9 = .ok (.aload_n 0, 1) := by decide +kernel
theorem dX3_nodeTotal_10 : decode cX3_nodeTotal 10 = .ok (.getfield 46, 3) := by decide +kernel
theorem dX3_nodeTotal_13 : decode cX3_nodeTotal 13 = .ok (.ifCond .eq 7, 3) := by decide +kernel
theorem dX3_nodeTotal_16 : decode cX3_nodeTotal 16 = .ok (.iconst 1, 1) := by decide +kernel
theorem dX3_nodeTotal_17 : decode cX3_nodeTotal 17 = .ok (.goto 4, 3) := by decide +kernel
theorem dX3_nodeTotal_20 : decode cX3_nodeTotal 20 = .ok (.iconst 0, 1) := by decide +kernel
theorem dX3_nodeTotal_21 : decode cX3_nodeTotal 21 = .ok (.iadd, 1) := by decide +kernel
theorem dX3_nodeTotal_22 : decode cX3_nodeTotal 22 = .ok (.aload_n 0, 1) := by decide +kernel
theorem dX3_nodeTotal_23 : decode cX3_nodeTotal 23 = .ok (.getfield 50, 3) := by decide +kernel
theorem dX3_nodeTotal_26 : decode cX3_nodeTotal 26 = .ok (.ifCond .eq 7, 3) := by decide +kernel
theorem dX3_nodeTotal_29 : decode cX3_nodeTotal 29 = .ok (.iconst 1, 1) := by decide +kernel
theorem dX3_nodeTotal_30 : decode cX3_nodeTotal 30 = .ok (.goto 4, 3) := by decide +kernel
theorem dX3_nodeTotal_33 : decode cX3_nodeTotal 33 = .ok (.iconst 0, 1) := by decide +kernel
theorem dX3_nodeTotal_34 : decode cX3_nodeTotal 34 = .ok (.iadd, 1) := by decide +kernel
theorem dX3_nodeTotal_35 : decode cX3_nodeTotal 35 = .ok (.ireturn, 1) := by decide +kernel
theorem dX3_variableAtRoot_0 : decode cX3_variableAtRoot 0 = .ok (.aload_n 0, 1) := by decide +kernel
theorem dX3_variableAtRoot_1 : decode cX3_variableAtRoot 1 = .ok (.getfield 53, 3) := by decide +kernel
theorem dX3_variableAtRoot_4 : decode cX3_variableAtRoot 4 = .ok (.ifCond .ne 5, 3) := by decide +kernel
theorem dX3_variableAtRoot_7 : decode cX3_variableAtRoot 7 = .ok (.iconst (-1), 1) := by decide +kernel
theorem dX3_variableAtRoot_8 : decode cX3_variableAtRoot 8 = .ok (.ireturn, 1) := by decide +kernel
theorem dX3_variableAtRoot_9 : decode cX3_variableAtRoot 9 = .ok (.aload_n 0, 1) := by decide +kernel
theorem dX3_variableAtRoot_10 : decode cX3_variableAtRoot 10 = .ok (.getfield 11, 3) := by decide +kernel
theorem dX3_variableAtRoot_13 : decode cX3_variableAtRoot 13 = .ok (.iconst 0, 1) := by decide +kernel
theorem dX3_variableAtRoot_14 : decode cX3_variableAtRoot 14 = .ok (.iaload, 1) := by decide +kernel
