theorem dX3_makeRoom_40 : decode cX3_makeRoom 40 = .ok (.putfield 21, 3) := by decide +kernel
theorem dX3_makeRoom_43 : decode cX3_makeRoom 43 = .ok (.aload_n 0, 1) := by decide +kernel
theorem dX3_makeRoom_44 : decode cX3_makeRoom 44 = .ok (.aload_n 0, 1) := by decide +kernel
theorem dX3_makeRoom_45 : decode cX3_makeRoom 45 = .ok (.getfield 24, 3) := by decide +kernel
theorem dX3_makeRoom_48 : decode cX3_makeRoom 48 = .ok (.iload_n 1, 1) := by decide +kernel
theorem dX3_makeRoom_49 : decode cX3_makeRoom 49 = .ok (.invokestatic 145, 3) := by decide +kernel
theorem dX3_makeRoom_52 : decode cX3_makeRoom 52 = .ok (.putfield 24, 3) := by decide +kernel
theorem dX3_makeRoom_55 : decode cX3_makeRoom 55 = .ok (.aload_n 0, 1) := by decide +kernel
theorem dX3_makeRoom_56 : decode cX3_makeRoom 56 = .ok (.aload_n 0, 1) := by decide +kernel
theorem dX3_makeRoom_57 : decode cX3_makeRoom 57 = .ok (.getfield 27, 3) := by decide +kernel
theorem dX3_makeRoom_60 : decode cX3_makeRoom 60 = .ok (.iload_n 1, 1) := by decide +kernel
theorem dX3_makeRoom_61 : decode cX3_makeRoom 61 = .ok (.invokestatic 145, 3) := by decide +kernel
theorem dX3_makeRoom_64 : decode cX3_makeRoom 64 = .ok (.putfield 27, 3) := by decide +kernel
theorem dX3_makeRoom_67 : decode cX3_makeRoom 67 = .ok (.return_, 1) := by decide +kernel
theorem dX4_init_0 : decode cX4_init 0 = .ok (.aload_n 0, 1) := by decide +kernel
theorem dX4_init_1 : decode cX4_init 1 = .ok (.invokespecial 3, 3) := by decide +kernel
theorem dX4_init_4 : decode cX4_init 4 = .ok (.aload_n 0, 1) := by decide +kernel
theorem dX4_init_5 : decode cX4_init 5 = .ok (.iconst 5, 1) := by decide +kernel
theorem dX4_init_6 : decode cX4_init 6 = .ok (.anewarray 9, 3) := by decide +kernel
theorem dX4_init_9 : decode cX4_init 9 = .ok (.putfield 11, 3) := by decide +kernel
theorem dX4_init_12 : decode cX4_init 12 = .ok (.iconst 0, 1) := by decide +kernel
theorem dX4_init_13 : decode cX4_init 13 = .ok (.istore_n 1, 1) := by decide +kernel
theorem dX4_init_14 : decode cX4_init 14 = .ok (.iload_n 1, 1) := by decide +kernel
theorem dX4_init_15 : decode cX4_init 15 = .ok (.iconst 5, 1) := by decide +kernel
theorem dX4_init_16 : decode cX4_init 16 = .ok (.if_icmp .ge 22, 3) := by decide +kernel
theorem dX4_init_19 : decode cX4_init 19 = .ok (.aload_n 0, 1) := by decide +kernel
theorem dX4_init_20 : decode cX4_init 20 = .ok (.getfield 11, 3) := by decide +kernel
theorem dX4_init_23 : decode cX4_init 23 = .ok (.iload_n 1, 1) := by decide +kernel
theorem dX4_init_24 : decode cX4_init 24 = .ok (.new 9, 3) := by decide +kernel
theorem dX4_init_27 : decode cX4_init 27 = .ok (.dup, 1) := by decide +kernel
theorem dX4_init_28 : decode cX4_init 28 = .ok (.invokespecial 17, 3) := by decide +kernel
theorem dX4_init_31 : decode cX4_init 31 = .ok (.aastore, 1) := by decide +kernel
theorem dX4_init_32 : decode cX4_init 32 = .ok (.iinc 1 1, 3) := by decide +kernel
theorem dX4_init_35 : decode cX4_init 35 = .ok (.goto (-21), 3) := by decide +kernel
theorem dX4_init_38 : decode cX4_init 38 = .ok (.aload_n 0, 1) := by decide +kernel
theorem dX4_init_39 : decode cX4_init 39 = .ok (.iconst 0, 1) := by decide +kernel
theorem dX4_init_40 : decode cX4_init 40 = .ok (.putfield 18, 3) := by decide +kernel
theorem dX4_init_43 : decode cX4_init 43 = .ok (.return_, 1) := by decide +kernel
theorem dX4_save_0 : decode cX4_save 0 = .ok (.aload_n 0, 1) := by decide +kernel
theorem dX4_save_1 : decode cX4_save 1 = .ok (.getfield 18, 3) := by decide +kernel
theorem dX4_save_4 : decode cX4_save 4 = .ok (.iconst 5, 1) := by decide +kernel
theorem dX4_save_5 : decode cX4_save 5 = .ok (.if_icmp .lt 7, 3) := by decide +kernel
theorem dX4_save_8 : decode cX4_save 8 = .ok (.aload_n 0, 1) := by decide +kernel
theorem dX4_save_9 : decode cX4_save 9 = .ok (.invokevirtual 22, 3) := by decide +kernel
theorem dX4_save_12 : decode cX4_save 12 = .ok (.aload_n 0, 1) := by decide +kernel
theorem dX4_save_13 : decode cX4_save 13 = .ok (.getfield 11, 3) := by decide +kernel
theorem dX4_save_16 : decode cX4_save 16 = .ok (.aload_n 0, 1) := by decide +kernel
theorem dX4_save_17 : decode cX4_save 17 = .ok (.getfield 18, 3) := by decide +kernel
theorem dX4_save_20 : decode cX4_save 20 = .ok (.aaload, 1) := by decide +kernel
theorem dX4_save_21 : decode cX4_save 21 = .ok (.astore_n 2, 1) := by decide +kernel
theorem dX4_save_22 : decode cX4_save 22 = .ok (.aload_n 2, 1) := by decide +kernel
theorem dX4_save_23 : decode cX4_save 23 = .ok (.ifnull 18, 3) := by decide +kernel
theorem dX4_save_26 : decode cX4_save 26 = .ok (.aload_n 2, 1) := by decide +kernel
theorem dX4_save_27 : decode cX4_save 27 = .ok (.aload_n 1, 1) := by decide +kernel
theorem dX4_save_28 : decode cX4_save 28 = .ok (.invokevirtual 25, 3) := by decide +kernel
theorem dX4_save_31 : decode cX4_save 31 = .ok (.aload_n 0, 1) := by decide +kernel
theorem dX4_save_32 : decode cX4_save 32 = .ok (.dup, 1) := by decide +kernel
theorem dX4_save_33 : decode cX4_save 33 = .ok (.getfield 18, 3) := by decide +kernel
theorem dX4_save_36 : decode cX4_save 36 = .ok (.iconst 1, 1) := by decide +kernel
theorem dX4_save_37 : decode cX4_save 37 = .ok (.iadd, 1) := by decide +kernel
theorem dX4_save_38 : decode cX4_save 38 = .ok (.putfield 18, 3) := by decide +kernel
theorem dX4_save_41 : decode cX4_save 41 = .ok (.return_, 1) := by decide +kernel
theorem dX4_dropOldest_0 : decode cX4_dropOldest 0 = .ok (.aload_n 0, 1) := by decide +kernel
theorem dX4_dropOldest_1 : decode cX4_dropOldest 1 = .ok (.getfield 11, 3) := by decide +kernel
theorem dX4_dropOldest_4 : decode cX4_dropOldest 4 = .ok (.iconst 0, 1) := by decide +kernel
theorem dX4_dropOldest_5 : decode cX4_dropOldest 5 = .ok (.aaload, 1) := by decide +kernel
theorem dX4_dropOldest_6 : decode cX4_dropOldest 6 = .ok (.astore_n 1, 1) := by decide +kernel
theorem dX4_dropOldest_7 : decode cX4_dropOldest 7 = .ok (.iconst 0, 1) := by decide +kernel
theorem dX4_dropOldest_8 : decode cX4_dropOldest 8 = .ok (.istore_n 2, 1) := by decide +kernel
theorem dX4_dropOldest_9 : decode cX4_dropOldest 9 = .ok (.iload_n 2, 1) := by decide +kernel
theorem dX4_dropOldest_10 : decode cX4_dropOldest 10 = .ok (.iconst 1, 1) := by decide +kernel
theorem dX4_dropOldest_11 : decode cX4_dropOldest 11 = .ok (.iadd, 1) := by decide +kernel
theorem dX4_dropOldest_12 : decode cX4_dropOldest 12 = .ok (.iconst 5, 1) := by decide +kernel
theorem dX4_dropOldest_13 : decode cX4_dropOldest 13 = .ok (.if_icmp .ge 23, 3) := by decide +kernel
theorem dX4_dropOldest_16 : decode cX4_dropOldest 16 = .ok (.aload_n 0, 1) := by decide +kernel
theorem dX4_dropOldest_17 : decode cX4_dropOldest 17 = .ok (.getfield 11, 3) := by decide +kernel
theorem dX4_dropOldest_20 : decode cX4_dropOldest 20 = .ok (.iload_n 2, 1) := by decide +kernel
theorem dX4_dropOldest_21 : decode cX4_dropOldest 21 = .ok (.aload_n 0, 1) := by decide +kernel
theorem dX4_dropOldest_22 : decode cX4_dropOldest 22 = .ok (.getfield 11, 3) := by decide +kernel
theorem dX4_dropOldest_25 : decode cX4_dropOldest 25 = .ok (.iload_n 2, 1) := by decide +kernel
theorem dX4_dropOldest_26 : decode cX4_dropOldest 26 = .ok (.iconst 1, 1) := by decide +kernel
theorem dX4_dropOldest_27 : decode cX4_dropOldest 27 = .ok (.iadd, 1) := by decide +kernel
theorem dX4_dropOldest_28 : decode cX4_dropOldest 28 = .ok (.aaload, 1) := by decide +kernel
theorem dX4_dropOldest_29 : decode cX4_dropOldest 29 = .ok (.aastore, 1) := by decide +kernel
theorem dX4_dropOldest_30 : decode cX4_dropOldest 30 = .ok (.iinc 2 1, 3) := by decide +kernel
theorem dX4_dropOldest_33 : decode cX4_dropOldest 33 = .ok (.goto (-24), 3) := by decide +kernel
theorem dX4_dropOldest_36 : decode cX4_dropOldest 36 = .ok (.aload_n 0, 1) := by decide +kernel
theorem dX4_dropOldest_37 : decode cX4_dropOldest 37 = .ok (.getfield 11, 3) := by decide +kernel
theorem dX4_dropOldest_40 : decode cX4_dropOldest 40 = .ok (.iconst 4, 1) := by decide +kernel
theorem dX4_dropOldest_41 : decode cX4_dropOldest 41 = .ok (.aload_n 1, 1) := by decide +kernel
theorem dX4_dropOldest_42 : decode cX4_dropOldest 42 = .ok (.aastore, 1) := by decide +kernel
theorem dX4_dropOldest_43 : decode cX4_dropOldest 43 = .ok (.aload_n 0, 1) := by decide +kernel
theorem dX4_dropOldest_44 : decode cX4_dropOldest 44 = .ok (.iconst 4, 1) := by decide +kernel
theorem dX4_dropOldest_45 : decode cX4_dropOldest 45 = .ok (.putfield 18, 3) := by decide +kernel
theorem dX4_dropOldest_48 : decode cX4_dropOldest 48 = .ok (.return_, 1) := by decide +kernel
theorem dX4_restoreInto_0 : decode cX4_restoreInto 0 = .ok (.aload_n 0, 1) := by decide +kernel
theorem dX4_restoreInto_1 : decode cX4_restoreInto 1 = .ok (.getfield 18, 3) := by decide +kernel
theorem dX4_restoreInto_4 : decode cX4_restoreInto 4 = .ok (.ifCond .gt 4, 3) := by decide +kernel
theorem dX4_restoreInto_7 : decode cX4_restoreInto 7 = .ok (.return_, 1) := by decide +kernel
theorem dX4_restoreInto_8 : decode cX4_restoreInto 8 = .ok (.aload_n 0, 1) := by decide +kernel
theorem dX4_restoreInto_9 : decode cX4_restoreInto 9 = .ok (.dup, 1) := by decide +kernel
theorem dX4_restoreInto_10 : decode cX4_restoreInto 10 = .ok (.getfield 18, 3) := by decide +kernel
theorem dX4_restoreInto_13 : decode cX4_restoreInto 13 = .ok (.iconst 1, 1) := by decide +kernel
theorem dX4_restoreInto_14 : decode cX4_restoreInto 14 = .ok (.isub, 1) := by decide +kernel
theorem dX4_restoreInto_15 : decode cX4_restoreInto 15 = .ok (.putfield 18, 3) := by decide +kernel
theorem dX4_restoreInto_18 : decode cX4_restoreInto 18 = .ok (.aload_n 0, 1) := by decide +kernel
theorem dX4_restoreInto_19 : decode cX4_restoreInto 19 = .ok (.getfield 11, 3) := by decide +kernel
theorem dX4_restoreInto_22 : decode cX4_restoreInto 22 = .ok (.aload_n 0, 1) := by decide +kernel
theorem dX4_restoreInto_23 : decode cX4_restoreInto 23 = .ok (.getfield 18, 3) := by decide +kernel
theorem dX4_restoreInto_26 : decode cX4_restoreInto 26 = .ok (.aaload, 1) := by decide +kernel
theorem dX4_restoreInto_27 : decode cX4_restoreInto 27 = .ok (.astore_n 2, 1) := by decide +kernel
theorem dX4_restoreInto_28 : decode cX4_restoreInto 28 = .ok (.aload_n 2, 1) := by decide +kernel
theorem dX4_restoreInto_29 : decode cX4_restoreInto 29 = .ok (.ifnull 8, 3) := by decide +kernel
theorem dX4_restoreInto_32 : decode cX4_restoreInto 32 = .ok (.aload_n 1, 1) := by decide +kernel
theorem dX4_restoreInto_33 : decode cX4_restoreInto 33 = .ok (.aload_n 2, 1) := by decide +kernel
theorem dX4_restoreInto_34 : decode cX4_restoreInto 34 = .ok (.invokevirtual 25, 3) := by decide +kernel
theorem dX4_restoreInto_37 : decode cX4_restoreInto 37 = .ok (.return_, 1) := by decide +kernel
theorem dX5_init_0 : decode cX5_init 0 = .ok (.aload_n 0, 1) := by decide +kernel
theorem dX5_init_1 : decode cX5_init 1 = .ok (.invokespecial 3, 3) := by decide +kernel
theorem dX5_init_4 : decode cX5_init 4 = .ok (.aload_n 0, 1) := by decide +kernel
theorem dX5_init_5 : decode cX5_init 5 = .ok (.bipush 16, 2) := by decide +kernel
theorem dX5_init_7 : decode cX5_init 7 = .ok (.newarray .long, 2) := by decide +kernel
theorem dX5_init_9 : decode cX5_init 9 = .ok (.putfield 9, 3) := by decide +kernel
theorem dX5_init_12 : decode cX5_init 12 = .ok (.aload_n 0, 1) := by decide +kernel
theorem dX5_init_13 : decode cX5_init 13 = .ok (.bipush 16, 2) := by decide +kernel
theorem dX5_init_15 : decode cX5_init 15 = .ok (.newarray .long, 2) := by decide +kernel
theorem dX5_init_17 : decode cX5_init 17 = .ok (.putfield 15, 3) := by decide +kernel
theorem dX5_init_20 : decode cX5_init 20 = .ok (.return_, 1) := by decide +kernel
theorem dX5_literalWord_0 : decode cX5_literalWord 0 = .ok (.iload_n 0, 1) := by decide +kernel
theorem dX5_literalWord_1 : decode cX5_literalWord 1 = .ok (.iconst 1, 1) := by decide +kernel
theorem dX5_literalWord_2 : decode cX5_literalWord 2 = .ok (.ishr, 1) := by decide +kernel
theorem dX5_literalWord_3 : decode cX5_literalWord 3 = .ok (.istore_n 2, 1) := by decide +kernel
theorem dX5_literalWord_4 : decode cX5_literalWord 4 = .ok (.iload_n 2, 1) := by decide +kernel
theorem dX5_literalWord_5 : decode cX5_literalWord 5 = .ok (.iconst 1, 1) := by decide +kernel
theorem dX5_literalWord_6 : decode cX5_literalWord 6 = .ok (.if_icmp .lt 20, 3) := by decide +kernel
theorem dX5_literalWord_9 : decode cX5_literalWord 9 = .ok (.iload_n 2, 1) := by decide +kernel
theorem dX5_literalWord_10 : decode cX5_literalWord 10 = .ok (.bipush 6, 2) := by decide +kernel
theorem dX5_literalWord_12 : decode cX5_literalWord 12 = .ok (.if_icmp .gt 14, 3) := by decide +kernel
theorem dX5_literalWord_15 : decode cX5_literalWord 15 = .ok (.getstatic 18, 3) := by decide +kernel
theorem dX5_literalWord_18 : decode cX5_literalWord 18 = .ok (.iload_n 2, 1) := by decide +kernel
theorem dX5_literalWord_19 : decode cX5_literalWord 19 = .ok (.iconst 1, 1) := by decide +kernel
theorem dX5_literalWord_20 : decode cX5_literalWord 20 = .ok (.isub, 1) := by decide +kernel
theorem dX5_literalWord_21 : decode cX5_literalWord 21 = .ok (.laload, 1) := by decide +kernel
theorem dX5_literalWord_22 : decode cX5_literalWord 22 = .ok (.lstore_n 3, 1) := by decide +kernel
theorem dX5_literalWord_23 : decode cX5_literalWord 23 = .ok (.goto 24, 3) := by decide +kernel
theorem dX5_literalWord_26 : decode cX5_literalWord 26 = .ok (.iload_n 1, 1) := by decide +kernel
theorem dX5_literalWord_27 : decode cX5_literalWord 27 = .ok (.iload_n 2, 1) := by decide +kernel
theorem dX5_literalWord_28 : decode cX5_literalWord 28 = .ok (.bipush 6, 2) := by decide +kernel
theorem dX5_literalWord_30 : decode cX5_literalWord 30 = .ok (.isub, 1) := by decide +kernel
theorem dX5_literalWord_31 : decode cX5_literalWord 31 = .ok (.iconst 1, 1) := by decide +kernel
theorem dX5_literalWord_32 : decode cX5_literalWord 32 = .ok (.isub, 1) := by decide +kernel
theorem dX5_literalWord_33 : decode cX5_literalWord 33 = .ok (.ishr, 1) := by decide +kernel
theorem dX5_literalWord_34 : decode cX5_literalWord 34 = .ok (.iconst 1, 1) := by decide +kernel
theorem dX5_literalWord_35 : decode cX5_literalWord 35 = .ok (.iand, 1) := by decide +kernel
theorem dX5_literalWord_36 : decode cX5_literalWord 36 = .ok (.ifCond .eq 9, 3) := by decide +kernel
theorem dX5_literalWord_39 : decode cX5_literalWord 39 = .ok (.ldc2_w 21, 3) := by decide +kernel
theorem dX5_literalWord_42 : decode cX5_literalWord 42 = .ok (.goto 4, 3) := by decide +kernel
theorem dX5_literalWord_45 : decode cX5_literalWord 45 = .ok (.lconst 0, 1) := by decide +kernel
theorem dX5_literalWord_46 : decode cX5_literalWord 46 = .ok (.lstore_n 3, 1) := by decide +kernel
theorem dX5_literalWord_47 : decode cX5_literalWord 47 = .ok (.iload_n 0, 1) := by decide +kernel
theorem dX5_literalWord_48 : decode cX5_literalWord 48 = .ok (.iconst 1, 1) := by decide +kernel
theorem dX5_literalWord_49 : decode cX5_literalWord 49 = .ok (.iand, 1) := by decide +kernel
theorem dX5_literalWord_50 : decode cX5_literalWord 50 = .ok (.ifCond .ne 7, 3) := by decide +kernel
theorem dX5_literalWord_53 : decode cX5_literalWord 53 = .ok (.lload_n 3, 1) := by decide +kernel
theorem dX5_literalWord_54 : decode cX5_literalWord 54 = .ok (.goto 8, 3) := by decide +kernel
theorem dX5_literalWord_57 : decode cX5_literalWord 57 = .ok (.lload_n 3, 1) := by decide +kernel
theorem dX5_literalWord_58 : decode cX5_literalWord 58 = .ok (.ldc2_w 21, 3) := by decide +kernel
theorem dX5_literalWord_61 : decode cX5_literalWord 61 = .ok (.lxor, 1) := by decide +kernel
theorem dX5_literalWord_62 : decode cX5_literalWord 62 = .ok (.lreturn, 1) := by decide +kernel
theorem dX5_fill_0 : decode cX5_fill 0 = .ok (.aload_n 0, 1) := by decide +kernel
theorem dX5_fill_1 : decode cX5_fill 1 = .ok (.getfield 9, 3) := by decide +kernel
theorem dX5_fill_4 : decode cX5_fill 4 = .ok (.ldc2_w 21, 3) := by decide +kernel
theorem dX5_fill_7 : decode cX5_fill 7 = .ok (.invokestatic 23, 3) := by decide +kernel
theorem dX5_fill_10 : decode cX5_fill 10 = .ok (.iconst 0, 1) := by decide +kernel
theorem dX5_fill_11 : decode cX5_fill 11 = .ok (.istore_n 2, 1) := by decide +kernel
theorem dX5_fill_12 : decode cX5_fill 12 = .ok (.iload_n 2, 1) := by decide +kernel
theorem dX5_fill_13 : decode cX5_fill 13 = .ok (.aload_n 1, 1) := by decide +kernel
theorem dX5_fill_14 : decode cX5_fill 14 = .ok (.getfield 29, 3) := by decide +kernel
theorem dX5_fill_17 : decode cX5_fill 17 = .ok (.if_icmp .ge 18, 3) := by decide +kernel
theorem dX5_fill_20 : decode cX5_fill 20 = .ok (.aload_n 0, 1) := by decide +kernel
theorem dX5_fill_21 : decode cX5_fill 21 = .ok (.aload_n 1, 1) := by decide +kernel
theorem dX5_fill_22 : decode cX5_fill 22 = .ok (.iload_n 2, 1) := by decide +kernel
theorem dX5_fill_23 : decode cX5_fill 23 = .ok (.invokevirtual 35, 3) := by decide +kernel
theorem dX5_fill_26 : decode cX5_fill 26 = .ok (.invokevirtual 39, 3) := by decide +kernel
theorem dX5_fill_29 : decode cX5_fill 29 = .ok (.iinc 2 1, 3) := by decide +kernel
theorem dX5_fill_32 : decode cX5_fill 32 = .ok (.goto (-20), 3) := by decide +kernel
theorem dX5_fill_35 : decode cX5_fill 35 = .ok (.iconst 2, 1) := by decide +kernel
theorem dX5_fill_36 : decode cX5_fill 36 = .ok (.istore_n 2, 1) := by decide +kernel
theorem dX5_fill_37 : decode cX5_fill 37 = .ok (.iload_n 2, 1) := by decide +kernel
theorem dX5_fill_38 : decode cX5_fill 38 = .ok (.bipush 21, 2) := by decide +kernel
theorem dX5_fill_40 : decode cX5_fill 40 = .ok (.if_icmp .gt 27, 3) := by decide +kernel
theorem dX5_fill_43 : decode cX5_fill 43 = .ok (.aload_n 1, 1) := by decide +kernel
theorem dX5_fill_44 : decode cX5_fill 44 = .ok (.getfield 43, 3) := by decide +kernel
theorem dX5_fill_47 : decode cX5_fill 47 = .ok (.iload_n 2, 1) := by decide +kernel
theorem dX5_fill_48 : decode cX5_fill 48 = .ok (.invokestatic 46, 3) := by decide +kernel
theorem dX5_fill_51 : decode cX5_fill 51 = .ok (.ifCond .eq 10, 3) := by decide +kernel
theorem dX5_fill_54 : decode cX5_fill 54 = .ok (.aload_n 0, 1) := by decide +kernel
theorem dX5_fill_55 : decode cX5_fill 55 = .ok (.iconst 1, 1) := by decide +kernel
theorem dX5_fill_56 : decode cX5_fill 56 = .ok (.iload_n 2, 1) := by decide +kernel
theorem dX5_fill_57 : decode cX5_fill 57 = .ok (.ishl, 1) := by decide +kernel
theorem dX5_fill_58 : decode cX5_fill 58 = .ok (.invokevirtual 39, 3) := by decide +kernel
theorem dX5_fill_61 : decode cX5_fill 61 = .ok (.iinc 2 1, 3) := by decide +kernel
theorem dX5_fill_64 : decode cX5_fill 64 = .ok (.goto (-27), 3) := by decide +kernel
theorem dX5_fill_67 : decode cX5_fill 67 = .ok (.return_, 1) := by decide +kernel
theorem dX5_keepSatisfying_0 : decode cX5_keepSatisfying 0 = .ok (.aload_n 0, 1) := by decide +kernel
theorem dX5_keepSatisfying_1 : decode cX5_keepSatisfying 1 = .ok (.getfield 15, 3) := by decide +kernel
theorem dX5_keepSatisfying_4 : decode cX5_keepSatisfying 4 = .ok (.lconst 0, 1) := by decide +kernel
theorem dX5_keepSatisfying_5 : decode cX5_keepSatisfying 5 = .ok (.invokestatic 23, 3) := by decide +kernel
theorem dX5_keepSatisfying_8 : decode cX5_keepSatisfying 8 = .ok (.iconst 2, 1) := by decide +kernel
theorem dX5_keepSatisfying_9 : decode cX5_keepSatisfying 9 = .ok (.istore_n 2, 1) := by decide +kernel
theorem dX5_keepSatisfying_10 : decode cX5_keepSatisfying 10 = .ok (.iload_n 2, 1) := by decide +kernel
theorem dX5_keepSatisfying_11 : decode cX5_keepSatisfying 11 = .ok (.bipush 21, 2) := by decide +kernel
theorem dX5_keepSatisfying_13 : decode cX5_keepSatisfying 13 = .ok (.if_icmp .gt 45, 3) := by decide +kernel
theorem dX5_keepSatisfying_16 : decode cX5_keepSatisfying 16 = .ok (.iload_n 1, 1) := by decide +kernel
theorem dX5_keepSatisfying_17 : decode cX5_keepSatisfying 17 = .ok (.iload_n 2, 1) := by decide +kernel
theorem dX5_keepSatisfying_18 : decode cX5_keepSatisfying 18 = .ok (.invokestatic 46, 3) := by decide +kernel
theorem dX5_keepSatisfying_21 : decode cX5_keepSatisfying 21 = .ok (.ifCond .eq 31, 3) := by decide +kernel
theorem dX5_keepSatisfying_24 : decode cX5_keepSatisfying 24 = .ok (.iconst 0, 1) := by decide +kernel
theorem dX5_keepSatisfying_25 : decode cX5_keepSatisfying 25 = .ok (.istore_n 3, 1) := by decide +kernel
theorem dX5_keepSatisfying_26 : decode cX5_keepSatisfying 26 = .ok (.iload_n 3, 1) := by decide +kernel
theorem dX5_keepSatisfying_27 : decode cX5_keepSatisfying 27 = .ok (.bipush 16, 2) := by decide +kernel
theorem dX5_keepSatisfying_29 : decode cX5_keepSatisfying 29 = .ok (.if_icmp .ge 23, 3) := by decide +kernel
theorem dX5_keepSatisfying_32 : decode cX5_keepSatisfying 32 = .ok (.aload_n 0, 1) := by decide +kernel
theorem dX5_keepSatisfying_33 : decode cX5_keepSatisfying 33 = .ok (.getfield 15, 3) := by decide +kernel
theorem dX5_keepSatisfying_36 : decode cX5_keepSatisfying 36 = .ok (.iload_n 3, 1) := by decide +kernel
theorem dX5_keepSatisfying_37 : decode cX5_keepSatisfying 37 = .ok (.dup2, 1) := by decide +kernel
theorem dX5_keepSatisfying_38 : decode cX5_keepSatisfying 38 = .ok (.laload, 1) := by decide +kernel
theorem dX5_keepSatisfying_39 : decode cX5_keepSatisfying 39 = .ok (.iload_n 2, 1) := by decide +kernel
theorem dX5_keepSatisfying_40 : decode cX5_keepSatisfying 40 = .ok (.iload_n 3, 1) := by decide +kernel
theorem dX5_keepSatisfying_41 : decode cX5_keepSatisfying 41 = .ok (.invokestatic 50, 3) := by decide +kernel
theorem dX5_keepSatisfying_44 : decode cX5_keepSatisfying 44 = .ok (.lor, 1) := by decide +kernel
theorem dX5_keepSatisfying_45 : decode cX5_keepSatisfying 45 = .ok (.lastore, 1) := by decide +kernel
theorem dX5_keepSatisfying_46 : decode cX5_keepSatisfying 46 = .ok (.iinc 3 1, 3) := by decide +kernel
theorem dX5_keepSatisfying_49 : decode cX5_keepSatisfying 49 = .ok (.goto (-23), 3) := by decide +kernel
theorem dX5_keepSatisfying_52 : decode cX5_keepSatisfying 52 = .ok (.iinc 2 1, 3) := by decide +kernel
theorem dX5_keepSatisfying_55 : decode cX5_keepSatisfying 55 = .ok (.goto (-45), 3) := by decide +kernel
theorem dX5_keepSatisfying_58 : decode cX5_keepSatisfying 58 = .ok (.iconst 0, 1) := by decide +kernel
theorem dX5_keepSatisfying_59 : decode cX5_keepSatisfying 59 = .ok (.istore_n 2, 1) := by decide +kernel
theorem dX5_keepSatisfying_60 : decode cX5_keepSatisfying 60 = .ok (.iload_n 2, 1) := by decide +kernel
theorem dX5_keepSatisfying_61 : decode cX5_keepSatisfying 61 = .ok (.bipush 16, 2) := by decide +kernel
theorem dX5_keepSatisfying_63 : decode cX5_keepSatisfying 63 = .ok (.if_icmp .ge 24, 3) := by decide +kernel
theorem dX5_keepSatisfying_66 : decode cX5_keepSatisfying 66 = .ok (.aload_n 0, 1) := by decide +kernel
theorem dX5_keepSatisfying_67 : decode cX5_keepSatisfying 67 = .ok (.getfield 9, 3) := by decide +kernel
theorem dX5_keepSatisfying_70 : decode cX5_keepSatisfying 70 = .ok (.iload_n 2, 1) := by decide +kernel
theorem dX5_keepSatisfying_71 : decode cX5_keepSatisfying 71 = .ok (.dup2, 1) := by decide +kernel
theorem dX5_keepSatisfying_72 : decode cX5_keepSatisfying 72 = .ok (.laload, 1) := by decide +kernel
theorem dX5_keepSatisfying_73 : decode cX5_keepSatisfying 73 = .ok (.aload_n 0, 1) := by decide +kernel
theorem dX5_keepSatisfying_74 : decode cX5_keepSatisfying 74 = .ok (.getfield 15, 3) := by decide +kernel
theorem dX5_keepSatisfying_77 : decode cX5_keepSatisfying 77 = .ok (.iload_n 2, 1) := by decide +kernel
theorem dX5_keepSatisfying_78 : decode cX5_keepSatisfying 78 = .ok (.laload, 1) := by decide +kernel
theorem dX5_keepSatisfying_79 : decode cX5_keepSatisfying 79 = .ok (.land, 1) := by decide +kernel
theorem dX5_keepSatisfying_80 : decode cX5_keepSatisfying 80 = .ok (.lastore, 1) := by decide +kernel
theorem dX5_keepSatisfying_81 : decode cX5_keepSatisfying 81 = .ok (.iinc 2 1, 3) := by decide +kernel
theorem dX5_keepSatisfying_84 : decode cX5_keepSatisfying 84 = .ok (.goto (-24), 3) := by decide +kernel
theorem dX5_keepSatisfying_87 : decode cX5_keepSatisfying 87 = .ok (.return_, 1) := by decide +kernel
theorem dX5_wordAt_0 : decode cX5_wordAt 0 = .ok (.iload_n 1, 1) := by decide +kernel
theorem dX5_wordAt_1 : decode cX5_wordAt 1 = .ok (.ifCond .lt 18, 3) := by decide +kernel
theorem dX5_wordAt_4 : decode cX5_wordAt 4 = .ok (.iload_n 1, 1) := by decide +kernel
theorem dX5_wordAt_5 : decode cX5_wordAt 5 = .ok (.bipush 16, 2) := by decide +kernel
theorem dX5_wordAt_7 : decode cX5_wordAt 7 = .ok (.if_icmp .ge 12, 3) := by decide +kernel
theorem dX5_wordAt_10 : decode cX5_wordAt 10 = .ok (.aload_n 0, 1) := by decide +kernel
theorem dX5_wordAt_11 : decode cX5_wordAt 11 = .ok (.getfield 9, 3) := by decide +kernel
theorem dX5_wordAt_14 : decode cX5_wordAt 14 = .ok (.iload_n 1, 1) := by decide +kernel
theorem dX5_wordAt_15 : decode cX5_wordAt 15 = .ok (.laload, 1) := by decide +kernel
theorem dX5_wordAt_16 : decode cX5_wordAt 16 = .ok (.goto 4, 3) := by decide +kernel
theorem dX5_wordAt_19 : decode cX5_wordAt 19 = .ok (.lconst 0, 1) := by decide +kernel
theorem dX5_wordAt_20 : decode cX5_wordAt 20 = .ok (.lreturn, 1) := by decide +kernel
theorem dX5_has_0 : decode cX5_has 0 = .ok (.aload_n 0, 1) := by decide +kernel
theorem dX5_has_1 : decode cX5_has 1 = .ok (.iload_n 1, 1) := by decide +kernel
theorem dX5_has_2 : decode cX5_has 2 = .ok (.bipush 6, 2) := by decide +kernel
theorem dX5_has_4 : decode cX5_has 4 = .ok (.ishr, 1) := by decide +kernel
theorem dX5_has_5 : decode cX5_has 5 = .ok (.invokevirtual 54, 3) := by decide +kernel
theorem dX5_has_8 : decode cX5_has 8 = .ok (.iload_n 1, 1) := by decide +kernel
theorem dX5_has_9 : decode cX5_has 9 = .ok (.bipush 63, 2) := by decide +kernel
theorem dX5_has_11 : decode cX5_has 11 = .ok (.iand, 1) := by decide +kernel
theorem dX5_has_12 : decode cX5_has 12 = .ok (.lushr, 1) := by decide +kernel
theorem dX5_has_13 : decode cX5_has 13 = .ok (.lconst 1, 1) := by decide +kernel
theorem dX5_has_14 : decode cX5_has 14 = .ok (.land, 1) := by decide +kernel
theorem dX5_has_15 : decode cX5_has 15 = .ok (.lconst 0, 1) := by decide +kernel
theorem dX5_has_16 : decode cX5_has 16 = .ok (.lcmp, 1) := by decide +kernel
theorem dX5_has_17 : decode cX5_has 17 = .ok (.ifCond .eq 7, 3) := by decide +kernel
theorem dX5_has_20 : decode cX5_has 20 = .ok (.iconst 1, 1) := by decide +kernel
theorem dX5_has_21 : decode cX5_has 21 = .ok (.goto 4, 3) := by decide +kernel
theorem dX5_has_24 : decode cX5_has 24 = .ok (.iconst 0, 1) := by decide +kernel
theorem dX5_has_25 : decode cX5_has 25 = .ok (.ireturn, 1) := by decide +kernel
theorem dX5_size_0 : decode cX5_size 0 = .ok (.iconst 0, 1) := by decide +kernel
theorem dX5_size_1 : decode cX5_size 1 = .ok (.istore_n 1, 1) := by decide +kernel
theorem dX5_size_2 : decode cX5_size 2 = .ok (.iconst 0, 1) := by decide +kernel
theorem dX5_size_3 : decode cX5_size 3 = .ok (.istore_n 2, 1) := by decide +kernel
theorem dX5_size_4 : decode cX5_size 4 = .ok (.iload_n 2, 1) := by decide +kernel
theorem dX5_size_5 : decode cX5_size 5 = .ok (.bipush 16, 2) := by decide +kernel
theorem dX5_size_7 : decode cX5_size 7 = .ok (.if_icmp .ge 21, 3) := by decide +kernel
theorem dX5_size_10 : decode cX5_size 10 = .ok (.iload_n 1, 1) := by decide +kernel
theorem dX5_size_11 : decode cX5_size 11 = .ok (.aload_n 0, 1) := by decide +kernel
theorem dX5_size_12 : decode cX5_size 12 = .ok (.getfield 9, 3) := by decide +kernel
theorem dX5_size_15 : decode cX5_size 15 = .ok (.iload_n 2, 1) := by decide +kernel
theorem dX5_size_16 : decode cX5_size 16 = .ok (.laload, 1) := by decide +kernel
theorem dX5_size_17 : decode cX5_size 17 = .ok (.invokestatic 58, 3) := by decide +kernel
theorem dX5_size_20 : decode cX5_size 20 = .ok (.iadd, 1) := by decide +kernel
theorem dX5_size_21 : decode cX5_size 21 = .ok (.istore_n 1, 1) := by decide +kernel
theorem dX5_size_22 : decode cX5_size 22 = .ok (.iinc 2 1, 3) := by decide +kernel
theorem dX5_size_25 : decode cX5_size 25 = .ok (.goto (-21), 3) := by decide +kernel
theorem dX5_size_28 : decode cX5_size 28 = .ok (.iload_n 1, 1) := by decide +kernel
theorem dX5_size_29 : decode cX5_size 29 = .ok (.ireturn, 1) := by decide +kernel
theorem dX5_sizeWith_0 : decode cX5_sizeWith 0 = .ok (.iconst 0, 1) := by decide +kernel
theorem dX5_sizeWith_1 : decode cX5_sizeWith 1 = .ok (.istore_n 2, 1) := by decide +kernel
theorem dX5_sizeWith_2 : decode cX5_sizeWith 2 = .ok (.iconst 0, 1) := by decide +kernel
theorem dX5_sizeWith_3 : decode cX5_sizeWith 3 = .ok (.istore_n 3, 1) := by decide +kernel
theorem dX5_sizeWith_4 : decode cX5_sizeWith 4 = .ok (.iload_n 3, 1) := by decide +kernel
theorem dX5_sizeWith_5 : decode cX5_sizeWith 5 = .ok (.bipush 16, 2) := by decide +kernel
theorem dX5_sizeWith_7 : decode cX5_sizeWith 7 = .ok (.if_icmp .ge 27, 3) := by decide +kernel
theorem dX5_sizeWith_10 : decode cX5_sizeWith 10 = .ok (.iload_n 2, 1) := by decide +kernel
theorem dX5_sizeWith_11 : decode cX5_sizeWith 11 = .ok (.aload_n 0, 1) := by decide +kernel
theorem dX5_sizeWith_12 : decode cX5_sizeWith 12 = .ok (.getfield 9, 3) := by decide +kernel
theorem dX5_sizeWith_15 : decode cX5_sizeWith 15 = .ok (.iload_n 3, 1) := by decide +kernel
theorem dX5_sizeWith_16 : decode cX5_sizeWith 16 = .ok (.laload, 1) := by decide +kernel
theorem dX5_sizeWith_17 : decode cX5_sizeWith 17 = .ok (.iload_n 1, 1) := by decide +kernel
theorem dX5_sizeWith_18 : decode cX5_sizeWith 18 = .ok (.iload_n 3, 1) := by decide +kernel
theorem dX5_sizeWith_19 : decode cX5_sizeWith 19 = .ok (.invokestatic 50, 3) := by decide +kernel
theorem dX5_sizeWith_22 : decode cX5_sizeWith 22 = .ok (.land, 1) := by decide +kernel
theorem dX5_sizeWith_23 : decode cX5_sizeWith 23 = .ok (.invokestatic 58, 3) := by decide +kernel
theorem dX5_sizeWith_26 : decode cX5_sizeWith 26 = .ok (.iadd, 1) := by decide +kernel
theorem dX5_sizeWith_27 : decode cX5_sizeWith 27 = .ok (.istore_n 2, 1) := by decide +kernel
theorem dX5_sizeWith_28 : decode cX5_sizeWith 28 = .ok (.iinc 3 1, 3) := by decide +kernel
theorem dX5_sizeWith_31 : decode cX5_sizeWith 31 = .ok (.goto (-27), 3) := by decide +kernel
theorem dX5_sizeWith_34 : decode cX5_sizeWith 34 = .ok (.iload_n 2, 1) := by decide +kernel
theorem dX5_sizeWith_35 : decode cX5_sizeWith 35 = .ok (.ireturn, 1) := by decide +kernel
theorem dX5_least_0 : decode cX5_least 0 = .ok (.iconst 0, 1) := by decide +kernel
theorem dX5_least_1 : decode cX5_least 1 = .ok (.istore_n 1, 1) := by decide +kernel
theorem dX5_least_2 : decode cX5_least 2 = .ok (.iload_n 1, 1) := by decide +kernel
theorem dX5_least_3 : decode cX5_least 3 = .ok (.bipush 16, 2) := by decide +kernel
theorem dX5_least_5 : decode cX5_least 5 = .ok (.if_icmp .ge 35, 3) := by decide +kernel
theorem dX5_least_8 : decode cX5_least 8 = .ok (.aload_n 0, 1) := by decide +kernel
theorem dX5_least_9 : decode cX5_least 9 = .ok (.getfield 9, 3) := by decide +kernel
theorem dX5_least_12 : decode cX5_least 12 = .ok (.iload_n 1, 1) := by decide +kernel
theorem dX5_least_13 : decode cX5_least 13 = .ok (.laload, 1) := by decide +kernel
theorem dX5_least_14 : decode cX5_least 14 = .ok (.lconst 0, 1) := by decide +kernel
theorem dX5_least_15 : decode cX5_least 15 = .ok (.lcmp, 1) := by decide +kernel
theorem dX5_least_16 : decode cX5_least 16 = .ok (.ifCond .eq 18, 3) := by decide +kernel
theorem dX5_least_19 : decode cX5_least 19 = .ok (.bipush 64, 2) := by decide +kernel
theorem dX5_least_21 : decode cX5_least 21 = .ok (.iload_n 1, 1) := by decide +kernel
theorem dX5_least_22 : decode cX5_least 22 = .ok (.imul, 1) := by decide +kernel
theorem dX5_least_23 : decode cX5_least 23 = .ok (.aload_n 0, 1) := by decide +kernel
theorem dX5_least_24 : decode cX5_least 24 = .ok (.getfield 9, 3) := by decide +kernel
theorem dX5_least_27 : decode cX5_least 27 = .ok (.iload_n 1, 1) := by decide +kernel
theorem dX5_least_28 : decode cX5_least 28 = .ok (.laload, 1) := by decide +kernel
theorem dX5_least_29 : decode cX5_least 29 = .ok (.invokestatic 64, 3) := by decide +kernel
theorem dX5_least_32 : decode cX5_least 32 = .ok (.iadd, 1) := by decide +kernel
theorem dX5_least_33 : decode cX5_least 33 = .ok (.ireturn, 1) := by decide +kernel
theorem dX5_least_34 : decode cX5_least 34 = .ok (.iinc 1 1, 3) := by decide +kernel
theorem dX5_least_37 : decode cX5_least 37 = .ok (.goto (-35), 3) := by decide +kernel
theorem dX5_least_40 : decode cX5_least 40 = .ok (.iconst (-1), 1) := by decide +kernel
theorem dX5_least_41 : decode cX5_least 41 = .ok (.ireturn, 1) := by decide +kernel
theorem dX6_init_0 : decode cX6_init 0 = .ok (.aload_n 0, 1) := by decide +kernel
theorem dX6_init_1 : decode cX6_init 1 = .ok (.invokespecial 3, 3) := by decide +kernel
theorem dX6_init_4 : decode cX6_init 4 = .ok (.aload_n 0, 1) := by decide +kernel
theorem dX6_init_5 : decode cX6_init 5 = .ok (.bipush 16, 2) := by decide +kernel
theorem dX6_init_7 : decode cX6_init 7 = .ok (.newarray .int, 2) := by decide +kernel
theorem dX6_init_9 : decode cX6_init 9 = .ok (.putfield 9, 3) := by decide +kernel
theorem dX6_init_12 : decode cX6_init 12 = .ok (.aload_n 0, 1) := by decide +kernel
theorem dX6_init_13 : decode cX6_init 13 = .ok (.iconst 0, 1) := by decide +kernel
theorem dX6_init_14 : decode cX6_init 14 = .ok (.putfield 15, 3) := by decide +kernel
theorem dX6_init_17 : decode cX6_init 17 = .ok (.aload_n 0, 1) := by decide +kernel
theorem dX6_init_18 : decode cX6_init 18 = .ok (.iconst 0, 1) := by decide +kernel
theorem dX6_init_19 : decode cX6_init 19 = .ok (.putfield 19, 3) := by decide +kernel
theorem dX6_init_22 : decode cX6_init 22 = .ok (.aload_n 0, 1) := by decide +kernel
theorem dX6_init_23 : decode cX6_init 23 = .ok (.bipush 22, 2) := by decide +kernel
theorem dX6_init_25 : decode cX6_init 25 = .ok (.newarray .int, 2) := by decide +kernel
theorem dX6_init_27 : decode cX6_init 27 = .ok (.putfield 22, 3) := by decide +kernel
theorem dX6_init_30 : decode cX6_init 30 = .ok (.aload_n 0, 1) := by decide +kernel
theorem dX6_init_31 : decode cX6_init 31 = .ok (.getfield 22, 3) := by decide +kernel
theorem dX6_init_34 : decode cX6_init 34 = .ok (.iconst 1, 1) := by decide +kernel
theorem dX6_init_35 : decode cX6_init 35 = .ok (.invokestatic 25, 3) := by decide +kernel
theorem dX6_init_38 : decode cX6_init 38 = .ok (.return_, 1) := by decide +kernel
theorem dX6_hasClause_0 : decode cX6_hasClause 0 = .ok (.iload_n 1, 1) := by decide +kernel
theorem dX6_hasClause_1 : decode cX6_hasClause 1 = .ok (.ifCond .lt 15, 3) := by decide +kernel
theorem dX6_hasClause_4 : decode cX6_hasClause 4 = .ok (.iload_n 1, 1) := by decide +kernel
theorem dX6_hasClause_5 : decode cX6_hasClause 5 = .ok (.aload_n 0, 1) := by decide +kernel
theorem dX6_hasClause_6 : decode cX6_hasClause 6 = .ok (.getfield 15, 3) := by decide +kernel
theorem dX6_hasClause_9 : decode cX6_hasClause 9 = .ok (.if_icmp .ge 7, 3) := by decide +kernel
theorem dX6_hasClause_12 : decode cX6_hasClause 12 = .ok (.iconst 1, 1) := by decide +kernel
theorem dX6_hasClause_13 : decode cX6_hasClause 13 = .ok (.goto 4, 3) := by decide +kernel
theorem dX6_hasClause_16 : decode cX6_hasClause 16 = .ok (.iconst 0, 1) := by decide +kernel
theorem dX6_hasClause_17 : decode cX6_hasClause 17 = .ok (.ireturn, 1) := by decide +kernel
theorem dX6_clauseAt_0 : decode cX6_clauseAt 0 = .ok (.aload_n 0, 1) := by decide +kernel
theorem dX6_clauseAt_1 : decode cX6_clauseAt 1 = .ok (.iload_n 1, 1) := by decide +kernel
theorem dX6_clauseAt_2 : decode cX6_clauseAt 2 = .ok (.invokevirtual 31, 3) := by decide +kernel
theorem dX6_clauseAt_5 : decode cX6_clauseAt 5 = .ok (.ifCond .eq 12, 3) := by decide +kernel
theorem dX6_clauseAt_8 : decode cX6_clauseAt 8 = .ok (.aload_n 0, 1) := by decide +kernel
theorem dX6_clauseAt_9 : decode cX6_clauseAt 9 = .ok (.getfield 9, 3) := by decide +kernel
theorem dX6_clauseAt_12 : decode cX6_clauseAt 12 = .ok (.iload_n 1, 1) := by decide +kernel
theorem dX6_clauseAt_13 : decode cX6_clauseAt 13 = .ok (.iaload, 1) := by decide +kernel
theorem dX6_clauseAt_14 : decode cX6_clauseAt 14 = .ok (.goto 4, 3) := by decide +kernel
theorem dX6_clauseAt_17 : decode cX6_clauseAt 17 = .ok (.iconst 0, 1) := by decide +kernel
theorem dX6_clauseAt_18 : decode cX6_clauseAt 18 = .ok (.ireturn, 1) := by decide +kernel
theorem dX6_appendClause_0 : decode cX6_appendClause 0 = .ok (.aload_n 0, 1) := by decide +kernel
theorem dX6_appendClause_1 : decode cX6_appendClause 1 = .ok (.getfield 15, 3) := by decide +kernel
theorem dX6_appendClause_4 : decode cX6_appendClause 4 = .ok (.bipush 16, 2) := by decide +kernel
theorem dX6_appendClause_6 : decode cX6_appendClause 6 = .ok (.if_icmp .ge 23, 3) := by decide +kernel
theorem dX6_appendClause_9 : decode cX6_appendClause 9 = .ok (.aload_n 0, 1) := by decide +kernel
theorem dX6_appendClause_10 : decode cX6_appendClause 10 = .ok (.getfield 9, 3) := by decide +kernel
theorem dX6_appendClause_13 : decode cX6_appendClause 13 = .ok (.aload_n 0, 1) := by decide +kernel
theorem dX6_appendClause_14 : decode cX6_appendClause 14 = .ok (.getfield 15, 3) := by decide +kernel
theorem dX6_appendClause_17 : decode cX6_appendClause 17 = .ok (.iload_n 1, 1) := by decide +kernel
theorem dX6_appendClause_18 : decode cX6_appendClause 18 = .ok (.iastore, 1) := by decide +kernel
theorem dX6_appendClause_19 : decode cX6_appendClause 19 = .ok (.aload_n 0, 1) := by decide +kernel
theorem dX6_appendClause_20 : decode cX6_appendClause 20 = .ok (.dup, 1) := by decide +kernel
theorem dX6_appendClause_21 : decode cX6_appendClause 21 = .ok (.getfield 15, 3) := by decide +kernel
theorem dX6_appendClause_24 : decode cX6_appendClause 24 = .ok (.iconst 1, 1) := by decide +kernel
theorem dX6_appendClause_25 : decode cX6_appendClause 25 = .ok (.iadd, 1) := by decide +kernel
theorem dX6_appendClause_26 : decode cX6_appendClause 26 = .ok (.putfield 15, 3) := by decide +kernel
theorem dX6_appendClause_29 : decode cX6_appendClause 29 = .ok (.return_, 1) := by decide +kernel
theorem dX6_deleteClause_0 : decode cX6_deleteClause 0 = .ok (.aload_n 0, 1) := by decide +kernel
theorem dX6_deleteClause_1 : decode cX6_deleteClause 1 = .ok (.iload_n 1, 1) := by decide +kernel
theorem dX6_deleteClause_2 : decode cX6_deleteClause 2 = .ok (.invokevirtual 31, 3) := by decide +kernel
theorem dX6_deleteClause_5 : decode cX6_deleteClause 5 = .ok (.ifCond .ne 4, 3) := by decide +kernel
theorem dX6_deleteClause_8 : decode cX6_deleteClause 8 = .ok (.return_, 1) := by decide +kernel
theorem dX6_deleteClause_9 : decode cX6_deleteClause 9 = .ok (.iload_n 1, 1) := by decide +kernel
theorem dX6_deleteClause_10 : decode cX6_deleteClause 10 = .ok (.istore_n 2, 1) := by decide +kernel
theorem dX6_deleteClause_11 : decode cX6_deleteClause 11 = .ok (.iload_n 2, 1) := by decide +kernel
theorem dX6_deleteClause_12 : decode cX6_deleteClause 12 = .ok (.iconst 1, 1) := by decide +kernel
theorem dX6_deleteClause_13 : decode cX6_deleteClause 13 = .ok (.iadd, 1) := by decide +kernel
theorem dX6_deleteClause_14 : decode cX6_deleteClause 14 = .ok (.aload_n 0, 1) := by decide +kernel
theorem dX6_deleteClause_15 : decode cX6_deleteClause 15 = .ok (.getfield 15, 3) := by decide +kernel
theorem dX6_deleteClause_18 : decode cX6_deleteClause 18 = .ok (.if_icmp .ge 23, 3) := by decide +kernel
theorem dX6_deleteClause_21 : decode cX6_deleteClause 21 = .ok (.aload_n 0, 1) := by decide +kernel
theorem dX6_deleteClause_22 : decode cX6_deleteClause 22 = .ok (.getfield 9, 3) := by decide +kernel
theorem dX6_deleteClause_25 : decode cX6_deleteClause 25 = .ok (.iload_n 2, 1) := by decide +kernel
theorem dX6_deleteClause_26 : decode cX6_deleteClause 26 = .ok (.aload_n 0, 1) := by decide +kernel
theorem dX6_deleteClause_27 : decode cX6_deleteClause 27 = .ok (.getfield 9, 3) := by decide +kernel
theorem dX6_deleteClause_30 : decode cX6_deleteClause 30 = .ok (.iload_n 2, 1) := by decide +kernel
theorem dX6_deleteClause_31 : decode cX6_deleteClause 31 = .ok (.iconst 1, 1) := by decide +kernel
theorem dX6_deleteClause_32 : decode cX6_deleteClause 32 = .ok (.iadd, 1) := by decide +kernel
theorem dX6_deleteClause_33 : decode cX6_deleteClause 33 = .ok (.iaload, 1) := by decide +kernel
theorem dX6_deleteClause_34 : decode cX6_deleteClause 34 = .ok (.iastore, 1) := by decide +kernel
theorem dX6_deleteClause_35 : decode cX6_deleteClause 35 = .ok (.iinc 2 1, 3) := by decide +kernel
theorem dX6_deleteClause_38 : decode cX6_deleteClause 38 = .ok (.goto (-27), 3) := by decide +kernel
theorem dX6_deleteClause_41 : decode cX6_deleteClause 41 = .ok (.aload_n 0, 1) := by decide +kernel
theorem dX6_deleteClause_42 : decode cX6_deleteClause 42 = .ok (.dup, 1) := by decide +kernel
theorem dX6_deleteClause_43 : decode cX6_deleteClause 43 = .ok (.getfield 15, 3) := by decide +kernel
theorem dX6_deleteClause_46 : decode cX6_deleteClause 46 = .ok (.iconst 1, 1) := by decide +kernel
theorem dX6_deleteClause_47 : decode cX6_deleteClause 47 = .ok (.isub, 1) := by decide +kernel
theorem dX6_deleteClause_48 : decode cX6_deleteClause 48 = .ok (.putfield 15, 3) := by decide +kernel
theorem dX6_deleteClause_51 : decode cX6_deleteClause 51 = .ok (.return_, 1) := by decide +kernel
theorem dX6_weightOf_0 : decode cX6_weightOf 0 = .ok (.iload_n 1, 1) := by decide +kernel
theorem dX6_weightOf_1 : decode cX6_weightOf 1 = .ok (.ifCond .lt 18, 3) := by decide +kernel
theorem dX6_weightOf_4 : decode cX6_weightOf 4 = .ok (.iload_n 1, 1) := by decide +kernel
theorem dX6_weightOf_5 : decode cX6_weightOf 5 = .ok (.bipush 22, 2) := by decide +kernel
theorem dX6_weightOf_7 : decode cX6_weightOf 7 = .ok (.if_icmp .ge 12, 3) := by decide +kernel
theorem dX6_weightOf_10 : decode cX6_weightOf 10 = .ok (.aload_n 0, 1) := by decide +kernel
theorem dX6_weightOf_11 : decode cX6_weightOf 11 = .ok (.getfield 22, 3) := by decide +kernel
theorem dX6_weightOf_14 : decode cX6_weightOf 14 = .ok (.iload_n 1, 1) := by decide +kernel
theorem dX6_weightOf_15 : decode cX6_weightOf 15 = .ok (.iaload, 1) := by decide +kernel
theorem dX6_weightOf_16 : decode cX6_weightOf 16 = .ok (.goto 4, 3) := by decide +kernel
theorem dX6_weightOf_19 : decode cX6_weightOf 19 = .ok (.iconst 0, 1) := by decide +kernel
theorem dX6_weightOf_20 : decode cX6_weightOf 20 = .ok (.ireturn, 1) := by decide +kernel
theorem dX6_replaceWeight_0 : decode cX6_replaceWeight 0 = .ok (.aload_n 0, 1) := by decide +kernel
theorem dX6_replaceWeight_1 : decode cX6_replaceWeight 1 = .ok (.iload_n 1, 1) := by decide +kernel
theorem dX6_replaceWeight_2 : decode cX6_replaceWeight 2 = .ok (.invokevirtual 35, 3) := by decide +kernel
theorem dX6_replaceWeight_5 : decode cX6_replaceWeight 5 = .ok (.istore_n 3, 1) := by decide +kernel
theorem dX6_replaceWeight_6 : decode cX6_replaceWeight 6 = .ok (.iload_n 1, 1) := by decide +kernel
theorem dX6_replaceWeight_7 : decode cX6_replaceWeight 7 = .ok (.ifCond .lt 16, 3) := by decide +kernel
theorem dX6_replaceWeight_10 : decode cX6_replaceWeight 10 = .ok (.iload_n 1, 1) := by decide +kernel
theorem dX6_replaceWeight_11 : decode cX6_replaceWeight 11 = .ok (.bipush 22, 2) := by decide +kernel
theorem dX6_replaceWeight_13 : decode cX6_replaceWeight 13 = .ok (.if_icmp .ge 10, 3) := by decide +kernel
theorem dX6_replaceWeight_16 : decode cX6_replaceWeight 16 = .ok (.aload_n 0, 1) := by decide +kernel
theorem dX6_replaceWeight_17 : decode cX6_replaceWeight 17 = .ok (.getfield 22, 3) := by decide +kernel
theorem dX6_replaceWeight_20 : decode cX6_replaceWeight 20 = .ok (.iload_n 1, 1) := by decide +kernel
theorem dX6_replaceWeight_21 : decode cX6_replaceWeight 21 = .ok (.iload_n 2, 1) := by decide +kernel
theorem dX6_replaceWeight_22 : decode cX6_replaceWeight 22 = .ok (.iastore, 1) := by decide +kernel
theorem dX6_replaceWeight_23 : decode cX6_replaceWeight 23 = .ok (.iload_n 3, 1) := by decide +kernel
theorem dX6_replaceWeight_24 : decode cX6_replaceWeight 24 = .ok (.ireturn, 1) := by decide +kernel
theorem dX6_copyFrom_0 : decode cX6_copyFrom 0 = .ok (.aload_n 1, 1) := by decide +kernel
theorem dX6_copyFrom_1 : decode cX6_copyFrom 1 = .ok (.getfield 9, 3) := by decide +kernel
theorem dX6_copyFrom_4 : decode cX6_copyFrom 4 = .ok (.iconst 0, 1) := by decide +kernel
theorem dX6_copyFrom_5 : decode cX6_copyFrom 5 = .ok (.aload_n 0, 1) := by decide +kernel
theorem dX6_copyFrom_6 : decode cX6_copyFrom 6 = .ok (.getfield 9, 3) := by decide +kernel
theorem dX6_copyFrom_9 : decode cX6_copyFrom 9 = .ok (.iconst 0, 1) := by decide +kernel
theorem dX6_copyFrom_10 : decode cX6_copyFrom 10 = .ok (.bipush 16, 2) := by decide +kernel
theorem dX6_copyFrom_12 : decode cX6_copyFrom 12 = .ok (.invokestatic 39, 3) := by decide +kernel
theorem dX6_copyFrom_15 : decode cX6_copyFrom 15 = .ok (.aload_n 0, 1) := by decide +kernel
theorem dX6_copyFrom_16 : decode cX6_copyFrom 16 = .ok (.aload_n 1, 1) := by decide +kernel
theorem dX6_copyFrom_17 : decode cX6_copyFrom 17 = .ok (.getfield 15, 3) := by decide +kernel
theorem dX6_copyFrom_20 : decode cX6_copyFrom 20 = .ok (.putfield 15, 3) := by decide +kernel
theorem dX6_copyFrom_23 : decode cX6_copyFrom 23 = .ok (.aload_n 0, 1) := by decide +kernel
theorem dX6_copyFrom_24 : decode cX6_copyFrom 24 = .ok (.aload_n 1, 1) := by decide +kernel
theorem dX6_copyFrom_25 : decode cX6_copyFrom 25 = .ok (.getfield 19, 3) := by decide +kernel
theorem dX6_copyFrom_28 : decode cX6_copyFrom 28 = .ok (.putfield 19, 3) := by decide +kernel
theorem dX6_copyFrom_31 : decode cX6_copyFrom 31 = .ok (.aload_n 1, 1) := by decide +kernel
theorem dX6_copyFrom_32 : decode cX6_copyFrom 32 = .ok (.getfield 22, 3) := by decide +kernel
theorem dX6_copyFrom_35 : decode cX6_copyFrom 35 = .ok (.iconst 0, 1) := by decide +kernel
theorem dX6_copyFrom_36 : decode cX6_copyFrom 36 = .ok (.aload_n 0, 1) := by decide +kernel
theorem dX6_copyFrom_37 : decode cX6_copyFrom 37 = .ok (.getfield 22, 3) := by decide +kernel
theorem dX6_copyFrom_40 : decode cX6_copyFrom 40 = .ok (.iconst 0, 1) := by decide +kernel
theorem dX6_copyFrom_41 : decode cX6_copyFrom 41 = .ok (.bipush 22, 2) := by decide +kernel
theorem dX6_copyFrom_43 : decode cX6_copyFrom 43 = .ok (.invokestatic 39, 3) := by decide +kernel
theorem dX6_copyFrom_46 : decode cX6_copyFrom 46 = .ok (.return_, 1) := by decide +kernel
theorem dX7_init_0 : decode cX7_init 0 = .ok (.aload_n 0, 1) := by decide +kernel
theorem dX7_init_1 : decode cX7_init 1 = .ok (.invokespecial 5, 3) := by decide +kernel
theorem dX7_init_4 : decode cX7_init 4 = .ok (.aload_n 0, 1) := by decide +kernel
theorem dX7_init_5 : decode cX7_init 5 = .ok (.bipush 32, 2) := by decide +kernel
theorem dX7_init_7 : decode cX7_init 7 = .ok (.newarray .long, 2) := by decide +kernel
theorem dX7_init_9 : decode cX7_init 9 = .ok (.putfield 11, 3) := by decide +kernel
theorem dX7_init_12 : decode cX7_init 12 = .ok (.aload_n 0, 1) := by decide +kernel
theorem dX7_init_13 : decode cX7_init 13 = .ok (.bipush 32, 2) := by decide +kernel
theorem dX7_init_15 : decode cX7_init 15 = .ok (.newarray .long, 2) := by decide +kernel
theorem dX7_init_17 : decode cX7_init 17 = .ok (.putfield 15, 3) := by decide +kernel
theorem dX7_init_20 : decode cX7_init 20 = .ok (.return_, 1) := by decide +kernel
theorem dX7_over_0 : decode cX7_over 0 = .ok (.aload_n 0, 1) := by decide +kernel
theorem dX7_over_1 : decode cX7_over 1 = .ok (.getfield 11, 3) := by decide +kernel
theorem dX7_over_4 : decode cX7_over 4 = .ok (.iconst 1, 1) := by decide +kernel
theorem dX7_over_5 : decode cX7_over 5 = .ok (.aload_n 2, 1) := by decide +kernel
theorem dX7_over_6 : decode cX7_over 6 = .ok (.invokestatic 18, 3) := by decide +kernel
theorem dX7_over_9 : decode cX7_over 9 = .ok (.aload_n 0, 1) := by decide +kernel
theorem dX7_over_10 : decode cX7_over 10 = .ok (.getfield 15, 3) := by decide +kernel
theorem dX7_over_13 : decode cX7_over 13 = .ok (.bipush 6, 2) := by decide +kernel
theorem dX7_over_15 : decode cX7_over 15 = .ok (.aload_n 2, 1) := by decide +kernel
theorem dX7_over_16 : decode cX7_over 16 = .ok (.invokestatic 18, 3) := by decide +kernel
theorem dX7_over_19 : decode cX7_over 19 = .ok (.lconst 0, 1) := by decide +kernel
theorem dX7_over_20 : decode cX7_over 20 = .ok (.lstore_n 3, 1) := by decide +kernel
theorem dX7_over_21 : decode cX7_over 21 = .ok (.iconst 0, 1) := by decide +kernel
theorem dX7_over_22 : decode cX7_over 22 = .ok (.istore 5, 2) := by decide +kernel
theorem dX7_over_24 : decode cX7_over 24 = .ok (.iload 5, 2) := by decide +kernel
theorem dX7_over_26 : decode cX7_over 26 = .ok (.bipush 32, 2) := by decide +kernel
theorem dX7_over_28 : decode cX7_over 28 = .ok (.if_icmp .ge 68, 3) := by decide +kernel
theorem dX7_over_31 : decode cX7_over 31 = .ok (.lconst 0, 1) := by decide +kernel
theorem dX7_over_32 : decode cX7_over 32 = .ok (.lstore 6, 2) := by decide +kernel
theorem dX7_over_34 : decode cX7_over 34 = .ok (.iconst 0, 1) := by decide +kernel
theorem dX7_over_35 : decode cX7_over 35 = .ok (.istore 8, 2) := by decide +kernel
theorem dX7_over_37 : decode cX7_over 37 = .ok (.iload 8, 2) := by decide +kernel
theorem dX7_over_39 : decode cX7_over 39 = .ok (.bipush 32, 2) := by decide +kernel
theorem dX7_over_41 : decode cX7_over 41 = .ok (.if_icmp .ge 36, 3) := by decide +kernel
theorem dX7_over_44 : decode cX7_over 44 = .ok (.aload_n 1, 1) := by decide +kernel
theorem dX7_over_45 : decode cX7_over 45 = .ok (.iload 5, 2) := by decide +kernel
theorem dX7_over_47 : decode cX7_over 47 = .ok (.bipush 32, 2) := by decide +kernel
theorem dX7_over_49 : decode cX7_over 49 = .ok (.imul, 1) := by decide +kernel
theorem dX7_over_50 : decode cX7_over 50 = .ok (.iload 8, 2) := by decide +kernel
theorem dX7_over_52 : decode cX7_over 52 = .ok (.iadd, 1) := by decide +kernel
theorem dX7_over_53 : decode cX7_over 53 = .ok (.invokevirtual 22, 3) := by decide +kernel
theorem dX7_over_56 : decode cX7_over 56 = .ok (.ifCond .eq 15, 3) := by decide +kernel
theorem dX7_over_59 : decode cX7_over 59 = .ok (.lload 6, 2) := by decide +kernel
theorem dX7_over_61 : decode cX7_over 61 = .ok (.aload_n 0, 1) := by decide +kernel
theorem dX7_over_62 : decode cX7_over 62 = .ok (.getfield 11, 3) := by decide +kernel
theorem dX7_over_65 : decode cX7_over 65 = .ok (.iload 8, 2) := by decide +kernel
theorem dX7_over_67 : decode cX7_over 67 = .ok (.laload, 1) := by decide +kernel
theorem dX7_over_68 : decode cX7_over 68 = .ok (.ladd, 1) := by decide +kernel
theorem dX7_over_69 : decode cX7_over 69 = .ok (.lstore 6, 2) := by decide +kernel
theorem dX7_over_71 : decode cX7_over 71 = .ok (.iinc 8 1, 3) := by decide +kernel
theorem dX7_over_74 : decode cX7_over 74 = .ok (.goto (-37), 3) := by decide +kernel
theorem dX7_over_77 : decode cX7_over 77 = .ok (.lload_n 3, 1) := by decide +kernel
theorem dX7_over_78 : decode cX7_over 78 = .ok (.lload 6, 2) := by decide +kernel
theorem dX7_over_80 : decode cX7_over 80 = .ok (.aload_n 0, 1) := by decide +kernel
theorem dX7_over_81 : decode cX7_over 81 = .ok (.getfield 15, 3) := by decide +kernel
theorem dX7_over_84 : decode cX7_over 84 = .ok (.iload 5, 2) := by decide +kernel
theorem dX7_over_86 : decode cX7_over 86 = .ok (.laload, 1) := by decide +kernel
theorem dX7_over_87 : decode cX7_over 87 = .ok (.lmul, 1) := by decide +kernel
theorem dX7_over_88 : decode cX7_over 88 = .ok (.ladd, 1) := by decide +kernel
theorem dX7_over_89 : decode cX7_over 89 = .ok (.lstore_n 3, 1) := by decide +kernel
theorem dX7_over_90 : decode cX7_over 90 = .ok (.iinc 5 1, 3) := by decide +kernel
theorem dX7_over_93 : decode cX7_over 93 = .ok (.goto (-69), 3) := by decide +kernel
theorem dX7_over_96 : decode cX7_over 96 = .ok (.lload_n 3, 1) := by decide +kernel
theorem dX7_over_97 : decode cX7_over 97 = .ok (.lreturn, 1) := by decide +kernel
theorem dX7_fillProducts_0 : decode cX7_fillProducts 0 = .ok (.iconst 0, 1) := by decide +kernel
theorem dX7_fillProducts_1 : decode cX7_fillProducts 1 = .ok (.istore_n 3, 1) := by decide +kernel
theorem dX7_fillProducts_2 : decode cX7_fillProducts 2 = .ok (.iload_n 3, 1) := by decide +kernel
theorem dX7_fillProducts_3 : decode cX7_fillProducts 3 = .ok (.bipush 32, 2) := by decide +kernel
theorem dX7_fillProducts_5 : decode cX7_fillProducts 5 = .ok (.if_icmp .ge 67, 3) := by decide +kernel
theorem dX7_fillProducts_8 : decode cX7_fillProducts 8 = .ok (.iload_n 3, 1) := by decide +kernel
theorem dX7_fillProducts_9 : decode cX7_fillProducts 9 = .ok (.aload_n 0, 1) := by decide +kernel
theorem dX7_fillProducts_10 : decode cX7_fillProducts 10 = .ok (.arraylength, 1) := by decide +kernel
theorem dX7_fillProducts_11 : decode cX7_fillProducts 11 = .ok (.if_icmp .ge 61, 3) := by decide +kernel
theorem dX7_fillProducts_14 : decode cX7_fillProducts 14 = .ok (.lconst 1, 1) := by decide +kernel
theorem dX7_fillProducts_15 : decode cX7_fillProducts 15 = .ok (.lstore 4, 2) := by decide +kernel
theorem dX7_fillProducts_17 : decode cX7_fillProducts 17 = .ok (.iconst 0, 1) := by decide +kernel
theorem dX7_fillProducts_18 : decode cX7_fillProducts 18 = .ok (.istore 6, 2) := by decide +kernel
theorem dX7_fillProducts_20 : decode cX7_fillProducts 20 = .ok (.iload 6, 2) := by decide +kernel
theorem dX7_fillProducts_22 : decode cX7_fillProducts 22 = .ok (.iconst 5, 1) := by decide +kernel
theorem dX7_fillProducts_23 : decode cX7_fillProducts 23 = .ok (.if_icmp .ge 38, 3) := by decide +kernel
theorem dX7_fillProducts_26 : decode cX7_fillProducts 26 = .ok (.iconst 1, 1) := by decide +kernel
theorem dX7_fillProducts_27 : decode cX7_fillProducts 27 = .ok (.iload_n 3, 1) := by decide +kernel
theorem dX7_fillProducts_28 : decode cX7_fillProducts 28 = .ok (.iload 6, 2) := by decide +kernel
theorem dX7_fillProducts_30 : decode cX7_fillProducts 30 = .ok (.ishr, 1) := by decide +kernel
theorem dX7_fillProducts_31 : decode cX7_fillProducts 31 = .ok (.iconst 1, 1) := by decide +kernel
theorem dX7_fillProducts_32 : decode cX7_fillProducts 32 = .ok (.iand, 1) := by decide +kernel
theorem dX7_fillProducts_33 : decode cX7_fillProducts 33 = .ok (.isub, 1) := by decide +kernel
theorem dX7_fillProducts_34 : decode cX7_fillProducts 34 = .ok (.istore 7, 2) := by decide +kernel
theorem dX7_fillProducts_36 : decode cX7_fillProducts 36 = .ok (.lload 4, 2) := by decide +kernel
theorem dX7_fillProducts_38 : decode cX7_fillProducts 38 = .ok (.aload_n 2, 1) := by decide +kernel
theorem dX7_fillProducts_39 : decode cX7_fillProducts 39 = .ok (.iconst 2, 1) := by decide +kernel
theorem dX7_fillProducts_40 : decode cX7_fillProducts 40 = .ok (.iload_n 1, 1) := by decide +kernel
theorem dX7_fillProducts_41 : decode cX7_fillProducts 41 = .ok (.iload 6, 2) := by decide +kernel
theorem dX7_fillProducts_43 : decode cX7_fillProducts 43 = .ok (.iadd, 1) := by decide +kernel
theorem dX7_fillProducts_44 : decode cX7_fillProducts 44 = .ok (.imul, 1) := by decide +kernel
theorem dX7_fillProducts_45 : decode cX7_fillProducts 45 = .ok (.iload 7, 2) := by decide +kernel
theorem dX7_fillProducts_47 : decode cX7_fillProducts 47 = .ok (.iadd, 1) := by decide +kernel
theorem dX7_fillProducts_48 : decode cX7_fillProducts 48 = .ok (.invokevirtual 28, 3) := by decide +kernel
theorem dX7_fillProducts_51 : decode cX7_fillProducts 51 = .ok (.i2l, 1) := by decide +kernel
theorem dX7_fillProducts_52 : decode cX7_fillProducts 52 = .ok (.lmul, 1) := by decide +kernel
theorem dX7_fillProducts_53 : decode cX7_fillProducts 53 = .ok (.lstore 4, 2) := by decide +kernel
theorem dX7_fillProducts_55 : decode cX7_fillProducts 55 = .ok (.iinc 6 1, 3) := by decide +kernel
theorem dX7_fillProducts_58 : decode cX7_fillProducts 58 = .ok (.goto (-38), 3) := by decide +kernel
theorem dX7_fillProducts_61 : decode cX7_fillProducts 61 = .ok (.aload_n 0, 1) := by decide +kernel
theorem dX7_fillProducts_62 : decode cX7_fillProducts 62 = .ok (.iload_n 3, 1) := by decide +kernel
theorem dX7_fillProducts_63 : decode cX7_fillProducts 63 = .ok (.lload 4, 2) := by decide +kernel
theorem dX7_fillProducts_65 : decode cX7_fillProducts 65 = .ok (.lastore, 1) := by decide +kernel
theorem dX7_fillProducts_66 : decode cX7_fillProducts 66 = .ok (.iinc 3 1, 3) := by decide +kernel
theorem dX7_fillProducts_69 : decode cX7_fillProducts 69 = .ok (.goto (-67), 3) := by decide +kernel
theorem dX7_fillProducts_72 : decode cX7_fillProducts 72 = .ok (.return_, 1) := by decide +kernel
theorem dX8_init_0 : decode cX8_init 0 = .ok (.aload_n 0, 1) := by decide +kernel
theorem dX8_init_1 : decode cX8_init 1 = .ok (.invokespecial 3, 3) := by decide +kernel
theorem dX8_init_4 : decode cX8_init 4 = .ok (.aload_n 0, 1) := by decide +kernel
theorem dX8_init_5 : decode cX8_init 5 = .ok (.new 9, 3) := by decide +kernel
theorem dX8_init_8 : decode cX8_init 8 = .ok (.dup, 1) := by decide +kernel
theorem dX8_init_9 : decode cX8_init 9 = .ok (.invokespecial 11, 3) := by decide +kernel
theorem dX8_init_12 : decode cX8_init 12 = .ok (.putfield 12, 3) := by decide +kernel
theorem dX8_init_15 : decode cX8_init 15 = .ok (.aload_n 0, 1) := by decide +kernel
theorem dX8_init_16 : decode cX8_init 16 = .ok (.new 16, 3) := by decide +kernel
theorem dX8_init_19 : decode cX8_init 19 = .ok (.dup, 1) := by decide +kernel
theorem dX8_init_20 : decode cX8_init 20 = .ok (.invokespecial 18, 3) := by decide +kernel
theorem dX8_init_23 : decode cX8_init 23 = .ok (.putfield 19, 3) := by decide +kernel
theorem dX8_init_26 : decode cX8_init 26 = .ok (.aload_n 0, 1) := by decide +kernel
theorem dX8_init_27 : decode cX8_init 27 = .ok (.new 23, 3) := by decide +kernel
theorem dX8_init_30 : decode cX8_init 30 = .ok (.dup, 1) := by decide +kernel
theorem dX8_init_31 : decode cX8_init 31 = .ok (.invokespecial 25, 3) := by decide +kernel
theorem dX8_init_34 : decode cX8_init 34 = .ok (.putfield 26, 3) := by decide +kernel
theorem dX8_init_37 : decode cX8_init 37 = .ok (.aload_n 0, 1) := by decide +kernel
theorem dX8_init_38 : decode cX8_init 38 = .ok (.new 30, 3) := by decide +kernel
theorem dX8_init_41 : decode cX8_init 41 = .ok (.dup, 1) := by decide +kernel
theorem dX8_init_42 : decode cX8_init 42 = .ok (.invokespecial 32, 3) := by decide +kernel
theorem dX8_init_45 : decode cX8_init 45 = .ok (.putfield 33, 3) := by decide +kernel
theorem dX8_init_48 : decode cX8_init 48 = .ok (.aload_n 0, 1) := by decide +kernel
theorem dX8_init_49 : decode cX8_init 49 = .ok (.new 37, 3) := by decide +kernel
theorem dX8_init_52 : decode cX8_init 52 = .ok (.dup, 1) := by decide +kernel
theorem dX8_init_53 : decode cX8_init 53 = .ok (.invokespecial 39, 3) := by decide +kernel
theorem dX8_init_56 : decode cX8_init 56 = .ok (.putfield 40, 3) := by decide +kernel
theorem dX8_init_59 : decode cX8_init 59 = .ok (.aload_n 0, 1) := by decide +kernel
theorem dX8_init_60 : decode cX8_init 60 = .ok (.new 44, 3) := by decide +kernel
theorem dX8_init_63 : decode cX8_init 63 = .ok (.dup, 1) := by decide +kernel
theorem dX8_init_64 : decode cX8_init 64 = .ok (.invokespecial 46, 3) := by decide +kernel
theorem dX8_init_67 : decode cX8_init 67 = .ok (.putfield 47, 3) := by decide +kernel
theorem dX8_init_70 : decode cX8_init 70 = .ok (.aload_n 0, 1) := by decide +kernel
theorem dX8_init_71 : decode cX8_init 71 = .ok (.new 51, 3) := by decide +kernel
theorem dX8_init_74 : decode cX8_init 74 = .ok (.dup, 1) := by decide +kernel
theorem dX8_init_75 : decode cX8_init 75 = .ok (.invokespecial 53, 3) := by decide +kernel
theorem dX8_init_78 : decode cX8_init 78 = .ok (.putfield 54, 3) := by decide +kernel
theorem dX8_init_81 : decode cX8_init 81 = .ok (.aload_n 0, 1) := by decide +kernel
theorem dX8_init_82 : decode cX8_init 82 = .ok (.new 58, 3) := by decide +kernel
theorem dX8_init_85 : decode cX8_init 85 = .ok (.dup, 1) := by decide +kernel
theorem dX8_init_86 : decode cX8_init 86 = .ok (.invokespecial 60, 3) := by decide +kernel
theorem dX8_init_89 : decode cX8_init 89 = .ok (.putfield 61, 3) := by decide +kernel
theorem dX8_init_92 : decode cX8_init 92 = .ok (.aload_n 0, 1) := by decide +kernel
theorem dX8_init_93 : decode cX8_init 93 = .ok (.iconst 4, 1) := by decide +kernel
theorem dX8_init_94 : decode cX8_init 94 = .ok (.newarray .int, 2) := by decide +kernel
theorem dX8_init_96 : decode cX8_init 96 = .ok (.putfield 65, 3) := by decide +kernel
theorem dX8_init_99 : decode cX8_init 99 = .ok (.aload_n 0, 1) := by decide +kernel
theorem dX8_init_100 : decode cX8_init 100 = .ok (.iconst 0, 1) := by decide +kernel
theorem dX8_init_101 : decode cX8_init 101 = .ok (.putfield 69, 3) := by decide +kernel
theorem dX8_init_104 : decode cX8_init 104 = .ok (.aload_n 0, 1) := by decide +kernel
theorem dX8_init_105 : decode cX8_init 105 = .ok (.iconst 0, 1) := by decide +kernel
theorem dX8_init_106 : decode cX8_init 106 = .ok (.putfield 73, 3) := by decide +kernel
theorem dX8_init_109 : decode cX8_init 109 = .ok (.return_, 1) := by decide +kernel
theorem dX8_addClause_0 : decode cX8_addClause 0 = .ok (.iload_n 1, 1) := by decide +kernel
theorem dX8_addClause_1 : decode cX8_addClause 1 = .ok (.invokestatic 76, 3) := by decide +kernel
theorem dX8_addClause_4 : decode cX8_addClause 4 = .ok (.ifCond .eq 25, 3) := by decide +kernel
theorem dX8_addClause_7 : decode cX8_addClause 7 = .ok (.iload_n 2, 1) := by decide +kernel
theorem dX8_addClause_8 : decode cX8_addClause 8 = .ok (.invokestatic 80, 3) := by decide +kernel
theorem dX8_addClause_11 : decode cX8_addClause 11 = .ok (.ifCond .eq 18, 3) := by decide +kernel
theorem dX8_addClause_14 : decode cX8_addClause 14 = .ok (.iload_n 3, 1) := by decide +kernel
theorem dX8_addClause_15 : decode cX8_addClause 15 = .ok (.invokestatic 80, 3) := by decide +kernel
theorem dX8_addClause_18 : decode cX8_addClause 18 = .ok (.ifCond .eq 11, 3) := by decide +kernel
theorem dX8_addClause_21 : decode cX8_addClause 21 = .ok (.iload 4, 2) := by decide +kernel
theorem dX8_addClause_23 : decode cX8_addClause 23 = .ok (.invokestatic 80, 3) := by decide +kernel
theorem dX8_addClause_26 : decode cX8_addClause 26 = .ok (.ifCond .ne 10, 3) := by decide +kernel
theorem dX8_addClause_29 : decode cX8_addClause 29 = .ok (.aload_n 0, 1) := by decide +kernel
theorem dX8_addClause_30 : decode cX8_addClause 30 = .ok (.bipush (-2), 2) := by decide +kernel
theorem dX8_addClause_32 : decode cX8_addClause 32 = .ok (.invokevirtual 83, 3) := by decide +kernel
theorem dX8_addClause_35 : decode cX8_addClause 35 = .ok (.ireturn, 1) := by decide +kernel
theorem dX8_addClause_36 : decode cX8_addClause 36 = .ok (.iload_n 1, 1) := by decide +kernel
theorem dX8_addClause_37 : decode cX8_addClause 37 = .ok (.iload_n 2, 1) := by decide +kernel
theorem dX8_addClause_38 : decode cX8_addClause 38 = .ok (.invokestatic 87, 3) := by decide +kernel
theorem dX8_addClause_41 : decode cX8_addClause 41 = .ok (.ifCond .ne 46, 3) := by decide +kernel
theorem dX8_addClause_44 : decode cX8_addClause 44 = .ok (.iload_n 1, 1) := by decide +kernel
theorem dX8_addClause_45 : decode cX8_addClause 45 = .ok (.iload_n 3, 1) := by decide +kernel
theorem dX8_addClause_46 : decode cX8_addClause 46 = .ok (.invokestatic 87, 3) := by decide +kernel
theorem dX8_addClause_49 : decode cX8_addClause 49 = .ok (.ifCond .ne 38, 3) := by decide +kernel
theorem dX8_addClause_52 : decode cX8_addClause 52 = .ok (.iload_n 1, 1) := by decide +kernel
theorem dX8_addClause_53 : decode cX8_addClause 53 = .ok (.iload 4, 2) := by decide +kernel
theorem dX8_addClause_55 : decode cX8_addClause 55 = .ok (.invokestatic 87, 3) := by decide +kernel
theorem dX8_addClause_58 : decode cX8_addClause 58 = .ok (.ifCond .ne 29, 3) := by decide +kernel
theorem dX8_addClause_61 : decode cX8_addClause 61 = .ok (.iload_n 2, 1) := by decide +kernel
theorem dX8_addClause_62 : decode cX8_addClause 62 = .ok (.iload_n 3, 1) := by decide +kernel
theorem dX8_addClause_63 : decode cX8_addClause 63 = .ok (.invokestatic 87, 3) := by decide +kernel
theorem dX8_addClause_66 : decode cX8_addClause 66 = .ok (.ifCond .ne 21, 3) := by decide +kernel
theorem dX8_addClause_69 : decode cX8_addClause 69 = .ok (.iload_n 2, 1) := by decide +kernel
theorem dX8_addClause_70 : decode cX8_addClause 70 = .ok (.iload 4, 2) := by decide +kernel
theorem dX8_addClause_72 : decode cX8_addClause 72 = .ok (.invokestatic 87, 3) := by decide +kernel
theorem dX8_addClause_75 : decode cX8_addClause 75 = .ok (.ifCond .ne 12, 3) := by decide +kernel
theorem dX8_addClause_78 : decode cX8_addClause 78 = .ok (.iload_n 3, 1) := by decide +kernel
theorem dX8_addClause_79 : decode cX8_addClause 79 = .ok (.iload 4, 2) := by decide +kernel
theorem dX8_addClause_81 : decode cX8_addClause 81 = .ok (.invokestatic 87, 3) := by decide +kernel
