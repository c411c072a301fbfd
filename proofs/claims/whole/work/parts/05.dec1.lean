theorem d_MA_floorDiv_0 : decode b_MA_floorDiv 0 = .ok (.lload_n 0, 1) := by decide +kernel
theorem d_MA_floorDiv_1 : decode b_MA_floorDiv 1 = .ok (.lload_n 2, 1) := by decide +kernel
theorem d_MA_floorDiv_2 : decode b_MA_floorDiv 2 = .ok (.ldiv, 1) := by decide +kernel
theorem d_MA_floorDiv_3 : decode b_MA_floorDiv 3 = .ok (.lstore 4, 2) := by decide +kernel
theorem d_MA_floorDiv_5 : decode b_MA_floorDiv 5 = .ok (.lload_n 0, 1) := by decide +kernel
theorem d_MA_floorDiv_6 : decode b_MA_floorDiv 6 = .ok (.lload_n 2, 1) := by decide +kernel
theorem d_MA_floorDiv_7 : decode b_MA_floorDiv 7 = .ok (.lxor, 1) := by decide +kernel
theorem d_MA_floorDiv_8 : decode b_MA_floorDiv 8 = .ok (.lconst 0, 1) := by decide +kernel
theorem d_MA_floorDiv_9 : decode b_MA_floorDiv 9 = .ok (.lcmp, 1) := by decide +kernel
theorem d_MA_floorDiv_10 : decode b_MA_floorDiv 10 = .ok (.ifCond .ge 17, 3) := by decide +kernel
theorem d_MA_floorDiv_13 : decode b_MA_floorDiv 13 = .ok (.lload 4, 2) := by decide +kernel
theorem d_MA_floorDiv_15 : decode b_MA_floorDiv 15 = .ok (.lload_n 2, 1) := by decide +kernel
theorem d_MA_floorDiv_16 : decode b_MA_floorDiv 16 = .ok (.lmul, 1) := by decide +kernel
theorem d_MA_floorDiv_17 : decode b_MA_floorDiv 17 = .ok (.lload_n 0, 1) := by decide +kernel
theorem d_MA_floorDiv_18 : decode b_MA_floorDiv 18 = .ok (.lcmp, 1) := by decide +kernel
theorem d_MA_floorDiv_19 : decode b_MA_floorDiv 19 = .ok (.ifCond .eq 8, 3) := by decide +kernel
theorem d_MA_floorDiv_22 : decode b_MA_floorDiv 22 = .ok (.lload 4, 2) := by decide +kernel
theorem d_MA_floorDiv_24 : decode b_MA_floorDiv 24 = .ok (.lconst 1, 1) := by decide +kernel
theorem d_MA_floorDiv_25 : decode b_MA_floorDiv 25 = .ok (.lsub, 1) := by decide +kernel
theorem d_MA_floorDiv_26 : decode b_MA_floorDiv 26 = .ok (.lreturn, 1) := by decide +kernel
theorem d_MA_floorDiv_27 : decode b_MA_floorDiv 27 = .ok (.lload 4, 2) := by decide +kernel
theorem d_MA_floorDiv_29 : decode b_MA_floorDiv 29 = .ok (.lreturn, 1) := by decide +kernel
theorem d_CA_firstDay_0 : decode b_CA_firstDay 0 = .ok (.lload_n 0, 1) := by decide +kernel
theorem d_CA_firstDay_1 : decode b_CA_firstDay 1 = .ok (.ldc2_w 9, 3) := by decide +kernel
theorem d_CA_firstDay_4 : decode b_CA_firstDay 4 = .ok (.ladd, 1) := by decide +kernel
theorem d_CA_firstDay_5 : decode b_CA_firstDay 5 = .ok (.lstore_n 2, 1) := by decide +kernel
theorem d_CA_firstDay_6 : decode b_CA_firstDay 6 = .ok (.lload_n 2, 1) := by decide +kernel
theorem d_CA_firstDay_7 : decode b_CA_firstDay 7 = .ok (.ldc2_w 11, 3) := by decide +kernel
theorem d_CA_firstDay_10 : decode b_CA_firstDay 10 = .ok (.invokestatic 13, 3) := by decide +kernel
theorem d_CA_firstDay_13 : decode b_CA_firstDay 13 = .ok (.lstore 4, 2) := by decide +kernel
theorem d_CA_firstDay_15 : decode b_CA_firstDay 15 = .ok (.lload 4, 2) := by decide +kernel
theorem d_CA_firstDay_17 : decode b_CA_firstDay 17 = .ok (.ldc2_w 19, 3) := by decide +kernel
theorem d_CA_firstDay_20 : decode b_CA_firstDay 20 = .ok (.invokestatic 13, 3) := by decide +kernel
theorem d_CA_firstDay_23 : decode b_CA_firstDay 23 = .ok (.lload 4, 2) := by decide +kernel
theorem d_CA_firstDay_25 : decode b_CA_firstDay 25 = .ok (.ldc2_w 21, 3) := by decide +kernel
theorem d_CA_firstDay_28 : decode b_CA_firstDay 28 = .ok (.invokestatic 13, 3) := by decide +kernel
theorem d_CA_firstDay_31 : decode b_CA_firstDay 31 = .ok (.lsub, 1) := by decide +kernel
theorem d_CA_firstDay_32 : decode b_CA_firstDay 32 = .ok (.lload 4, 2) := by decide +kernel
theorem d_CA_firstDay_34 : decode b_CA_firstDay 34 = .ok (.ldc2_w 23, 3) := by decide +kernel
theorem d_CA_firstDay_37 : decode b_CA_firstDay 37 = .ok (.invokestatic 13, 3) := by decide +kernel
theorem d_CA_firstDay_40 : decode b_CA_firstDay 40 = .ok (.ladd, 1) := by decide +kernel
theorem d_CA_firstDay_41 : decode b_CA_firstDay 41 = .ok (.lstore 6, 2) := by decide +kernel
theorem d_CA_firstDay_43 : decode b_CA_firstDay 43 = .ok (.ldc2_w 25, 3) := by decide +kernel
theorem d_CA_firstDay_46 : decode b_CA_firstDay 46 = .ok (.lload_n 2, 1) := by decide +kernel
theorem d_CA_firstDay_47 : decode b_CA_firstDay 47 = .ok (.ldc2_w 11, 3) := by decide +kernel
theorem d_CA_firstDay_50 : decode b_CA_firstDay 50 = .ok (.lload 4, 2) := by decide +kernel
theorem d_CA_firstDay_52 : decode b_CA_firstDay 52 = .ok (.lmul, 1) := by decide +kernel
theorem d_CA_firstDay_53 : decode b_CA_firstDay 53 = .ok (.lsub, 1) := by decide +kernel
theorem d_CA_firstDay_54 : decode b_CA_firstDay 54 = .ok (.lmul, 1) := by decide +kernel
theorem d_CA_firstDay_55 : decode b_CA_firstDay 55 = .ok (.ldc2_w 27, 3) := by decide +kernel
theorem d_CA_firstDay_58 : decode b_CA_firstDay 58 = .ok (.ladd, 1) := by decide +kernel
theorem d_CA_firstDay_59 : decode b_CA_firstDay 59 = .ok (.ldc2_w 29, 3) := by decide +kernel
theorem d_CA_firstDay_62 : decode b_CA_firstDay 62 = .ok (.ldiv, 1) := by decide +kernel
theorem d_CA_firstDay_63 : decode b_CA_firstDay 63 = .ok (.lstore 8, 2) := by decide +kernel
theorem d_CA_firstDay_65 : decode b_CA_firstDay 65 = .ok (.ldc2_w 31, 3) := by decide +kernel
theorem d_CA_firstDay_68 : decode b_CA_firstDay 68 = .ok (.lload 4, 2) := by decide +kernel
theorem d_CA_firstDay_70 : decode b_CA_firstDay 70 = .ok (.lmul, 1) := by decide +kernel
theorem d_CA_firstDay_71 : decode b_CA_firstDay 71 = .ok (.lload 6, 2) := by decide +kernel
theorem d_CA_firstDay_73 : decode b_CA_firstDay 73 = .ok (.ladd, 1) := by decide +kernel
theorem d_CA_firstDay_74 : decode b_CA_firstDay 74 = .ok (.lload 8, 2) := by decide +kernel
theorem d_CA_firstDay_76 : decode b_CA_firstDay 76 = .ok (.ladd, 1) := by decide +kernel
theorem d_CA_firstDay_77 : decode b_CA_firstDay 77 = .ok (.ldc2_w 33, 3) := by decide +kernel
theorem d_CA_firstDay_80 : decode b_CA_firstDay 80 = .ok (.lsub, 1) := by decide +kernel
theorem d_CA_firstDay_81 : decode b_CA_firstDay 81 = .ok (.lreturn, 1) := by decide +kernel
theorem d_CA_monthOf_0 : decode b_CA_monthOf 0 = .ok (.lload_n 0, 1) := by decide +kernel
theorem d_CA_monthOf_1 : decode b_CA_monthOf 1 = .ok (.ldc2_w 35, 3) := by decide +kernel
theorem d_CA_monthOf_4 : decode b_CA_monthOf 4 = .ok (.lmul, 1) := by decide +kernel
theorem d_CA_monthOf_5 : decode b_CA_monthOf 5 = .ok (.ldc2_w 37, 3) := by decide +kernel
theorem d_CA_monthOf_8 : decode b_CA_monthOf 8 = .ok (.invokestatic 13, 3) := by decide +kernel
theorem d_CA_monthOf_11 : decode b_CA_monthOf 11 = .ok (.ldc2_w 27, 3) := by decide +kernel
theorem d_CA_monthOf_14 : decode b_CA_monthOf 14 = .ok (.lsub, 1) := by decide +kernel
theorem d_CA_monthOf_15 : decode b_CA_monthOf 15 = .ok (.lstore_n 2, 1) := by decide +kernel
theorem d_CA_monthOf_16 : decode b_CA_monthOf 16 = .ok (.iconst 0, 1) := by decide +kernel
theorem d_CA_monthOf_17 : decode b_CA_monthOf 17 = .ok (.istore 4, 2) := by decide +kernel
theorem d_CA_monthOf_19 : decode b_CA_monthOf 19 = .ok (.iload 4, 2) := by decide +kernel
theorem d_CA_monthOf_21 : decode b_CA_monthOf 21 = .ok (.iconst 5, 1) := by decide +kernel
theorem d_CA_monthOf_22 : decode b_CA_monthOf 22 = .ok (.if_icmp .ge 24, 3) := by decide +kernel
theorem d_CA_monthOf_25 : decode b_CA_monthOf 25 = .ok (.lload_n 2, 1) := by decide +kernel
theorem d_CA_monthOf_26 : decode b_CA_monthOf 26 = .ok (.lconst 1, 1) := by decide +kernel
theorem d_CA_monthOf_27 : decode b_CA_monthOf 27 = .ok (.ladd, 1) := by decide +kernel
theorem d_CA_monthOf_28 : decode b_CA_monthOf 28 = .ok (.invokestatic 39, 3) := by decide +kernel
theorem d_CA_monthOf_31 : decode b_CA_monthOf 31 = .ok (.lload_n 0, 1) := by decide +kernel
theorem d_CA_monthOf_32 : decode b_CA_monthOf 32 = .ok (.lcmp, 1) := by decide +kernel
theorem d_CA_monthOf_33 : decode b_CA_monthOf 33 = .ok (.ifCond .gt 13, 3) := by decide +kernel
theorem d_CA_monthOf_36 : decode b_CA_monthOf 36 = .ok (.lload_n 2, 1) := by decide +kernel
theorem d_CA_monthOf_37 : decode b_CA_monthOf 37 = .ok (.lconst 1, 1) := by decide +kernel
theorem d_CA_monthOf_38 : decode b_CA_monthOf 38 = .ok (.ladd, 1) := by decide +kernel
theorem d_CA_monthOf_39 : decode b_CA_monthOf 39 = .ok (.lstore_n 2, 1) := by decide +kernel
theorem d_CA_monthOf_40 : decode b_CA_monthOf 40 = .ok (.iinc 4 1, 3) := by decide +kernel
theorem d_CA_monthOf_43 : decode b_CA_monthOf 43 = .ok (.goto (-24), 3) := by decide +kernel
theorem d_CA_monthOf_46 : decode b_CA_monthOf 46 = .ok (.lload_n 2, 1) := by decide +kernel
theorem d_CA_monthOf_47 : decode b_CA_monthOf 47 = .ok (.lreturn, 1) := by decide +kernel
theorem d_CO_clear_0 : decode b_CO_clear 0 = .ok (.aload_n 0, 1) := by decide +kernel
theorem d_CO_clear_1 : decode b_CO_clear 1 = .ok (.iconst 0, 1) := by decide +kernel
theorem d_CO_clear_2 : decode b_CO_clear 2 = .ok (.putfield 7, 3) := by decide +kernel
theorem d_CO_clear_5 : decode b_CO_clear 5 = .ok (.aload_n 0, 1) := by decide +kernel
theorem d_CO_clear_6 : decode b_CO_clear 6 = .ok (.lconst 0, 1) := by decide +kernel
theorem d_CO_clear_7 : decode b_CO_clear 7 = .ok (.putfield 13, 3) := by decide +kernel
theorem d_CO_clear_10 : decode b_CO_clear 10 = .ok (.aload_n 0, 1) := by decide +kernel
theorem d_CO_clear_11 : decode b_CO_clear 11 = .ok (.lconst 0, 1) := by decide +kernel
theorem d_CO_clear_12 : decode b_CO_clear 12 = .ok (.putfield 17, 3) := by decide +kernel
theorem d_CO_clear_15 : decode b_CO_clear 15 = .ok (.aload_n 0, 1) := by decide +kernel
theorem d_CO_clear_16 : decode b_CO_clear 16 = .ok (.lconst 0, 1) := by decide +kernel
theorem d_CO_clear_17 : decode b_CO_clear 17 = .ok (.putfield 20, 3) := by decide +kernel
theorem d_CO_clear_20 : decode b_CO_clear 20 = .ok (.aload_n 0, 1) := by decide +kernel
theorem d_CO_clear_21 : decode b_CO_clear 21 = .ok (.lconst 0, 1) := by decide +kernel
theorem d_CO_clear_22 : decode b_CO_clear 22 = .ok (.putfield 23, 3) := by decide +kernel
theorem d_CO_clear_25 : decode b_CO_clear 25 = .ok (.return_, 1) := by decide +kernel
theorem d_CO_add_0 : decode b_CO_add 0 = .ok (.aload_n 0, 1) := by decide +kernel
theorem d_CO_add_1 : decode b_CO_add 1 = .ok (.aload_n 0, 1) := by decide +kernel
theorem d_CO_add_2 : decode b_CO_add 2 = .ok (.getfield 7, 3) := by decide +kernel
theorem d_CO_add_5 : decode b_CO_add 5 = .ok (.ifCond .ne 7, 3) := by decide +kernel
theorem d_CO_add_8 : decode b_CO_add 8 = .ok (.lload_n 1, 1) := by decide +kernel
theorem d_CO_add_9 : decode b_CO_add 9 = .ok (.goto 11, 3) := by decide +kernel
theorem d_CO_add_12 : decode b_CO_add 12 = .ok (.aload_n 0, 1) := by decide +kernel
theorem d_CO_add_13 : decode b_CO_add 13 = .ok (.getfield 17, 3) := by decide +kernel
theorem d_CO_add_16 : decode b_CO_add 16 = .ok (.lload_n 1, 1) := by decide +kernel
theorem d_CO_add_17 : decode b_CO_add 17 = .ok (.invokestatic 26, 3) := by decide +kernel
theorem d_CO_add_20 : decode b_CO_add 20 = .ok (.putfield 17, 3) := by decide +kernel
theorem d_CO_add_23 : decode b_CO_add 23 = .ok (.aload_n 0, 1) := by decide +kernel
theorem d_CO_add_24 : decode b_CO_add 24 = .ok (.aload_n 0, 1) := by decide +kernel
theorem d_CO_add_25 : decode b_CO_add 25 = .ok (.getfield 7, 3) := by decide +kernel
theorem d_CO_add_28 : decode b_CO_add 28 = .ok (.ifCond .ne 7, 3) := by decide +kernel
theorem d_CO_add_31 : decode b_CO_add 31 = .ok (.lload_n 1, 1) := by decide +kernel
theorem d_CO_add_32 : decode b_CO_add 32 = .ok (.goto 11, 3) := by decide +kernel
theorem d_CO_add_35 : decode b_CO_add 35 = .ok (.aload_n 0, 1) := by decide +kernel
theorem d_CO_add_36 : decode b_CO_add 36 = .ok (.getfield 20, 3) := by decide +kernel
theorem d_CO_add_39 : decode b_CO_add 39 = .ok (.lload_n 1, 1) := by decide +kernel
theorem d_CO_add_40 : decode b_CO_add 40 = .ok (.invokestatic 32, 3) := by decide +kernel
theorem d_CO_add_43 : decode b_CO_add 43 = .ok (.putfield 20, 3) := by decide +kernel
theorem d_CO_add_46 : decode b_CO_add 46 = .ok (.aload_n 0, 1) := by decide +kernel
theorem d_CO_add_47 : decode b_CO_add 47 = .ok (.dup, 1) := by decide +kernel
theorem d_CO_add_48 : decode b_CO_add 48 = .ok (.getfield 7, 3) := by decide +kernel
theorem d_CO_add_51 : decode b_CO_add 51 = .ok (.iconst 1, 1) := by decide +kernel
theorem d_CO_add_52 : decode b_CO_add 52 = .ok (.iadd, 1) := by decide +kernel
theorem d_CO_add_53 : decode b_CO_add 53 = .ok (.putfield 7, 3) := by decide +kernel
theorem d_CO_add_56 : decode b_CO_add 56 = .ok (.aload_n 0, 1) := by decide +kernel
theorem d_CO_add_57 : decode b_CO_add 57 = .ok (.dup, 1) := by decide +kernel
theorem d_CO_add_58 : decode b_CO_add 58 = .ok (.getfield 13, 3) := by decide +kernel
theorem d_CO_add_61 : decode b_CO_add 61 = .ok (.lload_n 1, 1) := by decide +kernel
theorem d_CO_add_62 : decode b_CO_add 62 = .ok (.ladd, 1) := by decide +kernel
theorem d_CO_add_63 : decode b_CO_add 63 = .ok (.putfield 13, 3) := by decide +kernel
theorem d_CO_add_66 : decode b_CO_add 66 = .ok (.aload_n 0, 1) := by decide +kernel
theorem d_CO_add_67 : decode b_CO_add 67 = .ok (.ldc2_w 35, 3) := by decide +kernel
theorem d_CO_add_70 : decode b_CO_add 70 = .ok (.aload_n 0, 1) := by decide +kernel
theorem d_CO_add_71 : decode b_CO_add 71 = .ok (.getfield 23, 3) := by decide +kernel
theorem d_CO_add_74 : decode b_CO_add 74 = .ok (.lmul, 1) := by decide +kernel
theorem d_CO_add_75 : decode b_CO_add 75 = .ok (.lload_n 1, 1) := by decide +kernel
theorem d_CO_add_76 : decode b_CO_add 76 = .ok (.ladd, 1) := by decide +kernel
theorem d_CO_add_77 : decode b_CO_add 77 = .ok (.putfield 23, 3) := by decide +kernel
theorem d_CO_add_80 : decode b_CO_add 80 = .ok (.return_, 1) := by decide +kernel
theorem d_CO_part_0 : decode b_CO_part 0 = .ok (.iload_n 1, 1) := by decide +kernel
theorem d_CO_part_1 : decode b_CO_part 1 = .ok (.tableswitch 52 4 7 #[31, 37, 42, 47], 31) := by decide +kernel
theorem d_CO_part_32 : decode b_CO_part 32 = .ok (.aload_n 0, 1) := by decide +kernel
theorem d_CO_part_33 : decode b_CO_part 33 = .ok (.getfield 7, 3) := by decide +kernel
theorem d_CO_part_36 : decode b_CO_part 36 = .ok (.i2l, 1) := by decide +kernel
theorem d_CO_part_37 : decode b_CO_part 37 = .ok (.lreturn, 1) := by decide +kernel
theorem d_CO_part_38 : decode b_CO_part 38 = .ok (.aload_n 0, 1) := by decide +kernel
theorem d_CO_part_39 : decode b_CO_part 39 = .ok (.getfield 13, 3) := by decide +kernel
theorem d_CO_part_42 : decode b_CO_part 42 = .ok (.lreturn, 1) := by decide +kernel
theorem d_CO_part_43 : decode b_CO_part 43 = .ok (.aload_n 0, 1) := by decide +kernel
theorem d_CO_part_44 : decode b_CO_part 44 = .ok (.getfield 17, 3) := by decide +kernel
theorem d_CO_part_47 : decode b_CO_part 47 = .ok (.lreturn, 1) := by decide +kernel
theorem d_CO_part_48 : decode b_CO_part 48 = .ok (.aload_n 0, 1) := by decide +kernel
theorem d_CO_part_49 : decode b_CO_part 49 = .ok (.getfield 20, 3) := by decide +kernel
theorem d_CO_part_52 : decode b_CO_part 52 = .ok (.lreturn, 1) := by decide +kernel
theorem d_CO_part_53 : decode b_CO_part 53 = .ok (.aload_n 0, 1) := by decide +kernel
theorem d_CO_part_54 : decode b_CO_part 54 = .ok (.getfield 23, 3) := by decide +kernel
theorem d_CO_part_57 : decode b_CO_part 57 = .ok (.lreturn, 1) := by decide +kernel
theorem d_FS_kept_0 : decode b_FS_kept 0 = .ok (.aload_n 0, 1) := by decide +kernel
theorem d_FS_kept_1 : decode b_FS_kept 1 = .ok (.getfield 15, 3) := by decide +kernel
theorem d_FS_kept_4 : decode b_FS_kept 4 = .ok (.sipush 400, 3) := by decide +kernel
theorem d_FS_kept_7 : decode b_FS_kept 7 = .ok (.invokestatic 25, 3) := by decide +kernel
theorem d_FS_kept_10 : decode b_FS_kept 10 = .ok (.ireturn, 1) := by decide +kernel
theorem d_FS_cell_0 : decode b_FS_cell 0 = .ok (.aload_n 0, 1) := by decide +kernel
theorem d_FS_cell_1 : decode b_FS_cell 1 = .ok (.getfield 11, 3) := by decide +kernel
theorem d_FS_cell_4 : decode b_FS_cell 4 = .ok (.aload_n 0, 1) := by decide +kernel
theorem d_FS_cell_5 : decode b_FS_cell 5 = .ok (.getfield 15, 3) := by decide +kernel
theorem d_FS_cell_8 : decode b_FS_cell 8 = .ok (.aload_n 0, 1) := by decide +kernel
theorem d_FS_cell_9 : decode b_FS_cell 9 = .ok (.invokevirtual 31, 3) := by decide +kernel
theorem d_FS_cell_12 : decode b_FS_cell 12 = .ok (.isub, 1) := by decide +kernel
theorem d_FS_cell_13 : decode b_FS_cell 13 = .ok (.iload_n 1, 1) := by decide +kernel
theorem d_FS_cell_14 : decode b_FS_cell 14 = .ok (.iadd, 1) := by decide +kernel
theorem d_FS_cell_15 : decode b_FS_cell 15 = .ok (.sipush 400, 3) := by decide +kernel
theorem d_FS_cell_18 : decode b_FS_cell 18 = .ok (.irem, 1) := by decide +kernel
theorem d_FS_cell_19 : decode b_FS_cell 19 = .ok (.bipush 10, 2) := by decide +kernel
theorem d_FS_cell_21 : decode b_FS_cell 21 = .ok (.imul, 1) := by decide +kernel
theorem d_FS_cell_22 : decode b_FS_cell 22 = .ok (.iload_n 2, 1) := by decide +kernel
theorem d_FS_cell_23 : decode b_FS_cell 23 = .ok (.iadd, 1) := by decide +kernel
theorem d_FS_cell_24 : decode b_FS_cell 24 = .ok (.laload, 1) := by decide +kernel
theorem d_FS_cell_25 : decode b_FS_cell 25 = .ok (.lreturn, 1) := by decide +kernel
theorem d_FS_add_0 : decode b_FS_add 0 = .ok (.aload_n 0, 1) := by decide +kernel
theorem d_FS_add_1 : decode b_FS_add 1 = .ok (.getfield 15, 3) := by decide +kernel
theorem d_FS_add_4 : decode b_FS_add 4 = .ok (.sipush 400, 3) := by decide +kernel
theorem d_FS_add_7 : decode b_FS_add 7 = .ok (.irem, 1) := by decide +kernel
theorem d_FS_add_8 : decode b_FS_add 8 = .ok (.bipush 10, 2) := by decide +kernel
theorem d_FS_add_10 : decode b_FS_add 10 = .ok (.imul, 1) := by decide +kernel
theorem d_FS_add_11 : decode b_FS_add 11 = .ok (.istore 9, 2) := by decide +kernel
theorem d_FS_add_13 : decode b_FS_add 13 = .ok (.aload_n 0, 1) := by decide +kernel
theorem d_FS_add_14 : decode b_FS_add 14 = .ok (.getfield 11, 3) := by decide +kernel
theorem d_FS_add_17 : decode b_FS_add 17 = .ok (.iload 9, 2) := by decide +kernel
theorem d_FS_add_19 : decode b_FS_add 19 = .ok (.iload_n 1, 1) := by decide +kernel
theorem d_FS_add_20 : decode b_FS_add 20 = .ok (.i2l, 1) := by decide +kernel
theorem d_FS_add_21 : decode b_FS_add 21 = .ok (.lastore, 1) := by decide +kernel
theorem d_FS_add_22 : decode b_FS_add 22 = .ok (.aload_n 0, 1) := by decide +kernel
theorem d_FS_add_23 : decode b_FS_add 23 = .ok (.getfield 11, 3) := by decide +kernel
theorem d_FS_add_26 : decode b_FS_add 26 = .ok (.iload 9, 2) := by decide +kernel
theorem d_FS_add_28 : decode b_FS_add 28 = .ok (.iconst 1, 1) := by decide +kernel
theorem d_FS_add_29 : decode b_FS_add 29 = .ok (.iadd, 1) := by decide +kernel
theorem d_FS_add_30 : decode b_FS_add 30 = .ok (.lload_n 2, 1) := by decide +kernel
theorem d_FS_add_31 : decode b_FS_add 31 = .ok (.lastore, 1) := by decide +kernel
theorem d_FS_add_32 : decode b_FS_add 32 = .ok (.aload_n 0, 1) := by decide +kernel
theorem d_FS_add_33 : decode b_FS_add 33 = .ok (.getfield 11, 3) := by decide +kernel
theorem d_FS_add_36 : decode b_FS_add 36 = .ok (.iload 9, 2) := by decide +kernel
theorem d_FS_add_38 : decode b_FS_add 38 = .ok (.iconst 2, 1) := by decide +kernel
theorem d_FS_add_39 : decode b_FS_add 39 = .ok (.iadd, 1) := by decide +kernel
theorem d_FS_add_40 : decode b_FS_add 40 = .ok (.lload 4, 2) := by decide +kernel
theorem d_FS_add_42 : decode b_FS_add 42 = .ok (.lastore, 1) := by decide +kernel
theorem d_FS_add_43 : decode b_FS_add 43 = .ok (.aload_n 0, 1) := by decide +kernel
theorem d_FS_add_44 : decode b_FS_add 44 = .ok (.getfield 11, 3) := by decide +kernel
theorem d_FS_add_47 : decode b_FS_add 47 = .ok (.iload 9, 2) := by decide +kernel
theorem d_FS_add_49 : decode b_FS_add 49 = .ok (.iconst 3, 1) := by decide +kernel
theorem d_FS_add_50 : decode b_FS_add 50 = .ok (.iadd, 1) := by decide +kernel
theorem d_FS_add_51 : decode b_FS_add 51 = .ok (.iload 6, 2) := by decide +kernel
theorem d_FS_add_53 : decode b_FS_add 53 = .ok (.i2l, 1) := by decide +kernel
theorem d_FS_add_54 : decode b_FS_add 54 = .ok (.lastore, 1) := by decide +kernel
theorem d_FS_add_55 : decode b_FS_add 55 = .ok (.iconst 4, 1) := by decide +kernel
theorem d_FS_add_56 : decode b_FS_add 56 = .ok (.istore 10, 2) := by decide +kernel
theorem d_FS_add_58 : decode b_FS_add 58 = .ok (.iload 10, 2) := by decide +kernel
theorem d_FS_add_60 : decode b_FS_add 60 = .ok (.bipush 8, 2) := by decide +kernel
theorem d_FS_add_62 : decode b_FS_add 62 = .ok (.if_icmp .gt 26, 3) := by decide +kernel
theorem d_FS_add_65 : decode b_FS_add 65 = .ok (.aload_n 0, 1) := by decide +kernel
theorem d_FS_add_66 : decode b_FS_add 66 = .ok (.getfield 11, 3) := by decide +kernel
theorem d_FS_add_69 : decode b_FS_add 69 = .ok (.iload 9, 2) := by decide +kernel
theorem d_FS_add_71 : decode b_FS_add 71 = .ok (.iload 10, 2) := by decide +kernel
theorem d_FS_add_73 : decode b_FS_add 73 = .ok (.iadd, 1) := by decide +kernel
theorem d_FS_add_74 : decode b_FS_add 74 = .ok (.aload 8, 2) := by decide +kernel
theorem d_FS_add_76 : decode b_FS_add 76 = .ok (.iload 10, 2) := by decide +kernel
theorem d_FS_add_78 : decode b_FS_add 78 = .ok (.invokevirtual 35, 3) := by decide +kernel
theorem d_FS_add_81 : decode b_FS_add 81 = .ok (.lastore, 1) := by decide +kernel
theorem d_FS_add_82 : decode b_FS_add 82 = .ok (.iinc 10 1, 3) := by decide +kernel
theorem d_FS_add_85 : decode b_FS_add 85 = .ok (.goto (-27), 3) := by decide +kernel
theorem d_FS_add_88 : decode b_FS_add 88 = .ok (.aload_n 0, 1) := by decide +kernel
theorem d_FS_add_89 : decode b_FS_add 89 = .ok (.getfield 11, 3) := by decide +kernel
theorem d_FS_add_92 : decode b_FS_add 92 = .ok (.iload 9, 2) := by decide +kernel
theorem d_FS_add_94 : decode b_FS_add 94 = .ok (.bipush 9, 2) := by decide +kernel
theorem d_FS_add_96 : decode b_FS_add 96 = .ok (.iadd, 1) := by decide +kernel
theorem d_FS_add_97 : decode b_FS_add 97 = .ok (.iload 7, 2) := by decide +kernel
theorem d_FS_add_99 : decode b_FS_add 99 = .ok (.i2l, 1) := by decide +kernel
theorem d_FS_add_100 : decode b_FS_add 100 = .ok (.lastore, 1) := by decide +kernel
theorem d_FS_add_101 : decode b_FS_add 101 = .ok (.aload_n 0, 1) := by decide +kernel
theorem d_FS_add_102 : decode b_FS_add 102 = .ok (.dup, 1) := by decide +kernel
theorem d_FS_add_103 : decode b_FS_add 103 = .ok (.getfield 15, 3) := by decide +kernel
theorem d_FS_add_106 : decode b_FS_add 106 = .ok (.iconst 1, 1) := by decide +kernel
theorem d_FS_add_107 : decode b_FS_add 107 = .ok (.iadd, 1) := by decide +kernel
theorem d_FS_add_108 : decode b_FS_add 108 = .ok (.putfield 15, 3) := by decide +kernel
theorem d_FS_add_111 : decode b_FS_add 111 = .ok (.iload 6, 2) := by decide +kernel
theorem d_FS_add_113 : decode b_FS_add 113 = .ok (.ifCond .ne 16, 3) := by decide +kernel
theorem d_FS_add_116 : decode b_FS_add 116 = .ok (.aload_n 0, 1) := by decide +kernel
theorem d_FS_add_117 : decode b_FS_add 117 = .ok (.dup, 1) := by decide +kernel
theorem d_FS_add_118 : decode b_FS_add 118 = .ok (.getfield 19, 3) := by decide +kernel
theorem d_FS_add_121 : decode b_FS_add 121 = .ok (.iconst 1, 1) := by decide +kernel
theorem d_FS_add_122 : decode b_FS_add 122 = .ok (.iadd, 1) := by decide +kernel
theorem d_FS_add_123 : decode b_FS_add 123 = .ok (.putfield 19, 3) := by decide +kernel
theorem d_FS_add_126 : decode b_FS_add 126 = .ok (.goto 19, 3) := by decide +kernel
theorem d_FS_add_129 : decode b_FS_add 129 = .ok (.iload 6, 2) := by decide +kernel
theorem d_FS_add_131 : decode b_FS_add 131 = .ok (.iconst 2, 1) := by decide +kernel
theorem d_FS_add_132 : decode b_FS_add 132 = .ok (.if_icmp .ne 13, 3) := by decide +kernel
theorem d_FS_add_135 : decode b_FS_add 135 = .ok (.aload_n 0, 1) := by decide +kernel
theorem d_FS_add_136 : decode b_FS_add 136 = .ok (.dup, 1) := by decide +kernel
theorem d_FS_add_137 : decode b_FS_add 137 = .ok (.getfield 22, 3) := by decide +kernel
theorem d_FS_add_140 : decode b_FS_add 140 = .ok (.iconst 1, 1) := by decide +kernel
theorem d_FS_add_141 : decode b_FS_add 141 = .ok (.iadd, 1) := by decide +kernel
theorem d_FS_add_142 : decode b_FS_add 142 = .ok (.putfield 22, 3) := by decide +kernel
theorem d_FS_add_145 : decode b_FS_add 145 = .ok (.return_, 1) := by decide +kernel
theorem d_FB_has_0 : decode b_FB_has 0 = .ok (.iconst 0, 1) := by decide +kernel
theorem d_FB_has_1 : decode b_FB_has 1 = .ok (.istore 4, 2) := by decide +kernel
theorem d_FB_has_3 : decode b_FB_has 3 = .ok (.iload 4, 2) := by decide +kernel
theorem d_FB_has_5 : decode b_FB_has 5 = .ok (.aload_n 0, 1) := by decide +kernel
theorem d_FB_has_6 : decode b_FB_has 6 = .ok (.getfield 15, 3) := by decide +kernel
theorem d_FB_has_9 : decode b_FB_has 9 = .ok (.iload_n 1, 1) := by decide +kernel
theorem d_FB_has_10 : decode b_FB_has 10 = .ok (.iaload, 1) := by decide +kernel
theorem d_FB_has_11 : decode b_FB_has 11 = .ok (.if_icmp .ge 28, 3) := by decide +kernel
theorem d_FB_has_14 : decode b_FB_has 14 = .ok (.aload_n 0, 1) := by decide +kernel
theorem d_FB_has_15 : decode b_FB_has 15 = .ok (.getfield 9, 3) := by decide +kernel
theorem d_FB_has_18 : decode b_FB_has 18 = .ok (.iload_n 1, 1) := by decide +kernel
theorem d_FB_has_19 : decode b_FB_has 19 = .ok (.bipush 8, 2) := by decide +kernel
theorem d_FB_has_21 : decode b_FB_has 21 = .ok (.imul, 1) := by decide +kernel
theorem d_FB_has_22 : decode b_FB_has 22 = .ok (.iload 4, 2) := by decide +kernel
theorem d_FB_has_24 : decode b_FB_has 24 = .ok (.iadd, 1) := by decide +kernel
theorem d_FB_has_25 : decode b_FB_has 25 = .ok (.laload, 1) := by decide +kernel
theorem d_FB_has_26 : decode b_FB_has 26 = .ok (.lload_n 2, 1) := by decide +kernel
theorem d_FB_has_27 : decode b_FB_has 27 = .ok (.lcmp, 1) := by decide +kernel
theorem d_FB_has_28 : decode b_FB_has 28 = .ok (.ifCond .ne 5, 3) := by decide +kernel
theorem d_FB_has_31 : decode b_FB_has 31 = .ok (.iconst 1, 1) := by decide +kernel
theorem d_FB_has_32 : decode b_FB_has 32 = .ok (.ireturn, 1) := by decide +kernel
theorem d_FB_has_33 : decode b_FB_has 33 = .ok (.iinc 4 1, 3) := by decide +kernel
theorem d_FB_has_36 : decode b_FB_has 36 = .ok (.goto (-33), 3) := by decide +kernel
theorem d_FB_has_39 : decode b_FB_has 39 = .ok (.iconst 0, 1) := by decide +kernel
theorem d_FB_has_40 : decode b_FB_has 40 = .ok (.ireturn, 1) := by decide +kernel
theorem d_FB_add_0 : decode b_FB_add 0 = .ok (.aload_n 0, 1) := by decide +kernel
theorem d_FB_add_1 : decode b_FB_add 1 = .ok (.iload_n 1, 1) := by decide +kernel
theorem d_FB_add_2 : decode b_FB_add 2 = .ok (.lload_n 2, 1) := by decide +kernel
theorem d_FB_add_3 : decode b_FB_add 3 = .ok (.invokevirtual 19, 3) := by decide +kernel
theorem d_FB_add_6 : decode b_FB_add 6 = .ok (.ifCond .eq 10, 3) := by decide +kernel
theorem d_FB_add_9 : decode b_FB_add 9 = .ok (.aload_n 0, 1) := by decide +kernel
theorem d_FB_add_10 : decode b_FB_add 10 = .ok (.getfield 15, 3) := by decide +kernel
theorem d_FB_add_13 : decode b_FB_add 13 = .ok (.iload_n 1, 1) := by decide +kernel
theorem d_FB_add_14 : decode b_FB_add 14 = .ok (.iaload, 1) := by decide +kernel
theorem d_FB_add_15 : decode b_FB_add 15 = .ok (.ireturn, 1) := by decide +kernel
theorem d_FB_add_16 : decode b_FB_add 16 = .ok (.aload_n 0, 1) := by decide +kernel
theorem d_FB_add_17 : decode b_FB_add 17 = .ok (.getfield 15, 3) := by decide +kernel
theorem d_FB_add_20 : decode b_FB_add 20 = .ok (.iload_n 1, 1) := by decide +kernel
theorem d_FB_add_21 : decode b_FB_add 21 = .ok (.iaload, 1) := by decide +kernel
theorem d_FB_add_22 : decode b_FB_add 22 = .ok (.bipush 8, 2) := by decide +kernel
theorem d_FB_add_24 : decode b_FB_add 24 = .ok (.if_icmp .lt 6, 3) := by decide +kernel
theorem d_FB_add_27 : decode b_FB_add 27 = .ok (.bipush (-4), 2) := by decide +kernel
theorem d_FB_add_29 : decode b_FB_add 29 = .ok (.ireturn, 1) := by decide +kernel
theorem d_FB_add_30 : decode b_FB_add 30 = .ok (.aload_n 0, 1) := by decide +kernel
theorem d_FB_add_31 : decode b_FB_add 31 = .ok (.getfield 9, 3) := by decide +kernel
theorem d_FB_add_34 : decode b_FB_add 34 = .ok (.iload_n 1, 1) := by decide +kernel
theorem d_FB_add_35 : decode b_FB_add 35 = .ok (.bipush 8, 2) := by decide +kernel
theorem d_FB_add_37 : decode b_FB_add 37 = .ok (.imul, 1) := by decide +kernel
theorem d_FB_add_38 : decode b_FB_add 38 = .ok (.aload_n 0, 1) := by decide +kernel
theorem d_FB_add_39 : decode b_FB_add 39 = .ok (.getfield 15, 3) := by decide +kernel
theorem d_FB_add_42 : decode b_FB_add 42 = .ok (.iload_n 1, 1) := by decide +kernel
theorem d_FB_add_43 : decode b_FB_add 43 = .ok (.iaload, 1) := by decide +kernel
theorem d_FB_add_44 : decode b_FB_add 44 = .ok (.iadd, 1) := by decide +kernel
theorem d_FB_add_45 : decode b_FB_add 45 = .ok (.lload_n 2, 1) := by decide +kernel
theorem d_FB_add_46 : decode b_FB_add 46 = .ok (.lastore, 1) := by decide +kernel
theorem d_FB_add_47 : decode b_FB_add 47 = .ok (.aload_n 0, 1) := by decide +kernel
theorem d_FB_add_48 : decode b_FB_add 48 = .ok (.getfield 15, 3) := by decide +kernel
theorem d_FB_add_51 : decode b_FB_add 51 = .ok (.iload_n 1, 1) := by decide +kernel
theorem d_FB_add_52 : decode b_FB_add 52 = .ok (.dup2, 1) := by decide +kernel
theorem d_FB_add_53 : decode b_FB_add 53 = .ok (.iaload, 1) := by decide +kernel
theorem d_FB_add_54 : decode b_FB_add 54 = .ok (.iconst 1, 1) := by decide +kernel
theorem d_FB_add_55 : decode b_FB_add 55 = .ok (.iadd, 1) := by decide +kernel
theorem d_FB_add_56 : decode b_FB_add 56 = .ok (.iastore, 1) := by decide +kernel
theorem d_FB_add_57 : decode b_FB_add 57 = .ok (.aload_n 0, 1) := by decide +kernel
theorem d_FB_add_58 : decode b_FB_add 58 = .ok (.getfield 15, 3) := by decide +kernel
theorem d_FB_add_61 : decode b_FB_add 61 = .ok (.iload_n 1, 1) := by decide +kernel
theorem d_FB_add_62 : decode b_FB_add 62 = .ok (.iaload, 1) := by decide +kernel
theorem d_FB_add_63 : decode b_FB_add 63 = .ok (.ireturn, 1) := by decide +kernel
theorem d_SR_isWithin_0 : decode b_SR_isWithin 0 = .ok (.lload_n 0, 1) := by decide +kernel
theorem d_SR_isWithin_1 : decode b_SR_isWithin 1 = .ok (.lload_n 2, 1) := by decide +kernel
theorem d_SR_isWithin_2 : decode b_SR_isWithin 2 = .ok (.lcmp, 1) := by decide +kernel
theorem d_SR_isWithin_3 : decode b_SR_isWithin 3 = .ok (.ifCond .lt 14, 3) := by decide +kernel
theorem d_SR_isWithin_6 : decode b_SR_isWithin 6 = .ok (.lload_n 0, 1) := by decide +kernel
theorem d_SR_isWithin_7 : decode b_SR_isWithin 7 = .ok (.lload 4, 2) := by decide +kernel
theorem d_SR_isWithin_9 : decode b_SR_isWithin 9 = .ok (.lcmp, 1) := by decide +kernel
theorem d_SR_isWithin_10 : decode b_SR_isWithin 10 = .ok (.ifCond .gt 7, 3) := by decide +kernel
theorem d_SR_isWithin_13 : decode b_SR_isWithin 13 = .ok (.iconst 1, 1) := by decide +kernel
theorem d_SR_isWithin_14 : decode b_SR_isWithin 14 = .ok (.goto 4, 3) := by decide +kernel
theorem d_SR_isWithin_17 : decode b_SR_isWithin 17 = .ok (.iconst 0, 1) := by decide +kernel
theorem d_SR_isWithin_18 : decode b_SR_isWithin 18 = .ok (.ireturn, 1) := by decide +kernel
theorem d_SR_offset_0 : decode b_SR_offset 0 = .ok (.lload_n 1, 1) := by decide +kernel
theorem d_SR_offset_1 : decode b_SR_offset 1 = .ok (.ldc2_w 91, 3) := by decide +kernel
theorem d_SR_offset_4 : decode b_SR_offset 4 = .ok (.ldc2_w 93, 3) := by decide +kernel
theorem d_SR_offset_7 : decode b_SR_offset 7 = .ok (.invokestatic 95, 3) := by decide +kernel
theorem d_SR_offset_10 : decode b_SR_offset 10 = .ok (.ifCond .ne 6, 3) := by decide +kernel
theorem d_SR_offset_13 : decode b_SR_offset 13 = .ok (.bipush (-2), 2) := by decide +kernel
theorem d_SR_offset_15 : decode b_SR_offset 15 = .ok (.ireturn, 1) := by decide +kernel
theorem d_SR_offset_16 : decode b_SR_offset 16 = .ok (.aload_n 0, 1) := by decide +kernel
theorem d_SR_offset_17 : decode b_SR_offset 17 = .ok (.getfield 71, 3) := by decide +kernel
theorem d_SR_offset_20 : decode b_SR_offset 20 = .ok (.ifCond .le 6, 3) := by decide +kernel
theorem d_SR_offset_23 : decode b_SR_offset 23 = .ok (.bipush (-3), 2) := by decide +kernel
theorem d_SR_offset_25 : decode b_SR_offset 25 = .ok (.ireturn, 1) := by decide +kernel
theorem d_SR_offset_26 : decode b_SR_offset 26 = .ok (.aload_n 0, 1) := by decide +kernel
theorem d_SR_offset_27 : decode b_SR_offset 27 = .ok (.getfield 87, 3) := by decide +kernel
theorem d_SR_offset_30 : decode b_SR_offset 30 = .ok (.lload_n 1, 1) := by decide +kernel
theorem d_SR_offset_31 : decode b_SR_offset 31 = .ok (.putfield 99, 3) := by decide +kernel
theorem d_SR_offset_34 : decode b_SR_offset 34 = .ok (.iconst 1, 1) := by decide +kernel
theorem d_SR_offset_35 : decode b_SR_offset 35 = .ok (.ireturn, 1) := by decide +kernel
theorem d_SR_lateness_0 : decode b_SR_lateness 0 = .ok (.lload_n 1, 1) := by decide +kernel
theorem d_SR_lateness_1 : decode b_SR_lateness 1 = .ok (.lconst 0, 1) := by decide +kernel
theorem d_SR_lateness_2 : decode b_SR_lateness 2 = .ok (.ldc2_w 93, 3) := by decide +kernel
theorem d_SR_lateness_5 : decode b_SR_lateness 5 = .ok (.invokestatic 95, 3) := by decide +kernel
theorem d_SR_lateness_8 : decode b_SR_lateness 8 = .ok (.ifCond .ne 6, 3) := by decide +kernel
theorem d_SR_lateness_11 : decode b_SR_lateness 11 = .ok (.bipush (-2), 2) := by decide +kernel
theorem d_SR_lateness_13 : decode b_SR_lateness 13 = .ok (.ireturn, 1) := by decide +kernel
theorem d_SR_lateness_14 : decode b_SR_lateness 14 = .ok (.aload_n 0, 1) := by decide +kernel
theorem d_SR_lateness_15 : decode b_SR_lateness 15 = .ok (.getfield 71, 3) := by decide +kernel
theorem d_SR_lateness_18 : decode b_SR_lateness 18 = .ok (.ifCond .gt 14, 3) := by decide +kernel
theorem d_SR_lateness_21 : decode b_SR_lateness 21 = .ok (.aload_n 0, 1) := by decide +kernel
theorem d_SR_lateness_22 : decode b_SR_lateness 22 = .ok (.getfield 87, 3) := by decide +kernel
theorem d_SR_lateness_25 : decode b_SR_lateness 25 = .ok (.getfield 102, 3) := by decide +kernel
theorem d_SR_lateness_28 : decode b_SR_lateness 28 = .ok (.iconst 3, 1) := by decide +kernel
theorem d_SR_lateness_29 : decode b_SR_lateness 29 = .ok (.if_icmp .ne 6, 3) := by decide +kernel
theorem d_SR_lateness_32 : decode b_SR_lateness 32 = .ok (.bipush (-3), 2) := by decide +kernel
theorem d_SR_lateness_34 : decode b_SR_lateness 34 = .ok (.ireturn, 1) := by decide +kernel
theorem d_SR_lateness_35 : decode b_SR_lateness 35 = .ok (.aload_n 0, 1) := by decide +kernel
theorem d_SR_lateness_36 : decode b_SR_lateness 36 = .ok (.lload_n 1, 1) := by decide +kernel
theorem d_SR_lateness_37 : decode b_SR_lateness 37 = .ok (.putfield 51, 3) := by decide +kernel
theorem d_SR_lateness_40 : decode b_SR_lateness 40 = .ok (.iconst 1, 1) := by decide +kernel
theorem d_SR_lateness_41 : decode b_SR_lateness 41 = .ok (.ireturn, 1) := by decide +kernel
theorem d_SR_trigger_0 : decode b_SR_trigger 0 = .ok (.iload_n 1, 1) := by decide +kernel
theorem d_SR_trigger_1 : decode b_SR_trigger 1 = .ok (.i2l, 1) := by decide +kernel
theorem d_SR_trigger_2 : decode b_SR_trigger 2 = .ok (.lconst 0, 1) := by decide +kernel
theorem d_SR_trigger_3 : decode b_SR_trigger 3 = .ok (.ldc2_w 105, 3) := by decide +kernel
theorem d_SR_trigger_6 : decode b_SR_trigger 6 = .ok (.invokestatic 95, 3) := by decide +kernel
theorem d_SR_trigger_9 : decode b_SR_trigger 9 = .ok (.ifCond .ne 6, 3) := by decide +kernel
theorem d_SR_trigger_12 : decode b_SR_trigger 12 = .ok (.bipush (-2), 2) := by decide +kernel
theorem d_SR_trigger_14 : decode b_SR_trigger 14 = .ok (.ireturn, 1) := by decide +kernel
theorem d_SR_trigger_15 : decode b_SR_trigger 15 = .ok (.aload_n 0, 1) := by decide +kernel
theorem d_SR_trigger_16 : decode b_SR_trigger 16 = .ok (.getfield 87, 3) := by decide +kernel
theorem d_SR_trigger_19 : decode b_SR_trigger 19 = .ok (.getfield 102, 3) := by decide +kernel
theorem d_SR_trigger_22 : decode b_SR_trigger 22 = .ok (.iconst 3, 1) := by decide +kernel
theorem d_SR_trigger_23 : decode b_SR_trigger 23 = .ok (.if_icmp .ne 6, 3) := by decide +kernel
theorem d_SR_trigger_26 : decode b_SR_trigger 26 = .ok (.bipush (-3), 2) := by decide +kernel
theorem d_SR_trigger_28 : decode b_SR_trigger 28 = .ok (.ireturn, 1) := by decide +kernel
theorem d_SR_trigger_29 : decode b_SR_trigger 29 = .ok (.aload_n 0, 1) := by decide +kernel
theorem d_SR_trigger_30 : decode b_SR_trigger 30 = .ok (.iload_n 1, 1) := by decide +kernel
theorem d_SR_trigger_31 : decode b_SR_trigger 31 = .ok (.putfield 60, 3) := by decide +kernel
theorem d_SR_trigger_34 : decode b_SR_trigger 34 = .ok (.aload_n 0, 1) := by decide +kernel
theorem d_SR_trigger_35 : decode b_SR_trigger 35 = .ok (.iload_n 2, 1) := by decide +kernel
theorem d_SR_trigger_36 : decode b_SR_trigger 36 = .ok (.putfield 64, 3) := by decide +kernel
theorem d_SR_trigger_39 : decode b_SR_trigger 39 = .ok (.iconst 1, 1) := by decide +kernel
theorem d_SR_trigger_40 : decode b_SR_trigger 40 = .ok (.ireturn, 1) := by decide +kernel
theorem d_SR_clears_0 : decode b_SR_clears 0 = .ok (.aload_n 0, 1) := by decide +kernel
theorem d_SR_clears_1 : decode b_SR_clears 1 = .ok (.getfield 87, 3) := by decide +kernel
theorem d_SR_clears_4 : decode b_SR_clears 4 = .ok (.getfield 102, 3) := by decide +kernel
theorem d_SR_clears_7 : decode b_SR_clears 7 = .ok (.iconst 3, 1) := by decide +kernel
theorem d_SR_clears_8 : decode b_SR_clears 8 = .ok (.if_icmp .ne 6, 3) := by decide +kernel
theorem d_SR_clears_11 : decode b_SR_clears 11 = .ok (.bipush (-3), 2) := by decide +kernel
theorem d_SR_clears_13 : decode b_SR_clears 13 = .ok (.ireturn, 1) := by decide +kernel
theorem d_SR_clears_14 : decode b_SR_clears 14 = .ok (.aload_n 0, 1) := by decide +kernel
theorem d_SR_clears_15 : decode b_SR_clears 15 = .ok (.getfield 68, 3) := by decide +kernel
theorem d_SR_clears_18 : decode b_SR_clears 18 = .ok (.iload_n 1, 1) := by decide +kernel
theorem d_SR_clears_19 : decode b_SR_clears 19 = .ok (.if_icmp .ne 5, 3) := by decide +kernel
theorem d_SR_clears_22 : decode b_SR_clears 22 = .ok (.iconst 0, 1) := by decide +kernel
theorem d_SR_clears_23 : decode b_SR_clears 23 = .ok (.ireturn, 1) := by decide +kernel
theorem d_SR_clears_24 : decode b_SR_clears 24 = .ok (.aload_n 0, 1) := by decide +kernel
theorem d_SR_clears_25 : decode b_SR_clears 25 = .ok (.iload_n 1, 1) := by decide +kernel
theorem d_SR_clears_26 : decode b_SR_clears 26 = .ok (.putfield 68, 3) := by decide +kernel
theorem d_SR_clears_29 : decode b_SR_clears 29 = .ok (.iconst 1, 1) := by decide +kernel
theorem d_SR_clears_30 : decode b_SR_clears 30 = .ok (.ireturn, 1) := by decide +kernel
theorem d_SR_rule_0 : decode b_SR_rule 0 = .ok (.iload_n 1, 1) := by decide +kernel
theorem d_SR_rule_1 : decode b_SR_rule 1 = .ok (.i2l, 1) := by decide +kernel
theorem d_SR_rule_2 : decode b_SR_rule 2 = .ok (.lconst 0, 1) := by decide +kernel
theorem d_SR_rule_3 : decode b_SR_rule 3 = .ok (.ldc2_w 107, 3) := by decide +kernel
theorem d_SR_rule_6 : decode b_SR_rule 6 = .ok (.invokestatic 95, 3) := by decide +kernel
theorem d_SR_rule_9 : decode b_SR_rule 9 = .ok (.ifCond .ne 6, 3) := by decide +kernel
theorem d_SR_rule_12 : decode b_SR_rule 12 = .ok (.bipush (-2), 2) := by decide +kernel
theorem d_SR_rule_14 : decode b_SR_rule 14 = .ok (.ireturn, 1) := by decide +kernel
theorem d_SR_rule_15 : decode b_SR_rule 15 = .ok (.aload_n 0, 1) := by decide +kernel
theorem d_SR_rule_16 : decode b_SR_rule 16 = .ok (.getfield 87, 3) := by decide +kernel
theorem d_SR_rule_19 : decode b_SR_rule 19 = .ok (.getfield 102, 3) := by decide +kernel
theorem d_SR_rule_22 : decode b_SR_rule 22 = .ok (.iconst 5, 1) := by decide +kernel
theorem d_SR_rule_23 : decode b_SR_rule 23 = .ok (.if_icmp .eq 6, 3) := by decide +kernel
theorem d_SR_rule_26 : decode b_SR_rule 26 = .ok (.bipush (-3), 2) := by decide +kernel
theorem d_SR_rule_28 : decode b_SR_rule 28 = .ok (.ireturn, 1) := by decide +kernel
theorem d_SR_rule_29 : decode b_SR_rule 29 = .ok (.aload_n 0, 1) := by decide +kernel
theorem d_SR_rule_30 : decode b_SR_rule 30 = .ok (.getfield 87, 3) := by decide +kernel
theorem d_SR_rule_33 : decode b_SR_rule 33 = .ok (.getfield 109, 3) := by decide +kernel
theorem d_SR_rule_36 : decode b_SR_rule 36 = .ok (.istore_n 2, 1) := by decide +kernel
theorem d_SR_rule_37 : decode b_SR_rule 37 = .ok (.aload_n 0, 1) := by decide +kernel
theorem d_SR_rule_38 : decode b_SR_rule 38 = .ok (.getfield 87, 3) := by decide +kernel
theorem d_SR_rule_41 : decode b_SR_rule 41 = .ok (.iload_n 1, 1) := by decide +kernel
theorem d_SR_rule_42 : decode b_SR_rule 42 = .ok (.putfield 109, 3) := by decide +kernel
theorem d_SR_rule_45 : decode b_SR_rule 45 = .ok (.iload_n 2, 1) := by decide +kernel
theorem d_SR_rule_46 : decode b_SR_rule 46 = .ok (.ireturn, 1) := by decide +kernel
theorem d_SR_forbid_0 : decode b_SR_forbid 0 = .ok (.iload_n 1, 1) := by decide +kernel
theorem d_SR_forbid_1 : decode b_SR_forbid 1 = .ok (.i2l, 1) := by decide +kernel
theorem d_SR_forbid_2 : decode b_SR_forbid 2 = .ok (.lconst 0, 1) := by decide +kernel
theorem d_SR_forbid_3 : decode b_SR_forbid 3 = .ok (.ldc2_w 107, 3) := by decide +kernel
theorem d_SR_forbid_6 : decode b_SR_forbid 6 = .ok (.invokestatic 95, 3) := by decide +kernel
theorem d_SR_forbid_9 : decode b_SR_forbid 9 = .ok (.ifCond .ne 6, 3) := by decide +kernel
theorem d_SR_forbid_12 : decode b_SR_forbid 12 = .ok (.bipush (-2), 2) := by decide +kernel
theorem d_SR_forbid_14 : decode b_SR_forbid 14 = .ok (.ireturn, 1) := by decide +kernel
theorem d_SR_forbid_15 : decode b_SR_forbid 15 = .ok (.aload_n 0, 1) := by decide +kernel
theorem d_SR_forbid_16 : decode b_SR_forbid 16 = .ok (.getfield 87, 3) := by decide +kernel
theorem d_SR_forbid_19 : decode b_SR_forbid 19 = .ok (.getfield 102, 3) := by decide +kernel
theorem d_SR_forbid_22 : decode b_SR_forbid 22 = .ok (.iconst 5, 1) := by decide +kernel
theorem d_SR_forbid_23 : decode b_SR_forbid 23 = .ok (.if_icmp .eq 6, 3) := by decide +kernel
theorem d_SR_forbid_26 : decode b_SR_forbid 26 = .ok (.bipush (-3), 2) := by decide +kernel
theorem d_SR_forbid_28 : decode b_SR_forbid 28 = .ok (.ireturn, 1) := by decide +kernel
theorem d_SR_forbid_29 : decode b_SR_forbid 29 = .ok (.aload_n 0, 1) := by decide +kernel
theorem d_SR_forbid_30 : decode b_SR_forbid 30 = .ok (.getfield 10, 3) := by decide +kernel
theorem d_SR_forbid_33 : decode b_SR_forbid 33 = .ok (.iload_n 1, 1) := by decide +kernel
theorem d_SR_forbid_34 : decode b_SR_forbid 34 = .ok (.lload_n 2, 1) := by decide +kernel
theorem d_SR_forbid_35 : decode b_SR_forbid 35 = .ok (.invokevirtual 112, 3) := by decide +kernel
theorem d_SR_forbid_38 : decode b_SR_forbid 38 = .ok (.ireturn, 1) := by decide +kernel
theorem d_SR_isKey_0 : decode b_SR_isKey 0 = .ok (.iload_n 0, 1) := by decide +kernel
theorem d_SR_isKey_1 : decode b_SR_isKey 1 = .ok (.i2l, 1) := by decide +kernel
theorem d_SR_isKey_2 : decode b_SR_isKey 2 = .ok (.lconst 0, 1) := by decide +kernel
theorem d_SR_isKey_3 : decode b_SR_isKey 3 = .ok (.ldc2_w 226, 3) := by decide +kernel
theorem d_SR_isKey_6 : decode b_SR_isKey 6 = .ok (.invokestatic 95, 3) := by decide +kernel
theorem d_SR_isKey_9 : decode b_SR_isKey 9 = .ok (.ireturn, 1) := by decide +kernel
theorem d_SR_dropLate_0 : decode b_SR_dropLate 0 = .ok (.aload_n 0, 1) := by decide +kernel
theorem d_SR_dropLate_1 : decode b_SR_dropLate 1 = .ok (.dup, 1) := by decide +kernel
theorem d_SR_dropLate_2 : decode b_SR_dropLate 2 = .ok (.getfield 71, 3) := by decide +kernel
theorem d_SR_dropLate_5 : decode b_SR_dropLate 5 = .ok (.iconst 1, 1) := by decide +kernel
theorem d_SR_dropLate_6 : decode b_SR_dropLate 6 = .ok (.iadd, 1) := by decide +kernel
theorem d_SR_dropLate_7 : decode b_SR_dropLate 7 = .ok (.putfield 71, 3) := by decide +kernel
theorem d_SR_dropLate_10 : decode b_SR_dropLate 10 = .ok (.aload_n 0, 1) := by decide +kernel
theorem d_SR_dropLate_11 : decode b_SR_dropLate 11 = .ok (.dup, 1) := by decide +kernel
theorem d_SR_dropLate_12 : decode b_SR_dropLate 12 = .ok (.getfield 74, 3) := by decide +kernel
theorem d_SR_dropLate_15 : decode b_SR_dropLate 15 = .ok (.iconst 1, 1) := by decide +kernel
theorem d_SR_dropLate_16 : decode b_SR_dropLate 16 = .ok (.iadd, 1) := by decide +kernel
theorem d_SR_dropLate_17 : decode b_SR_dropLate 17 = .ok (.putfield 74, 3) := by decide +kernel
theorem d_SR_dropLate_20 : decode b_SR_dropLate 20 = .ok (.iconst 0, 1) := by decide +kernel
theorem d_SR_dropLate_21 : decode b_SR_dropLate 21 = .ok (.ireturn, 1) := by decide +kernel
theorem d_RS_isFull_0 : decode b_RS_isFull 0 = .ok (.aload_n 0, 1) := by decide +kernel
theorem d_RS_isFull_1 : decode b_RS_isFull 1 = .ok (.getfield 32, 3) := by decide +kernel
theorem d_RS_isFull_4 : decode b_RS_isFull 4 = .ok (.sipush 300, 3) := by decide +kernel
theorem d_RS_isFull_7 : decode b_RS_isFull 7 = .ok (.if_icmp .lt 7, 3) := by decide +kernel
theorem d_RS_isFull_10 : decode b_RS_isFull 10 = .ok (.iconst 1, 1) := by decide +kernel
theorem d_RS_isFull_11 : decode b_RS_isFull 11 = .ok (.goto 4, 3) := by decide +kernel
theorem d_RS_isFull_14 : decode b_RS_isFull 14 = .ok (.iconst 0, 1) := by decide +kernel
theorem d_RS_isFull_15 : decode b_RS_isFull 15 = .ok (.ireturn, 1) := by decide +kernel
theorem d_RS_add_0 : decode b_RS_add 0 = .ok (.aload_n 0, 1) := by decide +kernel
theorem d_RS_add_1 : decode b_RS_add 1 = .ok (.getfield 29, 3) := by decide +kernel
theorem d_RS_add_4 : decode b_RS_add 4 = .ok (.aload_n 0, 1) := by decide +kernel
theorem d_RS_add_5 : decode b_RS_add 5 = .ok (.getfield 32, 3) := by decide +kernel
theorem d_RS_add_8 : decode b_RS_add 8 = .ok (.iaload, 1) := by decide +kernel
theorem d_RS_add_9 : decode b_RS_add 9 = .ok (.istore 6, 2) := by decide +kernel
theorem d_RS_add_11 : decode b_RS_add 11 = .ok (.aload_n 0, 1) := by decide +kernel
theorem d_RS_add_12 : decode b_RS_add 12 = .ok (.getfield 9, 3) := by decide +kernel
theorem d_RS_add_15 : decode b_RS_add 15 = .ok (.iload 6, 2) := by decide +kernel
theorem d_RS_add_17 : decode b_RS_add 17 = .ok (.iload_n 1, 1) := by decide +kernel
theorem d_RS_add_18 : decode b_RS_add 18 = .ok (.iastore, 1) := by decide +kernel
theorem d_RS_add_19 : decode b_RS_add 19 = .ok (.aload_n 0, 1) := by decide +kernel
theorem d_RS_add_20 : decode b_RS_add 20 = .ok (.getfield 15, 3) := by decide +kernel
theorem d_RS_add_23 : decode b_RS_add 23 = .ok (.iload 6, 2) := by decide +kernel
theorem d_RS_add_25 : decode b_RS_add 25 = .ok (.lload_n 2, 1) := by decide +kernel
theorem d_RS_add_26 : decode b_RS_add 26 = .ok (.lastore, 1) := by decide +kernel
theorem d_RS_add_27 : decode b_RS_add 27 = .ok (.aload_n 0, 1) := by decide +kernel
theorem d_RS_add_28 : decode b_RS_add 28 = .ok (.getfield 19, 3) := by decide +kernel
theorem d_RS_add_31 : decode b_RS_add 31 = .ok (.iload 6, 2) := by decide +kernel
theorem d_RS_add_33 : decode b_RS_add 33 = .ok (.lload 4, 2) := by decide +kernel
theorem d_RS_add_35 : decode b_RS_add 35 = .ok (.lastore, 1) := by decide +kernel
theorem d_RS_add_36 : decode b_RS_add 36 = .ok (.aload_n 0, 1) := by decide +kernel
theorem d_RS_add_37 : decode b_RS_add 37 = .ok (.getfield 22, 3) := by decide +kernel
theorem d_RS_add_40 : decode b_RS_add 40 = .ok (.iload 6, 2) := by decide +kernel
theorem d_RS_add_42 : decode b_RS_add 42 = .ok (.iconst (-1), 1) := by decide +kernel
theorem d_RS_add_43 : decode b_RS_add 43 = .ok (.iastore, 1) := by decide +kernel
theorem d_RS_add_44 : decode b_RS_add 44 = .ok (.aload_n 0, 1) := by decide +kernel
theorem d_RS_add_45 : decode b_RS_add 45 = .ok (.getfield 32, 3) := by decide +kernel
theorem d_RS_add_48 : decode b_RS_add 48 = .ok (.istore 7, 2) := by decide +kernel
theorem d_RS_add_50 : decode b_RS_add 50 = .ok (.iload 7, 2) := by decide +kernel
theorem d_RS_add_52 : decode b_RS_add 52 = .ok (.ifCond .le 44, 3) := by decide +kernel
theorem d_RS_add_55 : decode b_RS_add 55 = .ok (.aload_n 0, 1) := by decide +kernel
theorem d_RS_add_56 : decode b_RS_add 56 = .ok (.getfield 15, 3) := by decide +kernel
theorem d_RS_add_59 : decode b_RS_add 59 = .ok (.aload_n 0, 1) := by decide +kernel
theorem d_RS_add_60 : decode b_RS_add 60 = .ok (.getfield 29, 3) := by decide +kernel
theorem d_RS_add_63 : decode b_RS_add 63 = .ok (.iload 7, 2) := by decide +kernel
theorem d_RS_add_65 : decode b_RS_add 65 = .ok (.iconst 1, 1) := by decide +kernel
theorem d_RS_add_66 : decode b_RS_add 66 = .ok (.isub, 1) := by decide +kernel
theorem d_RS_add_67 : decode b_RS_add 67 = .ok (.iaload, 1) := by decide +kernel
theorem d_RS_add_68 : decode b_RS_add 68 = .ok (.laload, 1) := by decide +kernel
theorem d_RS_add_69 : decode b_RS_add 69 = .ok (.lload_n 2, 1) := by decide +kernel
theorem d_RS_add_70 : decode b_RS_add 70 = .ok (.lcmp, 1) := by decide +kernel
theorem d_RS_add_71 : decode b_RS_add 71 = .ok (.ifCond .le 25, 3) := by decide +kernel
theorem d_RS_add_74 : decode b_RS_add 74 = .ok (.aload_n 0, 1) := by decide +kernel
theorem d_RS_add_75 : decode b_RS_add 75 = .ok (.getfield 29, 3) := by decide +kernel
theorem d_RS_add_78 : decode b_RS_add 78 = .ok (.iload 7, 2) := by decide +kernel
theorem d_RS_add_80 : decode b_RS_add 80 = .ok (.aload_n 0, 1) := by decide +kernel
theorem d_RS_add_81 : decode b_RS_add 81 = .ok (.getfield 29, 3) := by decide +kernel
theorem d_RS_add_84 : decode b_RS_add 84 = .ok (.iload 7, 2) := by decide +kernel
theorem d_RS_add_86 : decode b_RS_add 86 = .ok (.iconst 1, 1) := by decide +kernel
theorem d_RS_add_87 : decode b_RS_add 87 = .ok (.isub, 1) := by decide +kernel
theorem d_RS_add_88 : decode b_RS_add 88 = .ok (.iaload, 1) := by decide +kernel
theorem d_RS_add_89 : decode b_RS_add 89 = .ok (.iastore, 1) := by decide +kernel
theorem d_RS_add_90 : decode b_RS_add 90 = .ok (.iinc 7 (-1), 3) := by decide +kernel
theorem d_RS_add_93 : decode b_RS_add 93 = .ok (.goto (-43), 3) := by decide +kernel
theorem d_RS_add_96 : decode b_RS_add 96 = .ok (.aload_n 0, 1) := by decide +kernel
theorem d_RS_add_97 : decode b_RS_add 97 = .ok (.getfield 29, 3) := by decide +kernel
theorem d_RS_add_100 : decode b_RS_add 100 = .ok (.iload 7, 2) := by decide +kernel
theorem d_RS_add_102 : decode b_RS_add 102 = .ok (.iload 6, 2) := by decide +kernel
theorem d_RS_add_104 : decode b_RS_add 104 = .ok (.iastore, 1) := by decide +kernel
theorem d_RS_add_105 : decode b_RS_add 105 = .ok (.aload_n 0, 1) := by decide +kernel
theorem d_RS_add_106 : decode b_RS_add 106 = .ok (.dup, 1) := by decide +kernel
theorem d_RS_add_107 : decode b_RS_add 107 = .ok (.getfield 32, 3) := by decide +kernel
theorem d_RS_add_110 : decode b_RS_add 110 = .ok (.iconst 1, 1) := by decide +kernel
theorem d_RS_add_111 : decode b_RS_add 111 = .ok (.iadd, 1) := by decide +kernel
theorem d_RS_add_112 : decode b_RS_add 112 = .ok (.putfield 32, 3) := by decide +kernel
theorem d_RS_add_115 : decode b_RS_add 115 = .ok (.iload 6, 2) := by decide +kernel
theorem d_RS_add_117 : decode b_RS_add 117 = .ok (.ireturn, 1) := by decide +kernel
theorem d_SR_putWaiting_0 : decode b_SR_putWaiting 0 = .ok (.lload_n 2, 1) := by decide +kernel
theorem d_SR_putWaiting_1 : decode b_SR_putWaiting 1 = .ok (.aload_n 0, 1) := by decide +kernel
theorem d_SR_putWaiting_2 : decode b_SR_putWaiting 2 = .ok (.getfield 57, 3) := by decide +kernel
theorem d_SR_putWaiting_5 : decode b_SR_putWaiting 5 = .ok (.lcmp, 1) := by decide +kernel
theorem d_SR_putWaiting_6 : decode b_SR_putWaiting 6 = .ok (.ifCond .ge 8, 3) := by decide +kernel
theorem d_SR_putWaiting_9 : decode b_SR_putWaiting 9 = .ok (.aload_n 0, 1) := by decide +kernel
theorem d_SR_putWaiting_10 : decode b_SR_putWaiting 10 = .ok (.invokevirtual 234, 3) := by decide +kernel
theorem d_SR_putWaiting_13 : decode b_SR_putWaiting 13 = .ok (.ireturn, 1) := by decide +kernel
theorem d_SR_putWaiting_14 : decode b_SR_putWaiting 14 = .ok (.aload_n 0, 1) := by decide +kernel
theorem d_SR_putWaiting_15 : decode b_SR_putWaiting 15 = .ok (.getfield 19, 3) := by decide +kernel
theorem d_SR_putWaiting_18 : decode b_SR_putWaiting 18 = .ok (.invokevirtual 237, 3) := by decide +kernel
theorem d_SR_putWaiting_21 : decode b_SR_putWaiting 21 = .ok (.ifCond .eq 6, 3) := by decide +kernel
theorem d_SR_putWaiting_24 : decode b_SR_putWaiting 24 = .ok (.bipush (-4), 2) := by decide +kernel
theorem d_SR_putWaiting_26 : decode b_SR_putWaiting 26 = .ok (.ireturn, 1) := by decide +kernel
theorem d_SR_putWaiting_27 : decode b_SR_putWaiting 27 = .ok (.aload_n 0, 1) := by decide +kernel
theorem d_SR_putWaiting_28 : decode b_SR_putWaiting 28 = .ok (.getfield 19, 3) := by decide +kernel
theorem d_SR_putWaiting_31 : decode b_SR_putWaiting 31 = .ok (.iload_n 1, 1) := by decide +kernel
theorem d_SR_putWaiting_32 : decode b_SR_putWaiting 32 = .ok (.lload_n 2, 1) := by decide +kernel
theorem d_SR_putWaiting_33 : decode b_SR_putWaiting 33 = .ok (.lload 4, 2) := by decide +kernel
theorem d_SR_putWaiting_35 : decode b_SR_putWaiting 35 = .ok (.invokevirtual 241, 3) := by decide +kernel
theorem d_SR_putWaiting_38 : decode b_SR_putWaiting 38 = .ok (.pop, 1) := by decide +kernel
theorem d_SR_putWaiting_39 : decode b_SR_putWaiting 39 = .ok (.aload_n 0, 1) := by decide +kernel
theorem d_SR_putWaiting_40 : decode b_SR_putWaiting 40 = .ok (.dup, 1) := by decide +kernel
theorem d_SR_putWaiting_41 : decode b_SR_putWaiting 41 = .ok (.getfield 71, 3) := by decide +kernel
theorem d_SR_putWaiting_44 : decode b_SR_putWaiting 44 = .ok (.iconst 1, 1) := by decide +kernel
theorem d_SR_putWaiting_45 : decode b_SR_putWaiting 45 = .ok (.iadd, 1) := by decide +kernel
theorem d_SR_putWaiting_46 : decode b_SR_putWaiting 46 = .ok (.putfield 71, 3) := by decide +kernel
theorem d_SR_putWaiting_49 : decode b_SR_putWaiting 49 = .ok (.iconst 1, 1) := by decide +kernel
theorem d_SR_putWaiting_50 : decode b_SR_putWaiting 50 = .ok (.ireturn, 1) := by decide +kernel
theorem d_SS_shares_0 : decode b_SS_shares 0 = .ok (.aload_n 0, 1) := by decide +kernel
theorem d_SS_shares_1 : decode b_SS_shares 1 = .ok (.getfield 9, 3) := by decide +kernel
theorem d_SS_shares_4 : decode b_SS_shares 4 = .ok (.iload_n 1, 1) := by decide +kernel
theorem d_SS_shares_5 : decode b_SS_shares 5 = .ok (.iaload, 1) := by decide +kernel
theorem d_SS_shares_6 : decode b_SS_shares 6 = .ok (.iload_n 2, 1) := by decide +kernel
theorem d_SS_shares_7 : decode b_SS_shares 7 = .ok (.if_icmp .ne 30, 3) := by decide +kernel
theorem d_SS_shares_10 : decode b_SS_shares 10 = .ok (.aload_n 0, 1) := by decide +kernel
theorem d_SS_shares_11 : decode b_SS_shares 11 = .ok (.getfield 15, 3) := by decide +kernel
theorem d_SS_shares_14 : decode b_SS_shares 14 = .ok (.iload_n 1, 1) := by decide +kernel
theorem d_SS_shares_15 : decode b_SS_shares 15 = .ok (.laload, 1) := by decide +kernel
theorem d_SS_shares_16 : decode b_SS_shares 16 = .ok (.lload 5, 2) := by decide +kernel
theorem d_SS_shares_18 : decode b_SS_shares 18 = .ok (.lcmp, 1) := by decide +kernel
theorem d_SS_shares_19 : decode b_SS_shares 19 = .ok (.ifCond .ge 18, 3) := by decide +kernel
theorem d_SS_shares_22 : decode b_SS_shares 22 = .ok (.lload_n 3, 1) := by decide +kernel
theorem d_SS_shares_23 : decode b_SS_shares 23 = .ok (.aload_n 0, 1) := by decide +kernel
theorem d_SS_shares_24 : decode b_SS_shares 24 = .ok (.getfield 19, 3) := by decide +kernel
theorem d_SS_shares_27 : decode b_SS_shares 27 = .ok (.iload_n 1, 1) := by decide +kernel
theorem d_SS_shares_28 : decode b_SS_shares 28 = .ok (.laload, 1) := by decide +kernel
theorem d_SS_shares_29 : decode b_SS_shares 29 = .ok (.lcmp, 1) := by decide +kernel
theorem d_SS_shares_30 : decode b_SS_shares 30 = .ok (.ifCond .ge 7, 3) := by decide +kernel
theorem d_SS_shares_33 : decode b_SS_shares 33 = .ok (.iconst 1, 1) := by decide +kernel
theorem d_SS_shares_34 : decode b_SS_shares 34 = .ok (.goto 4, 3) := by decide +kernel
theorem d_SS_shares_37 : decode b_SS_shares 37 = .ok (.iconst 0, 1) := by decide +kernel
theorem d_SS_shares_38 : decode b_SS_shares 38 = .ok (.ireturn, 1) := by decide +kernel
theorem d_SS_joinedEnd_0 : decode b_SS_joinedEnd 0 = .ok (.lload 4, 2) := by decide +kernel
theorem d_SS_joinedEnd_2 : decode b_SS_joinedEnd 2 = .ok (.lstore 6, 2) := by decide +kernel
theorem d_SS_joinedEnd_4 : decode b_SS_joinedEnd 4 = .ok (.iconst 0, 1) := by decide +kernel
theorem d_SS_joinedEnd_5 : decode b_SS_joinedEnd 5 = .ok (.istore 8, 2) := by decide +kernel
theorem d_SS_joinedEnd_7 : decode b_SS_joinedEnd 7 = .ok (.iload 8, 2) := by decide +kernel
theorem d_SS_joinedEnd_9 : decode b_SS_joinedEnd 9 = .ok (.aload_n 0, 1) := by decide +kernel
theorem d_SS_joinedEnd_10 : decode b_SS_joinedEnd 10 = .ok (.getfield 47, 3) := by decide +kernel
theorem d_SS_joinedEnd_13 : decode b_SS_joinedEnd 13 = .ok (.if_icmp .ge 45, 3) := by decide +kernel
theorem d_SS_joinedEnd_16 : decode b_SS_joinedEnd 16 = .ok (.aload_n 0, 1) := by decide +kernel
theorem d_SS_joinedEnd_17 : decode b_SS_joinedEnd 17 = .ok (.getfield 44, 3) := by decide +kernel
theorem d_SS_joinedEnd_20 : decode b_SS_joinedEnd 20 = .ok (.iload 8, 2) := by decide +kernel
theorem d_SS_joinedEnd_22 : decode b_SS_joinedEnd 22 = .ok (.iaload, 1) := by decide +kernel
theorem d_SS_joinedEnd_23 : decode b_SS_joinedEnd 23 = .ok (.istore 9, 2) := by decide +kernel
theorem d_SS_joinedEnd_25 : decode b_SS_joinedEnd 25 = .ok (.aload_n 0, 1) := by decide +kernel
theorem d_SS_joinedEnd_26 : decode b_SS_joinedEnd 26 = .ok (.iload 9, 2) := by decide +kernel
theorem d_SS_joinedEnd_28 : decode b_SS_joinedEnd 28 = .ok (.iload_n 1, 1) := by decide +kernel
theorem d_SS_joinedEnd_29 : decode b_SS_joinedEnd 29 = .ok (.lload_n 2, 1) := by decide +kernel
theorem d_SS_joinedEnd_30 : decode b_SS_joinedEnd 30 = .ok (.lload 4, 2) := by decide +kernel
theorem d_SS_joinedEnd_32 : decode b_SS_joinedEnd 32 = .ok (.invokevirtual 55, 3) := by decide +kernel
theorem d_SS_joinedEnd_35 : decode b_SS_joinedEnd 35 = .ok (.ifCond .eq 17, 3) := by decide +kernel
theorem d_SS_joinedEnd_38 : decode b_SS_joinedEnd 38 = .ok (.lload 6, 2) := by decide +kernel
theorem d_SS_joinedEnd_40 : decode b_SS_joinedEnd 40 = .ok (.aload_n 0, 1) := by decide +kernel
theorem d_SS_joinedEnd_41 : decode b_SS_joinedEnd 41 = .ok (.getfield 19, 3) := by decide +kernel
theorem d_SS_joinedEnd_44 : decode b_SS_joinedEnd 44 = .ok (.iload 9, 2) := by decide +kernel
theorem d_SS_joinedEnd_46 : decode b_SS_joinedEnd 46 = .ok (.laload, 1) := by decide +kernel
theorem d_SS_joinedEnd_47 : decode b_SS_joinedEnd 47 = .ok (.invokestatic 59, 3) := by decide +kernel
theorem d_SS_joinedEnd_50 : decode b_SS_joinedEnd 50 = .ok (.lstore 6, 2) := by decide +kernel
theorem d_SS_joinedEnd_52 : decode b_SS_joinedEnd 52 = .ok (.iinc 8 1, 3) := by decide +kernel
theorem d_SS_joinedEnd_55 : decode b_SS_joinedEnd 55 = .ok (.goto (-48), 3) := by decide +kernel
theorem d_SS_joinedEnd_58 : decode b_SS_joinedEnd 58 = .ok (.lload 6, 2) := by decide +kernel
theorem d_SS_joinedEnd_60 : decode b_SS_joinedEnd 60 = .ok (.lreturn, 1) := by decide +kernel
theorem d_SR_isGone_0 : decode b_SR_isGone 0 = .ok (.lload_n 1, 1) := by decide +kernel
theorem d_SR_isGone_1 : decode b_SR_isGone 1 = .ok (.aload_n 0, 1) := by decide +kernel
theorem d_SR_isGone_2 : decode b_SR_isGone 2 = .ok (.getfield 51, 3) := by decide +kernel
theorem d_SR_isGone_5 : decode b_SR_isGone 5 = .ok (.ladd, 1) := by decide +kernel
theorem d_SR_isGone_6 : decode b_SR_isGone 6 = .ok (.aload_n 0, 1) := by decide +kernel
theorem d_SR_isGone_7 : decode b_SR_isGone 7 = .ok (.getfield 57, 3) := by decide +kernel
theorem d_SR_isGone_10 : decode b_SR_isGone 10 = .ok (.lcmp, 1) := by decide +kernel
theorem d_SR_isGone_11 : decode b_SR_isGone 11 = .ok (.ifCond .gt 7, 3) := by decide +kernel
theorem d_SR_isGone_14 : decode b_SR_isGone 14 = .ok (.iconst 1, 1) := by decide +kernel
theorem d_SR_isGone_15 : decode b_SR_isGone 15 = .ok (.goto 4, 3) := by decide +kernel
theorem d_SR_isGone_18 : decode b_SR_isGone 18 = .ok (.iconst 0, 1) := by decide +kernel
theorem d_SR_isGone_19 : decode b_SR_isGone 19 = .ok (.ireturn, 1) := by decide +kernel
theorem d_SS_sharing_0 : decode b_SS_sharing 0 = .ok (.iconst 0, 1) := by decide +kernel
theorem d_SS_sharing_1 : decode b_SS_sharing 1 = .ok (.istore 6, 2) := by decide +kernel
theorem d_SS_sharing_3 : decode b_SS_sharing 3 = .ok (.iconst 0, 1) := by decide +kernel
theorem d_SS_sharing_4 : decode b_SS_sharing 4 = .ok (.istore 7, 2) := by decide +kernel
theorem d_SS_sharing_6 : decode b_SS_sharing 6 = .ok (.iload 7, 2) := by decide +kernel
theorem d_SS_sharing_8 : decode b_SS_sharing 8 = .ok (.aload_n 0, 1) := by decide +kernel
theorem d_SS_sharing_9 : decode b_SS_sharing 9 = .ok (.getfield 47, 3) := by decide +kernel
theorem d_SS_sharing_12 : decode b_SS_sharing 12 = .ok (.if_icmp .ge 30, 3) := by decide +kernel
theorem d_SS_sharing_15 : decode b_SS_sharing 15 = .ok (.aload_n 0, 1) := by decide +kernel
theorem d_SS_sharing_16 : decode b_SS_sharing 16 = .ok (.aload_n 0, 1) := by decide +kernel
theorem d_SS_sharing_17 : decode b_SS_sharing 17 = .ok (.getfield 44, 3) := by decide +kernel
theorem d_SS_sharing_20 : decode b_SS_sharing 20 = .ok (.iload 7, 2) := by decide +kernel
theorem d_SS_sharing_22 : decode b_SS_sharing 22 = .ok (.iaload, 1) := by decide +kernel
theorem d_SS_sharing_23 : decode b_SS_sharing 23 = .ok (.iload_n 1, 1) := by decide +kernel
theorem d_SS_sharing_24 : decode b_SS_sharing 24 = .ok (.lload_n 2, 1) := by decide +kernel
theorem d_SS_sharing_25 : decode b_SS_sharing 25 = .ok (.lload 4, 2) := by decide +kernel
theorem d_SS_sharing_27 : decode b_SS_sharing 27 = .ok (.invokevirtual 55, 3) := by decide +kernel
theorem d_SS_sharing_30 : decode b_SS_sharing 30 = .ok (.ifCond .eq 6, 3) := by decide +kernel
theorem d_SS_sharing_33 : decode b_SS_sharing 33 = .ok (.iinc 6 1, 3) := by decide +kernel
theorem d_SS_sharing_36 : decode b_SS_sharing 36 = .ok (.iinc 7 1, 3) := by decide +kernel
theorem d_SS_sharing_39 : decode b_SS_sharing 39 = .ok (.goto (-33), 3) := by decide +kernel
theorem d_SS_sharing_42 : decode b_SS_sharing 42 = .ok (.iload 6, 2) := by decide +kernel
theorem d_SS_sharing_44 : decode b_SS_sharing 44 = .ok (.ireturn, 1) := by decide +kernel
theorem d_SS_absorb_0 : decode b_SS_absorb 0 = .ok (.aload_n 0, 1) := by decide +kernel
theorem d_SS_absorb_1 : decode b_SS_absorb 1 = .ok (.getfield 19, 3) := by decide +kernel
theorem d_SS_absorb_4 : decode b_SS_absorb 4 = .ok (.iload_n 1, 1) := by decide +kernel
theorem d_SS_absorb_5 : decode b_SS_absorb 5 = .ok (.aload_n 0, 1) := by decide +kernel
theorem d_SS_absorb_6 : decode b_SS_absorb 6 = .ok (.getfield 19, 3) := by decide +kernel
theorem d_SS_absorb_9 : decode b_SS_absorb 9 = .ok (.iload_n 1, 1) := by decide +kernel
theorem d_SS_absorb_10 : decode b_SS_absorb 10 = .ok (.laload, 1) := by decide +kernel
theorem d_SS_absorb_11 : decode b_SS_absorb 11 = .ok (.aload_n 0, 1) := by decide +kernel
theorem d_SS_absorb_12 : decode b_SS_absorb 12 = .ok (.getfield 19, 3) := by decide +kernel
theorem d_SS_absorb_15 : decode b_SS_absorb 15 = .ok (.iload_n 2, 1) := by decide +kernel
theorem d_SS_absorb_16 : decode b_SS_absorb 16 = .ok (.laload, 1) := by decide +kernel
theorem d_SS_absorb_17 : decode b_SS_absorb 17 = .ok (.invokestatic 59, 3) := by decide +kernel
theorem d_SS_absorb_20 : decode b_SS_absorb 20 = .ok (.lastore, 1) := by decide +kernel
theorem d_SS_absorb_21 : decode b_SS_absorb 21 = .ok (.aload_n 0, 1) := by decide +kernel
theorem d_SS_absorb_22 : decode b_SS_absorb 22 = .ok (.getfield 22, 3) := by decide +kernel
theorem d_SS_absorb_25 : decode b_SS_absorb 25 = .ok (.iload_n 1, 1) := by decide +kernel
theorem d_SS_absorb_26 : decode b_SS_absorb 26 = .ok (.aload_n 0, 1) := by decide +kernel
theorem d_SS_absorb_27 : decode b_SS_absorb 27 = .ok (.getfield 22, 3) := by decide +kernel
theorem d_SS_absorb_30 : decode b_SS_absorb 30 = .ok (.iload_n 1, 1) := by decide +kernel
theorem d_SS_absorb_31 : decode b_SS_absorb 31 = .ok (.iaload, 1) := by decide +kernel
theorem d_SS_absorb_32 : decode b_SS_absorb 32 = .ok (.aload_n 0, 1) := by decide +kernel
theorem d_SS_absorb_33 : decode b_SS_absorb 33 = .ok (.getfield 22, 3) := by decide +kernel
theorem d_SS_absorb_36 : decode b_SS_absorb 36 = .ok (.iload_n 2, 1) := by decide +kernel
theorem d_SS_absorb_37 : decode b_SS_absorb 37 = .ok (.iaload, 1) := by decide +kernel
theorem d_SS_absorb_38 : decode b_SS_absorb 38 = .ok (.invokestatic 79, 3) := by decide +kernel
theorem d_SS_absorb_41 : decode b_SS_absorb 41 = .ok (.iastore, 1) := by decide +kernel
theorem d_SS_absorb_42 : decode b_SS_absorb 42 = .ok (.aload_n 0, 1) := by decide +kernel
theorem d_SS_absorb_43 : decode b_SS_absorb 43 = .ok (.getfield 25, 3) := by decide +kernel
theorem d_SS_absorb_46 : decode b_SS_absorb 46 = .ok (.iload_n 1, 1) := by decide +kernel
theorem d_SS_absorb_47 : decode b_SS_absorb 47 = .ok (.dup2, 1) := by decide +kernel
theorem d_SS_absorb_48 : decode b_SS_absorb 48 = .ok (.iaload, 1) := by decide +kernel
theorem d_SS_absorb_49 : decode b_SS_absorb 49 = .ok (.aload_n 0, 1) := by decide +kernel
theorem d_SS_absorb_50 : decode b_SS_absorb 50 = .ok (.getfield 25, 3) := by decide +kernel
theorem d_SS_absorb_53 : decode b_SS_absorb 53 = .ok (.iload_n 2, 1) := by decide +kernel
theorem d_SS_absorb_54 : decode b_SS_absorb 54 = .ok (.iaload, 1) := by decide +kernel
theorem d_SS_absorb_55 : decode b_SS_absorb 55 = .ok (.iadd, 1) := by decide +kernel
theorem d_SS_absorb_56 : decode b_SS_absorb 56 = .ok (.iastore, 1) := by decide +kernel
theorem d_SS_absorb_57 : decode b_SS_absorb 57 = .ok (.aload_n 0, 1) := by decide +kernel
theorem d_SS_absorb_58 : decode b_SS_absorb 58 = .ok (.getfield 28, 3) := by decide +kernel
theorem d_SS_absorb_61 : decode b_SS_absorb 61 = .ok (.iload_n 1, 1) := by decide +kernel
theorem d_SS_absorb_62 : decode b_SS_absorb 62 = .ok (.aload_n 0, 1) := by decide +kernel
theorem d_SS_absorb_63 : decode b_SS_absorb 63 = .ok (.getfield 28, 3) := by decide +kernel
theorem d_SS_absorb_66 : decode b_SS_absorb 66 = .ok (.iload_n 1, 1) := by decide +kernel
theorem d_SS_absorb_67 : decode b_SS_absorb 67 = .ok (.baload, 1) := by decide +kernel
theorem d_SS_absorb_68 : decode b_SS_absorb 68 = .ok (.ifCond .ne 12, 3) := by decide +kernel
theorem d_SS_absorb_71 : decode b_SS_absorb 71 = .ok (.aload_n 0, 1) := by decide +kernel
theorem d_SS_absorb_72 : decode b_SS_absorb 72 = .ok (.getfield 28, 3) := by decide +kernel
theorem d_SS_absorb_75 : decode b_SS_absorb 75 = .ok (.iload_n 2, 1) := by decide +kernel
theorem d_SS_absorb_76 : decode b_SS_absorb 76 = .ok (.baload, 1) := by decide +kernel
theorem d_SS_absorb_77 : decode b_SS_absorb 77 = .ok (.ifCond .eq 7, 3) := by decide +kernel
theorem d_SS_absorb_80 : decode b_SS_absorb 80 = .ok (.iconst 1, 1) := by decide +kernel
theorem d_SS_absorb_81 : decode b_SS_absorb 81 = .ok (.goto 4, 3) := by decide +kernel
theorem d_SS_absorb_84 : decode b_SS_absorb 84 = .ok (.iconst 0, 1) := by decide +kernel
theorem d_SS_absorb_85 : decode b_SS_absorb 85 = .ok (.bastore, 1) := by decide +kernel
theorem d_SS_absorb_86 : decode b_SS_absorb 86 = .ok (.iconst 0, 1) := by decide +kernel
theorem d_SS_absorb_87 : decode b_SS_absorb 87 = .ok (.istore_n 3, 1) := by decide +kernel
theorem d_SS_absorb_88 : decode b_SS_absorb 88 = .ok (.iload_n 3, 1) := by decide +kernel
theorem d_SS_absorb_89 : decode b_SS_absorb 89 = .ok (.iconst 5, 1) := by decide +kernel
theorem d_SS_absorb_90 : decode b_SS_absorb 90 = .ok (.if_icmp .ge 55, 3) := by decide +kernel
theorem d_SS_absorb_93 : decode b_SS_absorb 93 = .ok (.aload_n 0, 1) := by decide +kernel
theorem d_SS_absorb_94 : decode b_SS_absorb 94 = .ok (.getfield 32, 3) := by decide +kernel
theorem d_SS_absorb_97 : decode b_SS_absorb 97 = .ok (.iload_n 1, 1) := by decide +kernel
theorem d_SS_absorb_98 : decode b_SS_absorb 98 = .ok (.iconst 5, 1) := by decide +kernel
theorem d_SS_absorb_99 : decode b_SS_absorb 99 = .ok (.imul, 1) := by decide +kernel
theorem d_SS_absorb_100 : decode b_SS_absorb 100 = .ok (.iload_n 3, 1) := by decide +kernel
theorem d_SS_absorb_101 : decode b_SS_absorb 101 = .ok (.iadd, 1) := by decide +kernel
theorem d_SS_absorb_102 : decode b_SS_absorb 102 = .ok (.dup2, 1) := by decide +kernel
theorem d_SS_absorb_103 : decode b_SS_absorb 103 = .ok (.laload, 1) := by decide +kernel
theorem d_SS_absorb_104 : decode b_SS_absorb 104 = .ok (.aload_n 0, 1) := by decide +kernel
theorem d_SS_absorb_105 : decode b_SS_absorb 105 = .ok (.getfield 32, 3) := by decide +kernel
theorem d_SS_absorb_108 : decode b_SS_absorb 108 = .ok (.iload_n 2, 1) := by decide +kernel
theorem d_SS_absorb_109 : decode b_SS_absorb 109 = .ok (.iconst 5, 1) := by decide +kernel
theorem d_SS_absorb_110 : decode b_SS_absorb 110 = .ok (.imul, 1) := by decide +kernel
theorem d_SS_absorb_111 : decode b_SS_absorb 111 = .ok (.iload_n 3, 1) := by decide +kernel
theorem d_SS_absorb_112 : decode b_SS_absorb 112 = .ok (.iadd, 1) := by decide +kernel
theorem d_SS_absorb_113 : decode b_SS_absorb 113 = .ok (.laload, 1) := by decide +kernel
theorem d_SS_absorb_114 : decode b_SS_absorb 114 = .ok (.lor, 1) := by decide +kernel
theorem d_SS_absorb_115 : decode b_SS_absorb 115 = .ok (.lastore, 1) := by decide +kernel
theorem d_SS_absorb_116 : decode b_SS_absorb 116 = .ok (.aload_n 0, 1) := by decide +kernel
theorem d_SS_absorb_117 : decode b_SS_absorb 117 = .ok (.getfield 35, 3) := by decide +kernel
theorem d_SS_absorb_120 : decode b_SS_absorb 120 = .ok (.iload_n 1, 1) := by decide +kernel
theorem d_SS_absorb_121 : decode b_SS_absorb 121 = .ok (.iconst 5, 1) := by decide +kernel
theorem d_SS_absorb_122 : decode b_SS_absorb 122 = .ok (.imul, 1) := by decide +kernel
theorem d_SS_absorb_123 : decode b_SS_absorb 123 = .ok (.iload_n 3, 1) := by decide +kernel
theorem d_SS_absorb_124 : decode b_SS_absorb 124 = .ok (.iadd, 1) := by decide +kernel
theorem d_SS_absorb_125 : decode b_SS_absorb 125 = .ok (.dup2, 1) := by decide +kernel
theorem d_SS_absorb_126 : decode b_SS_absorb 126 = .ok (.laload, 1) := by decide +kernel
theorem d_SS_absorb_127 : decode b_SS_absorb 127 = .ok (.aload_n 0, 1) := by decide +kernel
theorem d_SS_absorb_128 : decode b_SS_absorb 128 = .ok (.getfield 35, 3) := by decide +kernel
theorem d_SS_absorb_131 : decode b_SS_absorb 131 = .ok (.iload_n 2, 1) := by decide +kernel
theorem d_SS_absorb_132 : decode b_SS_absorb 132 = .ok (.iconst 5, 1) := by decide +kernel
theorem d_SS_absorb_133 : decode b_SS_absorb 133 = .ok (.imul, 1) := by decide +kernel
theorem d_SS_absorb_134 : decode b_SS_absorb 134 = .ok (.iload_n 3, 1) := by decide +kernel
theorem d_SS_absorb_135 : decode b_SS_absorb 135 = .ok (.iadd, 1) := by decide +kernel
theorem d_SS_absorb_136 : decode b_SS_absorb 136 = .ok (.laload, 1) := by decide +kernel
theorem d_SS_absorb_137 : decode b_SS_absorb 137 = .ok (.lor, 1) := by decide +kernel
theorem d_SS_absorb_138 : decode b_SS_absorb 138 = .ok (.lastore, 1) := by decide +kernel
theorem d_SS_absorb_139 : decode b_SS_absorb 139 = .ok (.iinc 3 1, 3) := by decide +kernel
theorem d_SS_absorb_142 : decode b_SS_absorb 142 = .ok (.goto (-54), 3) := by decide +kernel
theorem d_SS_absorb_145 : decode b_SS_absorb 145 = .ok (.aload_n 0, 1) := by decide +kernel
theorem d_SS_absorb_146 : decode b_SS_absorb 146 = .ok (.getfield 9, 3) := by decide +kernel
theorem d_SS_absorb_149 : decode b_SS_absorb 149 = .ok (.iload_n 2, 1) := by decide +kernel
theorem d_SS_absorb_150 : decode b_SS_absorb 150 = .ok (.iconst (-1), 1) := by decide +kernel
theorem d_SS_absorb_151 : decode b_SS_absorb 151 = .ok (.iastore, 1) := by decide +kernel
theorem d_SS_absorb_152 : decode b_SS_absorb 152 = .ok (.return_, 1) := by decide +kernel
theorem d_SS_isBehind_0 : decode b_SS_isBehind 0 = .ok (.aload_n 0, 1) := by decide +kernel
theorem d_SS_isBehind_1 : decode b_SS_isBehind 1 = .ok (.getfield 9, 3) := by decide +kernel
theorem d_SS_isBehind_4 : decode b_SS_isBehind 4 = .ok (.iload_n 1, 1) := by decide +kernel
theorem d_SS_isBehind_5 : decode b_SS_isBehind 5 = .ok (.iaload, 1) := by decide +kernel
theorem d_SS_isBehind_6 : decode b_SS_isBehind 6 = .ok (.aload_n 0, 1) := by decide +kernel
theorem d_SS_isBehind_7 : decode b_SS_isBehind 7 = .ok (.getfield 9, 3) := by decide +kernel
theorem d_SS_isBehind_10 : decode b_SS_isBehind 10 = .ok (.iload_n 2, 1) := by decide +kernel
theorem d_SS_isBehind_11 : decode b_SS_isBehind 11 = .ok (.iaload, 1) := by decide +kernel
theorem d_SS_isBehind_12 : decode b_SS_isBehind 12 = .ok (.if_icmp .eq 24, 3) := by decide +kernel
theorem d_SS_isBehind_15 : decode b_SS_isBehind 15 = .ok (.aload_n 0, 1) := by decide +kernel
theorem d_SS_isBehind_16 : decode b_SS_isBehind 16 = .ok (.getfield 9, 3) := by decide +kernel
theorem d_SS_isBehind_19 : decode b_SS_isBehind 19 = .ok (.iload_n 1, 1) := by decide +kernel
theorem d_SS_isBehind_20 : decode b_SS_isBehind 20 = .ok (.iaload, 1) := by decide +kernel
theorem d_SS_isBehind_21 : decode b_SS_isBehind 21 = .ok (.aload_n 0, 1) := by decide +kernel
theorem d_SS_isBehind_22 : decode b_SS_isBehind 22 = .ok (.getfield 9, 3) := by decide +kernel
theorem d_SS_isBehind_25 : decode b_SS_isBehind 25 = .ok (.iload_n 2, 1) := by decide +kernel
theorem d_SS_isBehind_26 : decode b_SS_isBehind 26 = .ok (.iaload, 1) := by decide +kernel
theorem d_SS_isBehind_27 : decode b_SS_isBehind 27 = .ok (.if_icmp .le 7, 3) := by decide +kernel
theorem d_SS_isBehind_30 : decode b_SS_isBehind 30 = .ok (.iconst 1, 1) := by decide +kernel
theorem d_SS_isBehind_31 : decode b_SS_isBehind 31 = .ok (.goto 4, 3) := by decide +kernel
theorem d_SS_isBehind_34 : decode b_SS_isBehind 34 = .ok (.iconst 0, 1) := by decide +kernel
theorem d_SS_isBehind_35 : decode b_SS_isBehind 35 = .ok (.ireturn, 1) := by decide +kernel
theorem d_SS_isBehind_36 : decode b_SS_isBehind 36 = .ok (.aload_n 0, 1) := by decide +kernel
theorem d_SS_isBehind_37 : decode b_SS_isBehind 37 = .ok (.getfield 15, 3) := by decide +kernel
theorem d_SS_isBehind_40 : decode b_SS_isBehind 40 = .ok (.iload_n 1, 1) := by decide +kernel
theorem d_SS_isBehind_41 : decode b_SS_isBehind 41 = .ok (.laload, 1) := by decide +kernel
theorem d_SS_isBehind_42 : decode b_SS_isBehind 42 = .ok (.aload_n 0, 1) := by decide +kernel
theorem d_SS_isBehind_43 : decode b_SS_isBehind 43 = .ok (.getfield 15, 3) := by decide +kernel
theorem d_SS_isBehind_46 : decode b_SS_isBehind 46 = .ok (.iload_n 2, 1) := by decide +kernel
theorem d_SS_isBehind_47 : decode b_SS_isBehind 47 = .ok (.laload, 1) := by decide +kernel
theorem d_SS_isBehind_48 : decode b_SS_isBehind 48 = .ok (.lcmp, 1) := by decide +kernel
theorem d_SS_isBehind_49 : decode b_SS_isBehind 49 = .ok (.ifCond .eq 27, 3) := by decide +kernel
theorem d_SS_isBehind_52 : decode b_SS_isBehind 52 = .ok (.aload_n 0, 1) := by decide +kernel
theorem d_SS_isBehind_53 : decode b_SS_isBehind 53 = .ok (.getfield 15, 3) := by decide +kernel
theorem d_SS_isBehind_56 : decode b_SS_isBehind 56 = .ok (.iload_n 1, 1) := by decide +kernel
theorem d_SS_isBehind_57 : decode b_SS_isBehind 57 = .ok (.laload, 1) := by decide +kernel
theorem d_SS_isBehind_58 : decode b_SS_isBehind 58 = .ok (.aload_n 0, 1) := by decide +kernel
theorem d_SS_isBehind_59 : decode b_SS_isBehind 59 = .ok (.getfield 15, 3) := by decide +kernel
theorem d_SS_isBehind_62 : decode b_SS_isBehind 62 = .ok (.iload_n 2, 1) := by decide +kernel
theorem d_SS_isBehind_63 : decode b_SS_isBehind 63 = .ok (.laload, 1) := by decide +kernel
theorem d_SS_isBehind_64 : decode b_SS_isBehind 64 = .ok (.lcmp, 1) := by decide +kernel
theorem d_SS_isBehind_65 : decode b_SS_isBehind 65 = .ok (.ifCond .le 7, 3) := by decide +kernel
theorem d_SS_isBehind_68 : decode b_SS_isBehind 68 = .ok (.iconst 1, 1) := by decide +kernel
theorem d_SS_isBehind_69 : decode b_SS_isBehind 69 = .ok (.goto 28, 3) := by decide +kernel
theorem d_SS_isBehind_72 : decode b_SS_isBehind 72 = .ok (.iconst 0, 1) := by decide +kernel
theorem d_SS_isBehind_73 : decode b_SS_isBehind 73 = .ok (.goto 24, 3) := by decide +kernel
theorem d_SS_isBehind_76 : decode b_SS_isBehind 76 = .ok (.aload_n 0, 1) := by decide +kernel
theorem d_SS_isBehind_77 : decode b_SS_isBehind 77 = .ok (.getfield 19, 3) := by decide +kernel
theorem d_SS_isBehind_80 : decode b_SS_isBehind 80 = .ok (.iload_n 1, 1) := by decide +kernel
theorem d_SS_isBehind_81 : decode b_SS_isBehind 81 = .ok (.laload, 1) := by decide +kernel
theorem d_SS_isBehind_82 : decode b_SS_isBehind 82 = .ok (.aload_n 0, 1) := by decide +kernel
theorem d_SS_isBehind_83 : decode b_SS_isBehind 83 = .ok (.getfield 19, 3) := by decide +kernel
theorem d_SS_isBehind_86 : decode b_SS_isBehind 86 = .ok (.iload_n 2, 1) := by decide +kernel
theorem d_SS_isBehind_87 : decode b_SS_isBehind 87 = .ok (.laload, 1) := by decide +kernel
theorem d_SS_isBehind_88 : decode b_SS_isBehind 88 = .ok (.lcmp, 1) := by decide +kernel
theorem d_SS_isBehind_89 : decode b_SS_isBehind 89 = .ok (.ifCond .le 7, 3) := by decide +kernel
theorem d_SS_isBehind_92 : decode b_SS_isBehind 92 = .ok (.iconst 1, 1) := by decide +kernel
theorem d_SS_isBehind_93 : decode b_SS_isBehind 93 = .ok (.goto 4, 3) := by decide +kernel
theorem d_SS_isBehind_96 : decode b_SS_isBehind 96 = .ok (.iconst 0, 1) := by decide +kernel
theorem d_SS_isBehind_97 : decode b_SS_isBehind 97 = .ok (.ireturn, 1) := by decide +kernel
theorem d_SS_add_0 : decode b_SS_add 0 = .ok (.aload_n 0, 1) := by decide +kernel
theorem d_SS_add_1 : decode b_SS_add 1 = .ok (.getfield 44, 3) := by decide +kernel
theorem d_SS_add_4 : decode b_SS_add 4 = .ok (.aload_n 0, 1) := by decide +kernel
theorem d_SS_add_5 : decode b_SS_add 5 = .ok (.getfield 47, 3) := by decide +kernel
theorem d_SS_add_8 : decode b_SS_add 8 = .ok (.iaload, 1) := by decide +kernel
theorem d_SS_add_9 : decode b_SS_add 9 = .ok (.istore 6, 2) := by decide +kernel
theorem d_SS_add_11 : decode b_SS_add 11 = .ok (.aload_n 0, 1) := by decide +kernel
theorem d_SS_add_12 : decode b_SS_add 12 = .ok (.getfield 9, 3) := by decide +kernel
theorem d_SS_add_15 : decode b_SS_add 15 = .ok (.iload 6, 2) := by decide +kernel
theorem d_SS_add_17 : decode b_SS_add 17 = .ok (.iload_n 1, 1) := by decide +kernel
theorem d_SS_add_18 : decode b_SS_add 18 = .ok (.iastore, 1) := by decide +kernel
theorem d_SS_add_19 : decode b_SS_add 19 = .ok (.aload_n 0, 1) := by decide +kernel
theorem d_SS_add_20 : decode b_SS_add 20 = .ok (.getfield 15, 3) := by decide +kernel
theorem d_SS_add_23 : decode b_SS_add 23 = .ok (.iload 6, 2) := by decide +kernel
theorem d_SS_add_25 : decode b_SS_add 25 = .ok (.lload_n 2, 1) := by decide +kernel
theorem d_SS_add_26 : decode b_SS_add 26 = .ok (.lastore, 1) := by decide +kernel
theorem d_SS_add_27 : decode b_SS_add 27 = .ok (.aload_n 0, 1) := by decide +kernel
theorem d_SS_add_28 : decode b_SS_add 28 = .ok (.getfield 19, 3) := by decide +kernel
theorem d_SS_add_31 : decode b_SS_add 31 = .ok (.iload 6, 2) := by decide +kernel
theorem d_SS_add_33 : decode b_SS_add 33 = .ok (.lload 4, 2) := by decide +kernel
theorem d_SS_add_35 : decode b_SS_add 35 = .ok (.lastore, 1) := by decide +kernel
theorem d_SS_add_36 : decode b_SS_add 36 = .ok (.aload_n 0, 1) := by decide +kernel
theorem d_SS_add_37 : decode b_SS_add 37 = .ok (.getfield 22, 3) := by decide +kernel
theorem d_SS_add_40 : decode b_SS_add 40 = .ok (.iload 6, 2) := by decide +kernel
theorem d_SS_add_42 : decode b_SS_add 42 = .ok (.iconst 0, 1) := by decide +kernel
theorem d_SS_add_43 : decode b_SS_add 43 = .ok (.iastore, 1) := by decide +kernel
theorem d_SS_add_44 : decode b_SS_add 44 = .ok (.aload_n 0, 1) := by decide +kernel
theorem d_SS_add_45 : decode b_SS_add 45 = .ok (.getfield 25, 3) := by decide +kernel
theorem d_SS_add_48 : decode b_SS_add 48 = .ok (.iload 6, 2) := by decide +kernel
theorem d_SS_add_50 : decode b_SS_add 50 = .ok (.iconst 0, 1) := by decide +kernel
theorem d_SS_add_51 : decode b_SS_add 51 = .ok (.iastore, 1) := by decide +kernel
theorem d_SS_add_52 : decode b_SS_add 52 = .ok (.aload_n 0, 1) := by decide +kernel
theorem d_SS_add_53 : decode b_SS_add 53 = .ok (.getfield 28, 3) := by decide +kernel
theorem d_SS_add_56 : decode b_SS_add 56 = .ok (.iload 6, 2) := by decide +kernel
theorem d_SS_add_58 : decode b_SS_add 58 = .ok (.iconst 0, 1) := by decide +kernel
theorem d_SS_add_59 : decode b_SS_add 59 = .ok (.bastore, 1) := by decide +kernel
theorem d_SS_add_60 : decode b_SS_add 60 = .ok (.iload 6, 2) := by decide +kernel
theorem d_SS_add_62 : decode b_SS_add 62 = .ok (.iconst 5, 1) := by decide +kernel
