theorem d_MA_floorDiv_0 : decode b_MA_floorDiv 0 = .ok (.lload_n 0, 1) := by decide +kernel
theorem d_MA_floorDiv_1 : decode b_MA_floorDiv 1 = .ok (.lload_n 2, 1) := by decide +kernel
theorem d_MA_floorDiv_2 : decode b_MA_floorDiv 2 = .ok (.ldiv, 1) := by decide +kernel
theorem d_MA_floorDiv_3 : decode b_MA_floorDiv 3 = .ok (.lstore 4, 2) := by decide +kernel
theorem d_MA_floorDiv_5 : decode b_MA_floorDiv 5 = .ok (.lload_n 0, 1) := by decide +kernel
theorem d_MA_floorDiv_6 : decode b_MA_floorDiv 6 = .ok (.lload_n 2, 1) := by decide +kernel
theorem d_MA_floorDiv_7 : decode b_MA_floorDiv 7 = .ok (.lxor, 1) := by decide +kernel
theorem d_MA_floorDiv_8 : decode b_MA_floorDiv 8 = .ok (.lconst 0, 1) := by decide +kernel
theorem d_MA_floorDiv_9 : decode b_MA_floorDiv 9 = .ok (.lcmp, 1) := by decide +kernel
theorem d_MA_floorDiv_10 : decode b_MA_floorDiv 10 = .ok (.ifCond .ge 17, 3) := by decide +kernel
theorem d_MA_floorDiv_13 : decode b_MA_floorDiv 13 = .ok (.lload 4, 2) := by decide +kernel
theorem d_MA_floorDiv_15 : decode b_MA_floorDiv 15 = .ok (.lload_n 2, 1) := by decide +kernel
theorem d_MA_floorDiv_16 : decode b_MA_floorDiv 16 = .ok (.lmul, 1) := by decide +kernel
theorem d_MA_floorDiv_17 : decode b_MA_floorDiv 17 = .ok (.lload_n 0, 1) := by decide +kernel
theorem d_MA_floorDiv_18 : decode b_MA_floorDiv 18 = .ok (.lcmp, 1) := by decide +kernel
theorem d_MA_floorDiv_19 : decode b_MA_floorDiv 19 = .ok (.ifCond .eq 8, 3) := by decide +kernel
theorem d_MA_floorDiv_22 : decode b_MA_floorDiv 22 = .ok (.lload 4, 2) := by decide +kernel
theorem d_MA_floorDiv_24 : decode b_MA_floorDiv 24 = .ok (.lconst 1, 1) := by decide +kernel
theorem d_MA_floorDiv_25 : decode b_MA_floorDiv 25 = .ok (.lsub, 1) := by decide +kernel
theorem d_MA_floorDiv_26 : decode b_MA_floorDiv 26 = .ok (.lreturn, 1) := by decide +kernel
theorem d_MA_floorDiv_27 : decode b_MA_floorDiv 27 = .ok (.lload 4, 2) := by decide +kernel
theorem d_MA_floorDiv_29 : decode b_MA_floorDiv 29 = .ok (.lreturn, 1) := by decide +kernel
theorem d_CA_firstDay_0 : decode b_CA_firstDay 0 = .ok (.lload_n 0, 1) := by decide +kernel
theorem d_CA_firstDay_1 : decode b_CA_firstDay 1 = .ok (.ldc2_w 9, 3) := by decide +kernel
theorem d_CA_firstDay_4 : decode b_CA_firstDay 4 = .ok (.ladd, 1) := by decide +kernel
theorem d_CA_firstDay_5 : decode b_CA_firstDay 5 = .ok (.lstore_n 2, 1) := by decide +kernel
theorem d_CA_firstDay_6 : decode b_CA_firstDay 6 = .ok (.lload_n 2, 1) := by decide +kernel
theorem d_CA_firstDay_7 : decode b_CA_firstDay 7 = .ok (.ldc2_w 11, 3) := by decide +kernel
theorem d_CA_firstDay_10 : decode b_CA_firstDay 10 = .ok (.invokestatic 13, 3) := by decide +kernel
theorem d_CA_firstDay_13 : decode b_CA_firstDay 13 = .ok (.lstore 4, 2) := by decide +kernel
theorem d_CA_firstDay_15 : decode b_CA_firstDay 15 = .ok (.lload 4, 2) := by decide +kernel
theorem d_CA_firstDay_17 : decode b_CA_firstDay 17 = .ok (.ldc2_w 19, 3) := by decide +kernel
theorem d_CA_firstDay_20 : decode b_CA_firstDay 20 = .ok (.invokestatic 13, 3) := by decide +kernel
theorem d_CA_firstDay_23 : decode b_CA_firstDay 23 = .ok (.lload 4, 2) := by decide +kernel
theorem d_CA_firstDay_25 : decode b_CA_firstDay 25 = .ok (.ldc2_w 21, 3) := by decide +kernel
theorem d_CA_firstDay_28 : decode b_CA_firstDay 28 = .ok (.invokestatic 13, 3) := by decide +kernel
theorem d_CA_firstDay_31 : decode b_CA_firstDay 31 = .ok (.lsub, 1) := by decide +kernel
theorem d_CA_firstDay_32 : decode b_CA_firstDay 32 = .ok (.lload 4, 2) := by decide +kernel
theorem d_CA_firstDay_34 : decode b_CA_firstDay 34 = .ok (.ldc2_w 23, 3) := by decide +kernel
theorem d_CA_firstDay_37 : decode b_CA_firstDay 37 = .ok (.invokestatic 13, 3) := by decide +kernel
theorem d_CA_firstDay_40 : decode b_CA_firstDay 40 = .ok (.ladd, 1) := by decide +kernel
theorem d_CA_firstDay_41 : decode b_CA_firstDay 41 = .ok (.lstore 6, 2) := by decide +kernel
theorem d_CA_firstDay_43 : decode b_CA_firstDay 43 = .ok (.ldc2_w 25, 3) := by decide +kernel
theorem d_CA_firstDay_46 : decode b_CA_firstDay 46 = .ok (.lload_n 2, 1) := by decide +kernel
theorem d_CA_firstDay_47 : decode b_CA_firstDay 47 = .ok (.ldc2_w 11, 3) := by decide +kernel
theorem d_CA_firstDay_50 : decode b_CA_firstDay 50 = .ok (.lload 4, 2) := by decide +kernel
theorem d_CA_firstDay_52 : decode b_CA_firstDay 52 = .ok (.lmul, 1) := by decide +kernel
theorem d_CA_firstDay_53 : decode b_CA_firstDay 53 = .ok (.lsub, 1) := by decide +kernel
theorem d_CA_firstDay_54 : decode b_CA_firstDay 54 = .ok (.lmul, 1) := by decide +kernel
theorem d_CA_firstDay_55 : decode b_CA_firstDay 55 = .ok (.ldc2_w 27, 3) := by decide +kernel
theorem d_CA_firstDay_58 : decode b_CA_firstDay 58 = .ok (.ladd, 1) := by decide +kernel
theorem d_CA_firstDay_59 : decode b_CA_firstDay 59 = .ok (.ldc2_w 29, 3) := by decide +kernel
theorem d_CA_firstDay_62 : decode b_CA_firstDay 62 = .ok (.ldiv, 1) := by decide +kernel
theorem d_CA_firstDay_63 : decode b_CA_firstDay 63 = .ok (.lstore 8, 2) := by decide +kernel
theorem d_CA_firstDay_65 : decode b_CA_firstDay 65 = .ok (.ldc2_w 31, 3) := by decide +kernel
theorem d_CA_firstDay_68 : decode b_CA_firstDay 68 = .ok (.lload 4, 2) := by decide +kernel
theorem d_CA_firstDay_70 : decode b_CA_firstDay 70 = .ok (.lmul, 1) := by decide +kernel
theorem d_CA_firstDay_71 : decode b_CA_firstDay 71 = .ok (.lload 6, 2) := by decide +kernel
theorem d_CA_firstDay_73 : decode b_CA_firstDay 73 = .ok (.ladd, 1) := by decide +kernel
theorem d_CA_firstDay_74 : decode b_CA_firstDay 74 = .ok (.lload 8, 2) := by decide +kernel
theorem d_CA_firstDay_76 : decode b_CA_firstDay 76 = .ok (.ladd, 1) := by decide +kernel
theorem d_CA_firstDay_77 : decode b_CA_firstDay 77 = .ok (.ldc2_w 33, 3) := by decide +kernel
theorem d_CA_firstDay_80 : decode b_CA_firstDay 80 = .ok (.lsub, 1) := by decide +kernel
theorem d_CA_firstDay_81 : decode b_CA_firstDay 81 = .ok (.lreturn, 1) := by decide +kernel
theorem d_CA_monthOf_0 : decode b_CA_monthOf 0 = .ok (.lload_n 0, 1) := by decide +kernel
theorem d_CA_monthOf_1 : decode b_CA_monthOf 1 = .ok (.ldc2_w 35, 3) := by decide +kernel
theorem d_CA_monthOf_4 : decode b_CA_monthOf 4 = .ok (.lmul, 1) := by decide +kernel
theorem d_CA_monthOf_5 : decode b_CA_monthOf 5 = .ok (.ldc2_w 37, 3) := by decide +kernel
theorem d_CA_monthOf_8 : decode b_CA_monthOf 8 = .ok (.invokestatic 13, 3) := by decide +kernel
theorem d_CA_monthOf_11 : decode b_CA_monthOf 11 = .ok (.ldc2_w 27, 3) := by decide +kernel
theorem d_CA_monthOf_14 : decode b_CA_monthOf 14 = .ok (.lsub, 1) := by decide +kernel
theorem d_CA_monthOf_15 : decode b_CA_monthOf 15 = .ok (.lstore_n 2, 1) := by decide +kernel
theorem d_CA_monthOf_16 : decode b_CA_monthOf 16 = .ok (.iconst 0, 1) := by decide +kernel
theorem d_CA_monthOf_17 : decode b_CA_monthOf 17 = .ok (.istore 4, 2) := by decide +kernel
theorem d_CA_monthOf_19 : decode b_CA_monthOf 19 = .ok (.iload 4, 2) := by decide +kernel
theorem d_CA_monthOf_21 : decode b_CA_monthOf 21 = .ok (.iconst 5, 1) := by decide +kernel
theorem d_CA_monthOf_22 : decode b_CA_monthOf 22 = .ok (.if_icmp .ge 24, 3) := by decide +kernel
theorem d_CA_monthOf_25 : decode b_CA_monthOf 25 = .ok (.lload_n 2, 1) := by decide +kernel
theorem d_CA_monthOf_26 : decode b_CA_monthOf 26 = .ok (.lconst 1, 1) := by decide +kernel
theorem d_CA_monthOf_27 : decode b_CA_monthOf 27 = .ok (.ladd, 1) := by decide +kernel
theorem d_CA_monthOf_28 : decode b_CA_monthOf 28 = .ok (.invokestatic 39, 3) := by decide +kernel
theorem d_CA_monthOf_31 : decode b_CA_monthOf 31 = .ok (.lload_n 0, 1) := by decide +kernel
theorem d_CA_monthOf_32 : decode b_CA_monthOf 32 = .ok (.lcmp, 1) := by decide +kernel
theorem d_CA_monthOf_33 : decode b_CA_monthOf 33 = .ok (.ifCond .gt 13, 3) := by decide +kernel
theorem d_CA_monthOf_36 : decode b_CA_monthOf 36 = .ok (.lload_n 2, 1) := by decide +kernel
theorem d_CA_monthOf_37 : decode b_CA_monthOf 37 = .ok (.lconst 1, 1) := by decide +kernel
theorem d_CA_monthOf_38 : decode b_CA_monthOf 38 = .ok (.ladd, 1) := by decide +kernel
theorem d_CA_monthOf_39 : decode b_CA_monthOf 39 = .ok (.lstore_n 2, 1) := by decide +kernel
theorem d_CA_monthOf_40 : decode b_CA_monthOf 40 = .ok (.iinc 4 1, 3) := by decide +kernel
theorem d_CA_monthOf_43 : decode b_CA_monthOf 43 = .ok (.goto (-24), 3) := by decide +kernel
theorem d_CA_monthOf_46 : decode b_CA_monthOf 46 = .ok (.lload_n 2, 1) := by decide +kernel
theorem d_CA_monthOf_47 : decode b_CA_monthOf 47 = .ok (.lreturn, 1) := by decide +kernel
theorem d_CO_clear_0 : decode b_CO_clear 0 = .ok (.aload_n 0, 1) := by decide +kernel
theorem d_CO_clear_1 : decode b_CO_clear 1 = .ok (.iconst 0, 1) := by decide +kernel
theorem d_CO_clear_2 : decode b_CO_clear 2 = .ok (.putfield 7, 3) := by decide +kernel
theorem d_CO_clear_5 : decode b_CO_clear 5 = .ok (.aload_n 0, 1) := by decide +kernel
theorem d_CO_clear_6 : decode b_CO_clear 6 = .ok (.lconst 0, 1) := by decide +kernel
theorem d_CO_clear_7 : decode b_CO_clear 7 = .ok (.putfield 13, 3) := by decide +kernel
theorem d_CO_clear_10 : decode b_CO_clear 10 = .ok (.aload_n 0, 1) := by decide +kernel
theorem d_CO_clear_11 : decode b_CO_clear 11 = .ok (.lconst 0, 1) := by decide +kernel
theorem d_CO_clear_12 : decode b_CO_clear 12 = .ok (.putfield 17, 3) := by decide +kernel
theorem d_CO_clear_15 : decode b_CO_clear 15 = .ok (.aload_n 0, 1) := by decide +kernel
theorem d_CO_clear_16 : decode b_CO_clear 16 = .ok (.lconst 0, 1) := by decide +kernel
theorem d_CO_clear_17 : decode b_CO_clear 17 = .ok (.putfield 20, 3) := by decide +kernel
theorem d_CO_clear_20 : decode b_CO_clear 20 = .ok (.aload_n 0, 1) := by decide +kernel
theorem d_CO_clear_21 : decode b_CO_clear 21 = .ok (.lconst 0, 1) := by decide +kernel
theorem d_CO_clear_22 : decode b_CO_clear 22 = .ok (.putfield 23, 3) := by decide +kernel
theorem d_CO_clear_25 : decode b_CO_clear 25 = .ok (.return_, 1) := by decide +kernel
theorem d_CO_add_0 : decode b_CO_add 0 = .ok (.aload_n 0, 1) := by decide +kernel
theorem d_CO_add_1 : decode b_CO_add 1 = .ok (.aload_n 0, 1) := by decide +kernel
theorem d_CO_add_2 : decode b_CO_add 2 = .ok (.getfield 7, 3) := by decide +kernel
theorem d_CO_add_5 : decode b_CO_add 5 = .ok (.ifCond .ne 7, 3) := by decide +kernel
theorem d_CO_add_8 : decode b_CO_add 8 = .ok (.lload_n 1, 1) := by decide +kernel
theorem d_CO_add_9 : decode b_CO_add 9 = .ok (.goto 11, 3) := by decide +kernel
theorem d_CO_add_12 : decode b_CO_add 12 = .ok (.aload_n 0, 1) := by decide +kernel
theorem d_CO_add_13 : decode b_CO_add 13 = .ok (.getfield 17, 3) := by decide +kernel
theorem d_CO_add_16 : decode b_CO_add 16 = .ok (.lload_n 1, 1) := by decide +kernel
theorem d_CO_add_17 : decode b_CO_add 17 = .ok (.invokestatic 26, 3) := by decide +kernel
theorem d_CO_add_20 : decode b_CO_add 20 = .ok (.putfield 17, 3) := by decide +kernel
theorem d_CO_add_23 : decode b_CO_add 23 = .ok (.aload_n 0, 1) := by decide +kernel
theorem d_CO_add_24 : decode b_CO_add 24 = .ok (.aload_n 0, 1) := by decide +kernel
theorem d_CO_add_25 : decode b_CO_add 25 = .ok (.getfield 7, 3) := by decide +kernel
theorem d_CO_add_28 : decode b_CO_add 28 = .ok (.ifCond .ne 7, 3) := by decide +kernel
theorem d_CO_add_31 : decode b_CO_add 31 = .ok (.lload_n 1, 1) := by decide +kernel
theorem d_CO_add_32 : decode b_CO_add 32 = .ok (.goto 11, 3) := by decide +kernel
theorem d_CO_add_35 : decode b_CO_add 35 = .ok (.aload_n 0, 1) := by decide +kernel
theorem d_CO_add_36 : decode b_CO_add 36 = .ok (.getfield 20, 3) := by decide +kernel
theorem d_CO_add_39 : decode b_CO_add 39 = .ok (.lload_n 1, 1) := by decide +kernel
theorem d_CO_add_40 : decode b_CO_add 40 = .ok (.invokestatic 32, 3) := by decide +kernel
theorem d_CO_add_43 : decode b_CO_add 43 = .ok (.putfield 20, 3) := by decide +kernel
theorem d_CO_add_46 : decode b_CO_add 46 = .ok (.aload_n 0, 1) := by decide +kernel
theorem d_CO_add_47 : decode b_CO_add 47 = .ok (.dup, 1) := by decide +kernel
theorem d_CO_add_48 : decode b_CO_add 48 = .ok (.getfield 7, 3) := by decide +kernel
theorem d_CO_add_51 : decode b_CO_add 51 = .ok (.iconst 1, 1) := by decide +kernel
theorem d_CO_add_52 : decode b_CO_add 52 = .ok (.iadd, 1) := by decide +kernel
theorem d_CO_add_53 : decode b_CO_add 53 = .ok (.putfield 7, 3) := by decide +kernel
theorem d_CO_add_56 : decode b_CO_add 56 = .ok (.aload_n 0, 1) := by decide +kernel
theorem d_CO_add_57 : decode b_CO_add 57 = .ok (.dup, 1) := by decide +kernel
theorem d_CO_add_58 : decode b_CO_add 58 = .ok (.getfield 13, 3) := by decide +kernel
theorem d_CO_add_61 : decode b_CO_add 61 = .ok (.lload_n 1, 1) := by decide +kernel
theorem d_CO_add_62 : decode b_CO_add 62 = .ok (.ladd, 1) := by decide +kernel
theorem d_CO_add_63 : decode b_CO_add 63 = .ok (.putfield 13, 3) := by decide +kernel
theorem d_CO_add_66 : decode b_CO_add 66 = .ok (.aload_n 0, 1) := by decide +kernel
theorem d_CO_add_67 : decode b_CO_add 67 = .ok (.ldc2_w 35, 3) := by decide +kernel
theorem d_CO_add_70 : decode b_CO_add 70 = .ok (.aload_n 0, 1) := by decide +kernel
theorem d_CO_add_71 : decode b_CO_add 71 = .ok (.getfield 23, 3) := by decide +kernel
theorem d_CO_add_74 : decode b_CO_add 74 = .ok (.lmul, 1) := by decide +kernel
theorem d_CO_add_75 : decode b_CO_add 75 = .ok (.lload_n 1, 1) := by decide +kernel
theorem d_CO_add_76 : decode b_CO_add 76 = .ok (.ladd, 1) := by decide +kernel
theorem d_CO_add_77 : decode b_CO_add 77 = .ok (.putfield 23, 3) := by decide +kernel
theorem d_CO_add_80 : decode b_CO_add 80 = .ok (.return_, 1) := by decide +kernel
theorem d_CO_part_0 : decode b_CO_part 0 = .ok (.iload_n 1, 1) := by decide +kernel
theorem d_CO_part_1 : decode b_CO_part 1 = .ok (.tableswitch 52 4 7 #[31, 37, 42, 47], 31) := by decide +kernel
theorem d_CO_part_32 : decode b_CO_part 32 = .ok (.aload_n 0, 1) := by decide +kernel
theorem d_CO_part_33 : decode b_CO_part 33 = .ok (.getfield 7, 3) := by decide +kernel
theorem d_CO_part_36 : decode b_CO_part 36 = .ok (.i2l, 1) := by decide +kernel
theorem d_CO_part_37 : decode b_CO_part 37 = .ok (.lreturn, 1) := by decide +kernel
theorem d_CO_part_38 : decode b_CO_part 38 = .ok (.aload_n 0, 1) := by decide +kernel
theorem d_CO_part_39 : decode b_CO_part 39 = .ok (.getfield 13, 3) := by decide +kernel
theorem d_CO_part_42 : decode b_CO_part 42 = .ok (.lreturn, 1) := by decide +kernel
theorem d_CO_part_43 : decode b_CO_part 43 = .ok (.aload_n 0, 1) := by decide +kernel
theorem d_CO_part_44 : decode b_CO_part 44 = .ok (.getfield 17, 3) := by decide +kernel
theorem d_CO_part_47 : decode b_CO_part 47 = .ok (.lreturn, 1) := by decide +kernel
theorem d_CO_part_48 : decode b_CO_part 48 = .ok (.aload_n 0, 1) := by decide +kernel
theorem d_CO_part_49 : decode b_CO_part 49 = .ok (.getfield 20, 3) := by decide +kernel
theorem d_CO_part_52 : decode b_CO_part 52 = .ok (.lreturn, 1) := by decide +kernel
theorem d_CO_part_53 : decode b_CO_part 53 = .ok (.aload_n 0, 1) := by decide +kernel
theorem d_CO_part_54 : decode b_CO_part 54 = .ok (.getfield 23, 3) := by decide +kernel
theorem d_CO_part_57 : decode b_CO_part 57 = .ok (.lreturn, 1) := by decide +kernel
theorem d_FS_kept_0 : decode b_FS_kept 0 = .ok (.aload_n 0, 1) := by decide +kernel
theorem d_FS_kept_1 : decode b_FS_kept 1 = .ok (.getfield 15, 3) := by decide +kernel
theorem d_FS_kept_4 : decode b_FS_kept 4 = .ok (.sipush 400, 3) := by decide +kernel
theorem d_FS_kept_7 : decode b_FS_kept 7 = .ok (.invokestatic 25, 3) := by decide +kernel
theorem d_FS_kept_10 : decode b_FS_kept 10 = .ok (.ireturn, 1) := by decide +kernel
theorem d_FS_cell_0 : decode b_FS_cell 0 = .ok (.aload_n 0, 1) := by decide +kernel
theorem d_FS_cell_1 : decode b_FS_cell 1 = .ok (.getfield 11, 3) := by decide +kernel
theorem d_FS_cell_4 : decode b_FS_cell 4 = .ok (.aload_n 0, 1) := by decide +kernel
theorem d_FS_cell_5 : decode b_FS_cell 5 = .ok (.getfield 15, 3) := by decide +kernel
theorem d_FS_cell_8 : decode b_FS_cell 8 = .ok (.aload_n 0, 1) := by decide +kernel
theorem d_FS_cell_9 : decode b_FS_cell 9 = .ok (.invokevirtual 31, 3) := by decide +kernel
theorem d_FS_cell_12 : decode b_FS_cell 12 = .ok (.isub, 1) := by decide +kernel
theorem d_FS_cell_13 : decode b_FS_cell 13 = .ok (.iload_n 1, 1) := by decide +kernel
theorem d_FS_cell_14 : decode b_FS_cell 14 = .ok (.iadd, 1) := by decide +kernel
theorem d_FS_cell_15 : decode b_FS_cell 15 = .ok (.sipush 400, 3) := by decide +kernel
theorem d_FS_cell_18 : decode b_FS_cell 18 = .ok (.irem, 1) := by decide +kernel
theorem d_FS_cell_19 : decode b_FS_cell 19 = .ok (.bipush 10, 2) := by decide +kernel
theorem d_FS_cell_21 : decode b_FS_cell 21 = .ok (.imul, 1) := by decide +kernel
theorem d_FS_cell_22 : decode b_FS_cell 22 = .ok (.iload_n 2, 1) := by decide +kernel
theorem d_FS_cell_23 : decode b_FS_cell 23 = .ok (.iadd, 1) := by decide +kernel
theorem d_FS_cell_24 : decode b_FS_cell 24 = .ok (.laload, 1) := by decide +kernel
theorem d_FS_cell_25 : decode b_FS_cell 25 = .ok (.lreturn, 1) := by decide +kernel
theorem d_FS_add_0 : decode b_FS_add 0 = .ok (.aload_n 0, 1) := by decide +kernel
theorem d_FS_add_1 : decode b_FS_add 1 = .ok (.getfield 15, 3) := by decide +kernel
theorem d_FS_add_4 : decode b_FS_add 4 = .ok (.sipush 400, 3) := by decide +kernel
theorem d_FS_add_7 : decode b_FS_add 7 = .ok (.irem, 1) := by decide +kernel
theorem d_FS_add_8 : decode b_FS_add 8 = .ok (.bipush 10, 2) := by decide +kernel
theorem d_FS_add_10 : decode b_FS_add 10 = .ok (.imul, 1) := by decide +kernel
theorem d_FS_add_11 : decode b_FS_add 11 = .ok (.istore 9, 2) := by decide +kernel
theorem d_FS_add_13 : decode b_FS_add 13 = .ok (.aload_n 0, 1) := by decide +kernel
theorem d_FS_add_14 : decode b_FS_add 14 = .ok (.getfield 11, 3) := by decide +kernel
theorem d_FS_add_17 : decode b_FS_add 17 = .ok (.iload 9, 2) := by decide +kernel
theorem d_FS_add_19 : decode b_FS_add 19 = .ok (.iload_n 1, 1) := by decide +kernel
theorem d_FS_add_20 : decode b_FS_add 20 = .ok (.i2l, 1) := by decide +kernel
theorem d_FS_add_21 : decode b_FS_add 21 = .ok (.lastore, 1) := by decide +kernel
theorem d_FS_add_22 : decode b_FS_add 22 = .ok (.aload_n 0, 1) := by decide +kernel
theorem d_FS_add_23 : decode b_FS_add 23 = .ok (.getfield 11, 3) := by decide +kernel
theorem d_FS_add_26 : decode b_FS_add 26 = .ok (.iload 9, 2) := by decide +kernel
theorem d_FS_add_28 : decode b_FS_add 28 = .ok (.iconst 1, 1) := by decide +kernel
theorem d_FS_add_29 : decode b_FS_add 29 = .ok (.iadd, 1) := by decide +kernel
theorem d_FS_add_30 : decode b_FS_add 30 = .ok (.lload_n 2, 1) := by decide +kernel
theorem d_FS_add_31 : decode b_FS_add 31 = .ok (.lastore, 1) := by decide +kernel
theorem d_FS_add_32 : decode b_FS_add 32 = .ok (.aload_n 0, 1) := by decide +kernel
theorem d_FS_add_33 : decode b_FS_add 33 = .ok (.getfield 11, 3) := by decide +kernel
theorem d_FS_add_36 : decode b_FS_add 36 = .ok (.iload 9, 2) := by decide +kernel
theorem d_FS_add_38 : decode b_FS_add 38 = .ok (.iconst 2, 1) := by decide +kernel
theorem d_FS_add_39 : decode b_FS_add 39 = .ok (.iadd, 1) := by decide +kernel
theorem d_FS_add_40 : decode b_FS_add 40 = .ok (.lload 4, 2) := by decide +kernel
theorem d_FS_add_42 : decode b_FS_add 42 = .ok (.lastore, 1) := by decide +kernel
theorem d_FS_add_43 : decode b_FS_add 43 = .ok (.aload_n 0, 1) := by decide +kernel
theorem d_FS_add_44 : decode b_FS_add 44 = .ok (.getfield 11, 3) := by decide +kernel
theorem d_FS_add_47 : decode b_FS_add 47 = .ok (.iload 9, 2) := by decide +kernel
theorem d_FS_add_49 : decode b_FS_add 49 = .ok (.iconst 3, 1) := by decide +kernel
theorem d_FS_add_50 : decode b_FS_add 50 = .ok (.iadd, 1) := by decide +kernel
theorem d_FS_add_51 : decode b_FS_add 51 = .ok (.iload 6, 2) := by decide +kernel
theorem d_FS_add_53 : decode b_FS_add 53 = .ok (.i2l, 1) := by decide +kernel
theorem d_FS_add_54 : decode b_FS_add 54 = .ok (.lastore, 1) := by decide +kernel
theorem d_FS_add_55 : decode b_FS_add 55 = .ok (.iconst 4, 1) := by decide +kernel
theorem d_FS_add_56 : decode b_FS_add 56 = .ok (.istore 10, 2) := by decide +kernel
theorem d_FS_add_58 : decode b_FS_add 58 = .ok (.iload 10, 2) := by decide +kernel
theorem d_FS_add_60 : decode b_FS_add 60 = .ok (.bipush 8, 2) := by decide +kernel
theorem d_FS_add_62 : decode b_FS_add 62 = .ok (.if_icmp .gt 26, 3) := by decide +kernel
theorem d_FS_add_65 : decode b_FS_add 65 = .ok (.aload_n 0, 1) := by decide +kernel
theorem d_FS_add_66 : decode b_FS_add 66 = .ok (.getfield 11, 3) := by decide +kernel
theorem d_FS_add_69 : decode b_FS_add 69 = .ok (.iload 9, 2) := by decide +kernel
theorem d_FS_add_71 : decode b_FS_add 71 = .ok (.iload 10, 2) := by decide +kernel
theorem d_FS_add_73 : decode b_FS_add 73 = .ok (.iadd, 1) := by decide +kernel
theorem d_FS_add_74 : decode b_FS_add 74 = .ok (.aload 8, 2) := by decide +kernel
theorem d_FS_add_76 : decode b_FS_add 76 = .ok (.iload 10, 2) := by decide +kernel
theorem d_FS_add_78 : decode b_FS_add 78 = .ok (.invokevirtual 35, 3) := by decide +kernel
theorem d_FS_add_81 : decode b_FS_add 81 = .ok (.lastore, 1) := by decide +kernel
theorem d_FS_add_82 : decode b_FS_add 82 = .ok (.iinc 10 1, 3) := by decide +kernel
theorem d_FS_add_85 : decode b_FS_add 85 = .ok (.goto (-27), 3) := by decide +kernel
theorem d_FS_add_88 : decode b_FS_add 88 = .ok (.aload_n 0, 1) := by decide +kernel
theorem d_FS_add_89 : decode b_FS_add 89 = .ok (.getfield 11, 3) := by decide +kernel
theorem d_FS_add_92 : decode b_FS_add 92 = .ok (.iload 9, 2) := by decide +kernel
theorem d_FS_add_94 : decode b_FS_add 94 = .ok (.bipush 9, 2) := by decide +kernel
theorem d_FS_add_96 : decode b_FS_add 96 = .ok (.iadd, 1) := by decide +kernel
theorem d_FS_add_97 : decode b_FS_add 97 = .ok (.iload 7, 2) := by decide +kernel
theorem d_FS_add_99 : decode b_FS_add 99 = .ok (.i2l, 1) := by decide +kernel
theorem d_FS_add_100 : decode b_FS_add 100 = .ok (.lastore, 1) := by decide +kernel
theorem d_FS_add_101 : decode b_FS_add 101 = .ok (.aload_n 0, 1) := by decide +kernel
theorem d_FS_add_102 : decode b_FS_add 102 = .ok (.dup, 1) := by decide +kernel
theorem d_FS_add_103 : decode b_FS_add 103 = .ok (.getfield 15, 3) := by decide +kernel
theorem d_FS_add_106 : decode b_FS_add 106 = .ok (.iconst 1, 1) := by decide +kernel
theorem d_FS_add_107 : decode b_FS_add 107 = .ok (.iadd, 1) := by decide +kernel
theorem d_FS_add_108 : decode b_FS_add 108 = .ok (.putfield 15, 3) := by decide +kernel
theorem d_FS_add_111 : decode b_FS_add 111 = .ok (.iload 6, 2) := by decide +kernel
theorem d_FS_add_113 : decode b_FS_add 113 = .ok (.ifCond .ne 16, 3) := by decide +kernel
theorem d_FS_add_116 : decode b_FS_add 116 = .ok (.aload_n 0, 1) := by decide +kernel
theorem d_FS_add_117 : decode b_FS_add 117 = .ok (.dup, 1) := by decide +kernel
theorem d_FS_add_118 : decode b_FS_add 118 = .ok (.getfield 19, 3) := by decide +kernel
theorem d_FS_add_121 : decode b_FS_add 121 = .ok (.iconst 1, 1) := by decide +kernel
theorem d_FS_add_122 : decode b_FS_add 122 = .ok (.iadd, 1) := by decide +kernel
theorem d_FS_add_123 : decode b_FS_add 123 = .ok (.putfield 19, 3) := by decide +kernel
theorem d_FS_add_126 : decode b_FS_add 126 = .ok (.goto 19, 3) := by decide +kernel
theorem d_FS_add_129 : decode b_FS_add 129 = .ok (.iload 6, 2) := by decide +kernel
theorem d_FS_add_131 : decode b_FS_add 131 = .ok (.iconst 2, 1) := by decide +kernel
theorem d_FS_add_132 : decode b_FS_add 132 = .ok (.if_icmp .ne 13, 3) := by decide +kernel
theorem d_FS_add_135 : decode b_FS_add 135 = .ok (.aload_n 0, 1) := by decide +kernel
theorem d_FS_add_136 : decode b_FS_add 136 = .ok (.dup, 1) := by decide +kernel
theorem d_FS_add_137 : decode b_FS_add 137 = .ok (.getfield 22, 3) := by decide +kernel
theorem d_FS_add_140 : decode b_FS_add 140 = .ok (.iconst 1, 1) := by decide +kernel
theorem d_FS_add_141 : decode b_FS_add 141 = .ok (.iadd, 1) := by decide +kernel
theorem d_FS_add_142 : decode b_FS_add 142 = .ok (.putfield 22, 3) := by decide +kernel
theorem d_FS_add_145 : decode b_FS_add 145 = .ok (.return_, 1) := by decide +kernel
theorem d_FB_has_0 : decode b_FB_has 0 = .ok (.iconst 0, 1) := by decide +kernel
theorem d_FB_has_1 : decode b_FB_has 1 = .ok (.istore 4, 2) := by decide +kernel
theorem d_FB_has_3 : decode b_FB_has 3 = .ok (.iload 4, 2) := by decide +kernel
theorem d_FB_has_5 : decode b_FB_has 5 = .ok (.aload_n 0, 1) := by decide +kernel
theorem d_FB_has_6 : decode b_FB_has 6 = .ok (.getfield 15, 3) := by decide +kernel
theorem d_FB_has_9 : decode b_FB_has 9 = .ok (.iload_n 1, 1) := by decide +kernel
theorem d_FB_has_10 : decode b_FB_has 10 = .ok (.iaload, 1) := by decide +kernel
theorem d_FB_has_11 : decode b_FB_has 11 = .ok (.if_icmp .ge 28, 3) := by decide +kernel
theorem d_FB_has_14 : decode b_FB_has 14 = .ok (.aload_n 0, 1) := by decide +kernel
theorem d_FB_has_15 : decode b_FB_has 15 = .ok (.getfield 9, 3) := by decide +kernel
theorem d_FB_has_18 : decode b_FB_has 18 = .ok (.iload_n 1, 1) := by decide +kernel
theorem d_FB_has_19 : decode b_FB_has 19 = .ok (.bipush 8, 2) := by decide +kernel
theorem d_FB_has_21 : decode b_FB_has 21 = .ok (.imul, 1) := by decide +kernel
theorem d_FB_has_22 : decode b_FB_has 22 = .ok (.iload 4, 2) := by decide +kernel
theorem d_FB_has_24 : decode b_FB_has 24 = .ok (.iadd, 1) := by decide +kernel
theorem d_FB_has_25 : decode b_FB_has 25 = .ok (.laload, 1) := by decide +kernel
theorem d_FB_has_26 : decode b_FB_has 26 = .ok (.lload_n 2, 1) := by decide +kernel
theorem d_FB_has_27 : decode b_FB_has 27 = .ok (.lcmp, 1) := by decide +kernel
theorem d_FB_has_28 : decode b_FB_has 28 = .ok (.ifCond .ne 5, 3) := by decide +kernel
theorem d_FB_has_31 : decode b_FB_has 31 = .ok (.iconst 1, 1) := by decide +kernel
theorem d_FB_has_32 : decode b_FB_has 32 = .ok (.ireturn, 1) := by decide +kernel
theorem d_FB_has_33 : decode b_FB_has 33 = .ok (.iinc 4 1, 3) := by decide +kernel
theorem d_FB_has_36 : decode b_FB_has 36 = .ok (.goto (-33), 3) := by decide +kernel
theorem d_FB_has_39 : decode b_FB_has 39 = .ok (.iconst 0, 1) := by decide +kernel
theorem d_FB_has_40 : decode b_FB_has 40 = .ok (.ireturn, 1) := by decide +kernel
theorem d_FB_add_0 : decode b_FB_add 0 = .ok (.aload_n 0, 1) := by decide +kernel
theorem d_FB_add_1 : decode b_FB_add 1 = .ok (.iload_n 1, 1) := by decide +kernel
theorem d_FB_add_2 : decode b_FB_add 2 = .ok (.lload_n 2, 1) := by decide +kernel
theorem d_FB_add_3 : decode b_FB_add 3 = .ok (.invokevirtual 19, 3) := by decide +kernel
theorem d_FB_add_6 : decode b_FB_add 6 = .ok (.ifCond .eq 10, 3) := by decide +kernel
theorem d_FB_add_9 : decode b_FB_add 9 = .ok (.aload_n 0, 1) := by decide +kernel
theorem d_FB_add_10 : decode b_FB_add 10 = .ok (.getfield 15, 3) := by decide +kernel
theorem d_FB_add_13 : decode b_FB_add 13 = .ok (.iload_n 1, 1) := by decide +kernel
theorem d_FB_add_14 : decode b_FB_add 14 = .ok (.iaload, 1) := by decide +kernel
theorem d_FB_add_15 : decode b_FB_add 15 = .ok (.ireturn, 1) := by decide +kernel
theorem d_FB_add_16 : decode b_FB_add 16 = .ok (.aload_n 0, 1) := by decide +kernel
theorem d_FB_add_17 : decode b_FB_add 17 = .ok (.getfield 15, 3) := by decide +kernel
theorem d_FB_add_20 : decode b_FB_add 20 = .ok (.iload_n 1, 1) := by decide +kernel
theorem d_FB_add_21 : decode b_FB_add 21 = .ok (.iaload, 1) := by decide +kernel
theorem d_FB_add_22 : decode b_FB_add 22 = .ok (.bipush 8, 2) := by decide +kernel
theorem d_FB_add_24 : decode b_FB_add 24 = .ok (.if_icmp .lt 6, 3) := by decide +kernel
theorem d_FB_add_27 : decode b_FB_add 27 = .ok (.bipush (-4), 2) := by decide +kernel
theorem d_FB_add_29 : decode b_FB_add 29 = .ok (.ireturn, 1) := by decide +kernel
theorem d_FB_add_30 : decode b_FB_add 30 = .ok (.aload_n 0, 1) := by decide +kernel
theorem d_FB_add_31 : decode b_FB_add 31 = .ok (.getfield 9, 3) := by decide +kernel
theorem d_FB_add_34 : decode b_FB_add 34 = .ok (.iload_n 1, 1) := by decide +kernel
theorem d_FB_add_35 : decode b_FB_add 35 = .ok (.bipush 8, 2) := by decide +kernel
theorem d_FB_add_37 : decode b_FB_add 37 = .ok (.imul, 1) := by decide +kernel
theorem d_FB_add_38 : decode b_FB_add 38 = .ok (.aload_n 0, 1) := by decide +kernel
theorem d_FB_add_39 : decode b_FB_add 39 = .ok (.getfield 15, 3) := by decide +kernel
theorem d_FB_add_42 : decode b_FB_add 42 = .ok (.iload_n 1, 1) := by decide +kernel
theorem d_FB_add_43 : decode b_FB_add 43 = .ok (.iaload, 1) := by decide +kernel
theorem d_FB_add_44 : decode b_FB_add 44 = .ok (.iadd, 1) := by decide +kernel
theorem d_FB_add_45 : decode b_FB_add 45 = .ok (.lload_n 2, 1) := by decide +kernel
theorem d_FB_add_46 : decode b_FB_add 46 = .ok (.lastore, 1) := by decide +kernel
theorem d_FB_add_47 : decode b_FB_add 47 = .ok (.aload_n 0, 1) := by decide +kernel
theorem d_FB_add_48 : decode b_FB_add 48 = .ok (.getfield 15, 3) := by decide +kernel
theorem d_FB_add_51 : decode b_FB_add 51 = .ok (.iload_n 1, 1) := by decide +kernel
theorem d_FB_add_52 : decode b_FB_add 52 = .ok (.dup2, 1) := by decide +kernel
theorem d_FB_add_53 : decode b_FB_add 53 = .ok (.iaload, 1) := by decide +kernel
theorem d_FB_add_54 : decode b_FB_add 54 = .ok (.iconst 1, 1) := by decide +kernel
theorem d_FB_add_55 : decode b_FB_add 55 = .ok (.iadd, 1) := by decide +kernel
theorem d_FB_add_56 : decode b_FB_add 56 = .ok (.iastore, 1) := by decide +kernel
theorem d_FB_add_57 : decode b_FB_add 57 = .ok (.aload_n 0, 1) := by decide +kernel
theorem d_FB_add_58 : decode b_FB_add 58 = .ok (.getfield 15, 3) := by decide +kernel
theorem d_FB_add_61 : decode b_FB_add 61 = .ok (.iload_n 1, 1) := by decide +kernel
theorem d_FB_add_62 : decode b_FB_add 62 = .ok (.iaload, 1) := by decide +kernel
theorem d_FB_add_63 : decode b_FB_add 63 = .ok (.ireturn, 1) := by decide +kernel
theorem d_SR_isWithin_0 : decode b_SR_isWithin 0 = .ok (.lload_n 0, 1) := by decide +kernel
theorem d_SR_isWithin_1 : decode b_SR_isWithin 1 = .ok (.lload_n 2, 1) := by decide +kernel
theorem d_SR_isWithin_2 : decode b_SR_isWithin 2 = .ok (.lcmp, 1) := by decide +kernel
theorem d_SR_isWithin_3 : decode b_SR_isWithin 3 = .ok (.ifCond .lt 14, 3) := by decide +kernel
theorem d_SR_isWithin_6 : decode b_SR_isWithin 6 = .ok (.lload_n 0, 1) := by decide +kernel
theorem d_SR_isWithin_7 : decode b_SR_isWithin 7 = .ok (.lload 4, 2) := by decide +kernel
theorem d_SR_isWithin_9 : decode b_SR_isWithin 9 = .ok (.lcmp, 1) := by decide +kernel
theorem d_SR_isWithin_10 : decode b_SR_isWithin 10 = .ok (.ifCond .gt 7, 3) := by decide +kernel
theorem d_SR_isWithin_13 : decode b_SR_isWithin 13 = .ok (.iconst 1, 1) := by decide +kernel
theorem d_SR_isWithin_14 : decode b_SR_isWithin 14 = .ok (.goto 4, 3) := by decide +kernel
theorem d_SR_isWithin_17 : decode b_SR_isWithin 17 = .ok (.iconst 0, 1) := by decide +kernel
theorem d_SR_isWithin_18 : decode b_SR_isWithin 18 = .ok (.ireturn, 1) := by decide +kernel
theorem d_SR_offset_0 : decode b_SR_offset 0 = .ok (.lload_n 1, 1) := by decide +kernel
theorem d_SR_offset_1 : decode b_SR_offset 1 = .ok (.ldc2_w 91, 3) := by decide +kernel
theorem d_SR_offset_4 : decode b_SR_offset 4 = .ok (.ldc2_w 93, 3) := by decide +kernel
theorem d_SR_offset_7 : decode b_SR_offset 7 = .ok (.invokestatic 95, 3) := by decide +kernel
theorem d_SR_offset_10 : decode b_SR_offset 10 = .ok (.ifCond .ne 6, 3) := by decide +kernel
theorem d_SR_offset_13 : decode b_SR_offset 13 = .ok (.bipush (-2), 2) := by decide +kernel
theorem d_SR_offset_15 : decode b_SR_offset 15 = .ok (.ireturn, 1) := by decide +kernel
theorem d_SR_offset_16 : decode b_SR_offset 16 = .ok (.aload_n 0, 1) := by decide +kernel
theorem d_SR_offset_17 : decode b_SR_offset 17 = .ok (.getfield 71, 3) := by decide +kernel
theorem d_SR_offset_20 : decode b_SR_offset 20 = .ok (.ifCond .le 6, 3) := by decide +kernel
theorem d_SR_offset_23 : decode b_SR_offset 23 = .ok (.bipush (-3), 2) := by decide +kernel
theorem d_SR_offset_25 : decode b_SR_offset 25 = .ok (.ireturn, 1) := by decide +kernel
theorem d_SR_offset_26 : decode b_SR_offset 26 = .ok (.aload_n 0, 1) := by decide +kernel
theorem d_SR_offset_27 : decode b_SR_offset 27 = .ok (.getfield 87, 3) := by decide +kernel
theorem d_SR_offset_30 : decode b_SR_offset 30 = .ok (.lload_n 1, 1) := by decide +kernel
theorem d_SR_offset_31 : decode b_SR_offset 31 = .ok (.putfield 99, 3) := by decide +kernel
theorem d_SR_offset_34 : decode b_SR_offset 34 = .ok (.iconst 1, 1) := by decide +kernel
theorem d_SR_offset_35 : decode b_SR_offset 35 = .ok (.ireturn, 1) := by decide +kernel
theorem d_SR_lateness_0 : decode b_SR_lateness 0 = .ok (.lload_n 1, 1) := by decide +kernel
theorem d_SR_lateness_1 : decode b_SR_lateness 1 = .ok (.lconst 0, 1) := by decide +kernel
theorem d_SR_lateness_2 : decode b_SR_lateness 2 = .ok (.ldc2_w 93, 3) := by decide +kernel
theorem d_SR_lateness_5 : decode b_SR_lateness 5 = .ok (.invokestatic 95, 3) := by decide +kernel
theorem d_SR_lateness_8 : decode b_SR_lateness 8 = .ok (.ifCond .ne 6, 3) := by decide +kernel
theorem d_SR_lateness_11 : decode b_SR_lateness 11 = .ok (.bipush (-2), 2) := by decide +kernel
theorem d_SR_lateness_13 : decode b_SR_lateness 13 = .ok (.ireturn, 1) := by decide +kernel
theorem d_SR_lateness_14 : decode b_SR_lateness 14 = .ok (.aload_n 0, 1) := by decide +kernel
theorem d_SR_lateness_15 : decode b_SR_lateness 15 = .ok (.getfield 71, 3) := by decide +kernel
theorem d_SR_lateness_18 : decode b_SR_lateness 18 = .ok (.ifCond .gt 14, 3) := by decide +kernel
theorem d_SR_lateness_21 : decode b_SR_lateness 21 = .ok (.aload_n 0, 1) := by decide +kernel
theorem d_SR_lateness_22 : decode b_SR_lateness 22 = .ok (.getfield 87, 3) := by decide +kernel
theorem d_SR_lateness_25 : decode b_SR_lateness 25 = .ok (.getfield 102, 3) := by decide +kernel
theorem d_SR_lateness_28 : decode b_SR_lateness 28 = .ok (.iconst 3, 1) := by decide +kernel
theorem d_SR_lateness_29 : decode b_SR_lateness 29 = .ok (.if_icmp .ne 6, 3) := by decide +kernel
theorem d_SR_lateness_32 : decode b_SR_lateness 32 = .ok (.bipush (-3), 2) := by decide +kernel
theorem d_SR_lateness_34 : decode b_SR_lateness 34 = .ok (.ireturn, 1) := by decide +kernel
theorem d_SR_lateness_35 : decode b_SR_lateness 35 = .ok (.aload_n 0, 1) := by decide +kernel
theorem d_SR_lateness_36 : decode b_SR_lateness 36 = .ok (.lload_n 1, 1) := by decide +kernel
theorem d_SR_lateness_37 : decode b_SR_lateness 37 = .ok (.putfield 51, 3) := by decide +kernel
theorem d_SR_lateness_40 : decode b_SR_lateness 40 = .ok (.iconst 1, 1) := by decide +kernel
theorem d_SR_lateness_41 : decode b_SR_lateness 41 = .ok (.ireturn, 1) := by decide +kernel
theorem d_SR_trigger_0 : decode b_SR_trigger 0 = .ok (.iload_n 1, 1) := by decide +kernel
theorem d_SR_trigger_1 : decode b_SR_trigger 1 = .ok (.i2l, 1) := by decide +kernel
theorem d_SR_trigger_2 : decode b_SR_trigger 2 = .ok (.lconst 0, 1) := by decide +kernel
theorem d_SR_trigger_3 : decode b_SR_trigger 3 = .ok (.ldc2_w 105, 3) := by decide +kernel
theorem d_SR_trigger_6 : decode b_SR_trigger 6 = .ok (.invokestatic 95, 3) := by decide +kernel
theorem d_SR_trigger_9 : decode b_SR_trigger 9 = .ok (.ifCond .ne 6, 3) := by decide +kernel
theorem d_SR_trigger_12 : decode b_SR_trigger 12 = .ok (.bipush (-2), 2) := by decide +kernel
theorem d_SR_trigger_14 : decode b_SR_trigger 14 = .ok (.ireturn, 1) := by decide +kernel
theorem d_SR_trigger_15 : decode b_SR_trigger 15 = .ok (.aload_n 0, 1) := by decide +kernel
theorem d_SR_trigger_16 : decode b_SR_trigger 16 = .ok (.getfield 87, 3) := by decide +kernel
theorem d_SR_trigger_19 : decode b_SR_trigger 19 = .ok (.getfield 102, 3) := by decide +kernel
theorem d_SR_trigger_22 : decode b_SR_trigger 22 = .ok (.iconst 3, 1) := by decide +kernel
theorem d_SR_trigger_23 : decode b_SR_trigger 23 = .ok (.if_icmp .ne 6, 3) := by decide +kernel
theorem d_SR_trigger_26 : decode b_SR_trigger 26 = .ok (.bipush (-3), 2) := by decide +kernel
theorem d_SR_trigger_28 : decode b_SR_trigger 28 = .ok (.ireturn, 1) := by decide +kernel
theorem d_SR_trigger_29 : decode b_SR_trigger 29 = .ok (.aload_n 0, 1) := by decide +kernel
theorem d_SR_trigger_30 : decode b_SR_trigger 30 = .ok (.iload_n 1, 1) := by decide +kernel
theorem d_SR_trigger_31 : decode b_SR_trigger 31 = .ok (.putfield 60, 3) := by decide +kernel
theorem d_SR_trigger_34 : decode b_SR_trigger 34 = .ok (.aload_n 0, 1) := by decide +kernel
theorem d_SR_trigger_35 : decode b_SR_trigger 35 = .ok (.iload_n 2, 1) := by decide +kernel
theorem d_SR_trigger_36 : decode b_SR_trigger 36 = .ok (.putfield 64, 3) := by decide +kernel
theorem d_SR_trigger_39 : decode b_SR_trigger 39 = .ok (.iconst 1, 1) := by decide +kernel
theorem d_SR_trigger_40 : decode b_SR_trigger 40 = .ok (.ireturn, 1) := by decide +kernel
theorem d_SR_clears_0 : decode b_SR_clears 0 = .ok (.aload_n 0, 1) := by decide +kernel
theorem d_SR_clears_1 : decode b_SR_clears 1 = .ok (.getfield 87, 3) := by decide +kernel
theorem d_SR_clears_4 : decode b_SR_clears 4 = .ok (.getfield 102, 3) := by decide +kernel
theorem d_SR_clears_7 : decode b_SR_clears 7 = .ok (.iconst 3, 1) := by decide +kernel
theorem d_SR_clears_8 : decode b_SR_clears 8 = .ok (.if_icmp .ne 6, 3) := by decide +kernel
theorem d_SR_clears_11 : decode b_SR_clears 11 = .ok (.bipush (-3), 2) := by decide +kernel
theorem d_SR_clears_13 : decode b_SR_clears 13 = .ok (.ireturn, 1) := by decide +kernel
theorem d_SR_clears_14 : decode b_SR_clears 14 = .ok (.aload_n 0, 1) := by decide +kernel
theorem d_SR_clears_15 : decode b_SR_clears 15 = .ok (.getfield 68, 3) := by decide +kernel
theorem d_SR_clears_18 : decode b_SR_clears 18 = .ok (.iload_n 1, 1) := by decide +kernel
theorem d_SR_clears_19 : decode b_SR_clears 19 = .ok (.if_icmp .ne 5, 3) := by decide +kernel
theorem d_SR_clears_22 : decode b_SR_clears 22 = .ok (.iconst 0, 1) := by decide +kernel
theorem d_SR_clears_23 : decode b_SR_clears 23 = .ok (.ireturn, 1) := by decide +kernel
theorem d_SR_clears_24 : decode b_SR_clears 24 = .ok (.aload_n 0, 1) := by decide +kernel
theorem d_SR_clears_25 : decode b_SR_clears 25 = .ok (.iload_n 1, 1) := by decide +kernel
theorem d_SR_clears_26 : decode b_SR_clears 26 = .ok (.putfield 68, 3) := by decide +kernel
theorem d_SR_clears_29 : decode b_SR_clears 29 = .ok (.iconst 1, 1) := by decide +kernel
theorem d_SR_clears_30 : decode b_SR_clears 30 = .ok (.ireturn, 1) := by decide +kernel
theorem d_SR_rule_0 : decode b_SR_rule 0 = .ok (.iload_n 1, 1) := by decide +kernel
theorem d_SR_rule_1 : decode b_SR_rule 1 = .ok (.i2l, 1) := by decide +kernel
theorem d_SR_rule_2 : decode b_SR_rule 2 = .ok (.lconst 0, 1) := by decide +kernel
theorem d_SR_rule_3 : decode b_SR_rule 3 = .ok (.ldc2_w 107, 3) := by decide +kernel
theorem d_SR_rule_6 : decode b_SR_rule 6 = .ok (.invokestatic 95, 3) := by decide +kernel
theorem d_SR_rule_9 : decode b_SR_rule 9 = .ok (.ifCond .ne 6, 3) := by decide +kernel
theorem d_SR_rule_12 : decode b_SR_rule 12 = .ok (.bipush (-2), 2) := by decide +kernel
theorem d_SR_rule_14 : decode b_SR_rule 14 = .ok (.ireturn, 1) := by decide +kernel
theorem d_SR_rule_15 : decode b_SR_rule 15 = .ok (.aload_n 0, 1) := by decide +kernel
theorem d_SR_rule_16 : decode b_SR_rule 16 = .ok (.getfield 87, 3) := by decide +kernel
theorem d_SR_rule_19 : decode b_SR_rule 19 = .ok (.getfield 102, 3) := by decide +kernel
theorem d_SR_rule_22 : decode b_SR_rule 22 = .ok (.iconst 5, 1) := by decide +kernel
theorem d_SR_rule_23 : decode b_SR_rule 23 = .ok (.if_icmp .eq 6, 3) := by decide +kernel
theorem d_SR_rule_26 : decode b_SR_rule 26 = .ok (.bipush (-3), 2) := by decide +kernel
theorem d_SR_rule_28 : decode b_SR_rule 28 = .ok (.ireturn, 1) := by decide +kernel
theorem d_SR_rule_29 : decode b_SR_rule 29 = .ok (.aload_n 0, 1) := by decide +kernel
theorem d_SR_rule_30 : decode b_SR_rule 30 = .ok (.getfield 87, 3) := by decide +kernel
theorem d_SR_rule_33 : decode b_SR_rule 33 = .ok (.getfield 109, 3) := by decide +kernel
theorem d_SR_rule_36 : decode b_SR_rule 36 = .ok (.istore_n 2, 1) := by decide +kernel
theorem d_SR_rule_37 : decode b_SR_rule 37 = .ok (.aload_n 0, 1) := by decide +kernel
theorem d_SR_rule_38 : decode b_SR_rule 38 = .ok (.getfield 87, 3) := by decide +kernel
theorem d_SR_rule_41 : decode b_SR_rule 41 = .ok (.iload_n 1, 1) := by decide +kernel
theorem d_SR_rule_42 : decode b_SR_rule 42 = .ok (.putfield 109, 3) := by decide +kernel
theorem d_SR_rule_45 : decode b_SR_rule 45 = .ok (.iload_n 2, 1) := by decide +kernel
theorem d_SR_rule_46 : decode b_SR_rule 46 = .ok (.ireturn, 1) := by decide +kernel
theorem d_SR_forbid_0 : decode b_SR_forbid 0 = .ok (.iload_n 1, 1) := by decide +kernel
theorem d_SR_forbid_1 : decode b_SR_forbid 1 = .ok (.i2l, 1) := by decide +kernel
theorem d_SR_forbid_2 : decode b_SR_forbid 2 = .ok (.lconst 0, 1) := by decide +kernel
theorem d_SR_forbid_3 : decode b_SR_forbid 3 = .ok (.ldc2_w 107, 3) := by decide +kernel
theorem d_SR_forbid_6 : decode b_SR_forbid 6 = .ok (.invokestatic 95, 3) := by decide +kernel
theorem d_SR_forbid_9 : decode b_SR_forbid 9 = .ok (.ifCond .ne 6, 3) := by decide +kernel
theorem d_SR_forbid_12 : decode b_SR_forbid 12 = .ok (.bipush (-2), 2) := by decide +kernel
theorem d_SR_forbid_14 : decode b_SR_forbid 14 = .ok (.ireturn, 1) := by decide +kernel
theorem d_SR_forbid_15 : decode b_SR_forbid 15 = .ok (.aload_n 0, 1) := by decide +kernel
theorem d_SR_forbid_16 : decode b_SR_forbid 16 = .ok (.getfield 87, 3) := by decide +kernel
theorem d_SR_forbid_19 : decode b_SR_forbid 19 = .ok (.getfield 102, 3) := by decide +kernel
theorem d_SR_forbid_22 : decode b_SR_forbid 22 = .ok (.iconst 5, 1) := by decide +kernel
theorem d_SR_forbid_23 : decode b_SR_forbid 23 = .ok (.if_icmp .eq 6, 3) := by decide +kernel
theorem d_SR_forbid_26 : decode b_SR_forbid 26 = .ok (.bipush (-3), 2) := by decide +kernel
theorem d_SR_forbid_28 : decode b_SR_forbid 28 = .ok (.ireturn, 1) := by decide +kernel
theorem d_SR_forbid_29 : decode b_SR_forbid 29 = .ok (.aload_n 0, 1) := by decide +kernel
theorem d_SR_forbid_30 : decode b_SR_forbid 30 = .ok (.getfield 10, 3) := by decide +kernel
theorem d_SR_forbid_33 : decode b_SR_forbid 33 = .ok (.iload_n 1, 1) := by decide +kernel
theorem d_SR_forbid_34 : decode b_SR_forbid 34 = .ok (.lload_n 2, 1) := by decide +kernel
theorem d_SR_forbid_35 : decode b_SR_forbid 35 = .ok (.invokevirtual 112, 3) := by decide +kernel
theorem d_SR_forbid_38 : decode b_SR_forbid 38 = .ok (.ireturn, 1) := by decide +kernel
theorem d_SR_isNumbered_0 : decode b_SR_isNumbered 0 = .ok (.aload_n 0, 1) := by decide +kernel
theorem d_SR_isNumbered_1 : decode b_SR_isNumbered 1 = .ok (.getfield 19, 3) := by decide +kernel
theorem d_SR_isNumbered_4 : decode b_SR_isNumbered 4 = .ok (.getfield 355, 3) := by decide +kernel
theorem d_SR_isNumbered_7 : decode b_SR_isNumbered 7 = .ok (.iload_n 1, 1) := by decide +kernel
theorem d_SR_isNumbered_8 : decode b_SR_isNumbered 8 = .ok (.iaload, 1) := by decide +kernel
theorem d_SR_isNumbered_9 : decode b_SR_isNumbered 9 = .ok (.iconst (-1), 1) := by decide +kernel
theorem d_SR_isNumbered_10 : decode b_SR_isNumbered 10 = .ok (.if_icmp .eq 7, 3) := by decide +kernel
theorem d_SR_isNumbered_13 : decode b_SR_isNumbered 13 = .ok (.iconst 1, 1) := by decide +kernel
theorem d_SR_isNumbered_14 : decode b_SR_isNumbered 14 = .ok (.goto 4, 3) := by decide +kernel
theorem d_SR_isNumbered_17 : decode b_SR_isNumbered 17 = .ok (.iconst 0, 1) := by decide +kernel
theorem d_SR_isNumbered_18 : decode b_SR_isNumbered 18 = .ok (.ireturn, 1) := by decide +kernel
theorem d_SR_numberRows_0 : decode b_SR_numberRows 0 = .ok (.iconst 0, 1) := by decide +kernel
theorem d_SR_numberRows_1 : decode b_SR_numberRows 1 = .ok (.istore_n 1, 1) := by decide +kernel
theorem d_SR_numberRows_2 : decode b_SR_numberRows 2 = .ok (.iload_n 1, 1) := by decide +kernel
theorem d_SR_numberRows_3 : decode b_SR_numberRows 3 = .ok (.aload_n 0, 1) := by decide +kernel
theorem d_SR_numberRows_4 : decode b_SR_numberRows 4 = .ok (.getfield 19, 3) := by decide +kernel
theorem d_SR_numberRows_7 : decode b_SR_numberRows 7 = .ok (.getfield 154, 3) := by decide +kernel
theorem d_SR_numberRows_10 : decode b_SR_numberRows 10 = .ok (.if_icmp .ge 75, 3) := by decide +kernel
theorem d_SR_numberRows_13 : decode b_SR_numberRows 13 = .ok (.aload_n 0, 1) := by decide +kernel
theorem d_SR_numberRows_14 : decode b_SR_numberRows 14 = .ok (.getfield 19, 3) := by decide +kernel
theorem d_SR_numberRows_17 : decode b_SR_numberRows 17 = .ok (.getfield 309, 3) := by decide +kernel
theorem d_SR_numberRows_20 : decode b_SR_numberRows 20 = .ok (.iload_n 1, 1) := by decide +kernel
theorem d_SR_numberRows_21 : decode b_SR_numberRows 21 = .ok (.iaload, 1) := by decide +kernel
theorem d_SR_numberRows_22 : decode b_SR_numberRows 22 = .ok (.istore_n 2, 1) := by decide +kernel
theorem d_SR_numberRows_23 : decode b_SR_numberRows 23 = .ok (.aload_n 0, 1) := by decide +kernel
theorem d_SR_numberRows_24 : decode b_SR_numberRows 24 = .ok (.iload_n 2, 1) := by decide +kernel
theorem d_SR_numberRows_25 : decode b_SR_numberRows 25 = .ok (.invokevirtual 349, 3) := by decide +kernel
theorem d_SR_numberRows_28 : decode b_SR_numberRows 28 = .ok (.ifCond .ne 51, 3) := by decide +kernel
theorem d_SR_numberRows_31 : decode b_SR_numberRows 31 = .ok (.aload_n 0, 1) := by decide +kernel
theorem d_SR_numberRows_32 : decode b_SR_numberRows 32 = .ok (.getfield 19, 3) := by decide +kernel
theorem d_SR_numberRows_35 : decode b_SR_numberRows 35 = .ok (.getfield 365, 3) := by decide +kernel
theorem d_SR_numberRows_38 : decode b_SR_numberRows 38 = .ok (.iload_n 2, 1) := by decide +kernel
theorem d_SR_numberRows_39 : decode b_SR_numberRows 39 = .ok (.laload, 1) := by decide +kernel
theorem d_SR_numberRows_40 : decode b_SR_numberRows 40 = .ok (.aload_n 0, 1) := by decide +kernel
theorem d_SR_numberRows_41 : decode b_SR_numberRows 41 = .ok (.getfield 57, 3) := by decide +kernel
theorem d_SR_numberRows_44 : decode b_SR_numberRows 44 = .ok (.lcmp, 1) := by decide +kernel
theorem d_SR_numberRows_45 : decode b_SR_numberRows 45 = .ok (.ifCond .ge 34, 3) := by decide +kernel
theorem d_SR_numberRows_48 : decode b_SR_numberRows 48 = .ok (.aload_n 0, 1) := by decide +kernel
theorem d_SR_numberRows_49 : decode b_SR_numberRows 49 = .ok (.getfield 19, 3) := by decide +kernel
theorem d_SR_numberRows_52 : decode b_SR_numberRows 52 = .ok (.getfield 355, 3) := by decide +kernel
theorem d_SR_numberRows_55 : decode b_SR_numberRows 55 = .ok (.iload_n 2, 1) := by decide +kernel
theorem d_SR_numberRows_56 : decode b_SR_numberRows 56 = .ok (.aload_n 0, 1) := by decide +kernel
theorem d_SR_numberRows_57 : decode b_SR_numberRows 57 = .ok (.getfield 33, 3) := by decide +kernel
theorem d_SR_numberRows_60 : decode b_SR_numberRows 60 = .ok (.getfield 179, 3) := by decide +kernel
theorem d_SR_numberRows_63 : decode b_SR_numberRows 63 = .ok (.aload_n 0, 1) := by decide +kernel
theorem d_SR_numberRows_64 : decode b_SR_numberRows 64 = .ok (.getfield 19, 3) := by decide +kernel
theorem d_SR_numberRows_67 : decode b_SR_numberRows 67 = .ok (.getfield 364, 3) := by decide +kernel
theorem d_SR_numberRows_70 : decode b_SR_numberRows 70 = .ok (.iload_n 2, 1) := by decide +kernel
theorem d_SR_numberRows_71 : decode b_SR_numberRows 71 = .ok (.iaload, 1) := by decide +kernel
theorem d_SR_numberRows_72 : decode b_SR_numberRows 72 = .ok (.dup2, 1) := by decide +kernel
theorem d_SR_numberRows_73 : decode b_SR_numberRows 73 = .ok (.iaload, 1) := by decide +kernel
theorem d_SR_numberRows_74 : decode b_SR_numberRows 74 = .ok (.dup_x2, 1) := by decide +kernel
theorem d_SR_numberRows_75 : decode b_SR_numberRows 75 = .ok (.iconst 1, 1) := by decide +kernel
theorem d_SR_numberRows_76 : decode b_SR_numberRows 76 = .ok (.iadd, 1) := by decide +kernel
theorem d_SR_numberRows_77 : decode b_SR_numberRows 77 = .ok (.iastore, 1) := by decide +kernel
theorem d_SR_numberRows_78 : decode b_SR_numberRows 78 = .ok (.iastore, 1) := by decide +kernel
theorem d_SR_numberRows_79 : decode b_SR_numberRows 79 = .ok (.iinc 1 1, 3) := by decide +kernel
theorem d_SR_numberRows_82 : decode b_SR_numberRows 82 = .ok (.goto (-80), 3) := by decide +kernel
theorem d_SR_numberRows_85 : decode b_SR_numberRows 85 = .ok (.return_, 1) := by decide +kernel
theorem d_SR_gatherCounted_0 : decode b_SR_gatherCounted 0 = .ok (.aload_n 0, 1) := by decide +kernel
theorem d_SR_gatherCounted_1 : decode b_SR_gatherCounted 1 = .ok (.getfield 47, 3) := by decide +kernel
theorem d_SR_gatherCounted_4 : decode b_SR_gatherCounted 4 = .ok (.invokevirtual 306, 3) := by decide +kernel
theorem d_SR_gatherCounted_7 : decode b_SR_gatherCounted 7 = .ok (.iconst 0, 1) := by decide +kernel
theorem d_SR_gatherCounted_8 : decode b_SR_gatherCounted 8 = .ok (.istore 4, 2) := by decide +kernel
theorem d_SR_gatherCounted_10 : decode b_SR_gatherCounted 10 = .ok (.iload 4, 2) := by decide +kernel
theorem d_SR_gatherCounted_12 : decode b_SR_gatherCounted 12 = .ok (.aload_n 0, 1) := by decide +kernel
theorem d_SR_gatherCounted_13 : decode b_SR_gatherCounted 13 = .ok (.getfield 19, 3) := by decide +kernel
theorem d_SR_gatherCounted_16 : decode b_SR_gatherCounted 16 = .ok (.getfield 154, 3) := by decide +kernel
theorem d_SR_gatherCounted_19 : decode b_SR_gatherCounted 19 = .ok (.if_icmp .ge 81, 3) := by decide +kernel
theorem d_SR_gatherCounted_22 : decode b_SR_gatherCounted 22 = .ok (.aload_n 0, 1) := by decide +kernel
theorem d_SR_gatherCounted_23 : decode b_SR_gatherCounted 23 = .ok (.getfield 19, 3) := by decide +kernel
theorem d_SR_gatherCounted_26 : decode b_SR_gatherCounted 26 = .ok (.getfield 309, 3) := by decide +kernel
theorem d_SR_gatherCounted_29 : decode b_SR_gatherCounted 29 = .ok (.iload 4, 2) := by decide +kernel
theorem d_SR_gatherCounted_31 : decode b_SR_gatherCounted 31 = .ok (.iaload, 1) := by decide +kernel
theorem d_SR_gatherCounted_32 : decode b_SR_gatherCounted 32 = .ok (.istore 5, 2) := by decide +kernel
theorem d_SR_gatherCounted_34 : decode b_SR_gatherCounted 34 = .ok (.aload_n 0, 1) := by decide +kernel
theorem d_SR_gatherCounted_35 : decode b_SR_gatherCounted 35 = .ok (.getfield 19, 3) := by decide +kernel
theorem d_SR_gatherCounted_38 : decode b_SR_gatherCounted 38 = .ok (.getfield 364, 3) := by decide +kernel
theorem d_SR_gatherCounted_41 : decode b_SR_gatherCounted 41 = .ok (.iload 5, 2) := by decide +kernel
theorem d_SR_gatherCounted_43 : decode b_SR_gatherCounted 43 = .ok (.iaload, 1) := by decide +kernel
theorem d_SR_gatherCounted_44 : decode b_SR_gatherCounted 44 = .ok (.iload_n 1, 1) := by decide +kernel
theorem d_SR_gatherCounted_45 : decode b_SR_gatherCounted 45 = .ok (.if_icmp .ne 49, 3) := by decide +kernel
theorem d_SR_gatherCounted_48 : decode b_SR_gatherCounted 48 = .ok (.aload_n 0, 1) := by decide +kernel
theorem d_SR_gatherCounted_49 : decode b_SR_gatherCounted 49 = .ok (.getfield 19, 3) := by decide +kernel
theorem d_SR_gatherCounted_52 : decode b_SR_gatherCounted 52 = .ok (.getfield 355, 3) := by decide +kernel
theorem d_SR_gatherCounted_55 : decode b_SR_gatherCounted 55 = .ok (.iload 5, 2) := by decide +kernel
theorem d_SR_gatherCounted_57 : decode b_SR_gatherCounted 57 = .ok (.iaload, 1) := by decide +kernel
theorem d_SR_gatherCounted_58 : decode b_SR_gatherCounted 58 = .ok (.i2l, 1) := by decide +kernel
theorem d_SR_gatherCounted_59 : decode b_SR_gatherCounted 59 = .ok (.lload_n 2, 1) := by decide +kernel
theorem d_SR_gatherCounted_60 : decode b_SR_gatherCounted 60 = .ok (.lload_n 2, 1) := by decide +kernel
theorem d_SR_gatherCounted_61 : decode b_SR_gatherCounted 61 = .ok (.aload_n 0, 1) := by decide +kernel
theorem d_SR_gatherCounted_62 : decode b_SR_gatherCounted 62 = .ok (.getfield 87, 3) := by decide +kernel
theorem d_SR_gatherCounted_65 : decode b_SR_gatherCounted 65 = .ok (.getfield 243, 3) := by decide +kernel
theorem d_SR_gatherCounted_68 : decode b_SR_gatherCounted 68 = .ok (.ladd, 1) := by decide +kernel
theorem d_SR_gatherCounted_69 : decode b_SR_gatherCounted 69 = .ok (.lconst 1, 1) := by decide +kernel
theorem d_SR_gatherCounted_70 : decode b_SR_gatherCounted 70 = .ok (.lsub, 1) := by decide +kernel
theorem d_SR_gatherCounted_71 : decode b_SR_gatherCounted 71 = .ok (.invokestatic 95, 3) := by decide +kernel
theorem d_SR_gatherCounted_74 : decode b_SR_gatherCounted 74 = .ok (.ifCond .eq 20, 3) := by decide +kernel
theorem d_SR_gatherCounted_77 : decode b_SR_gatherCounted 77 = .ok (.aload_n 0, 1) := by decide +kernel
theorem d_SR_gatherCounted_78 : decode b_SR_gatherCounted 78 = .ok (.getfield 47, 3) := by decide +kernel
theorem d_SR_gatherCounted_81 : decode b_SR_gatherCounted 81 = .ok (.aload_n 0, 1) := by decide +kernel
theorem d_SR_gatherCounted_82 : decode b_SR_gatherCounted 82 = .ok (.getfield 19, 3) := by decide +kernel
theorem d_SR_gatherCounted_85 : decode b_SR_gatherCounted 85 = .ok (.getfield 316, 3) := by decide +kernel
theorem d_SR_gatherCounted_88 : decode b_SR_gatherCounted 88 = .ok (.iload 5, 2) := by decide +kernel
theorem d_SR_gatherCounted_90 : decode b_SR_gatherCounted 90 = .ok (.laload, 1) := by decide +kernel
theorem d_SR_gatherCounted_91 : decode b_SR_gatherCounted 91 = .ok (.invokevirtual 319, 3) := by decide +kernel
theorem d_SR_gatherCounted_94 : decode b_SR_gatherCounted 94 = .ok (.iinc 4 1, 3) := by decide +kernel
theorem d_SR_gatherCounted_97 : decode b_SR_gatherCounted 97 = .ok (.goto (-87), 3) := by decide +kernel
theorem d_SR_gatherCounted_100 : decode b_SR_gatherCounted 100 = .ok (.return_, 1) := by decide +kernel
theorem d_SR_fireCounted_0 : decode b_SR_fireCounted 0 = .ok (.iconst 0, 1) := by decide +kernel
theorem d_SR_fireCounted_1 : decode b_SR_fireCounted 1 = .ok (.istore_n 2, 1) := by decide +kernel
theorem d_SR_fireCounted_2 : decode b_SR_fireCounted 2 = .ok (.aload_n 0, 1) := by decide +kernel
theorem d_SR_fireCounted_3 : decode b_SR_fireCounted 3 = .ok (.getfield 33, 3) := by decide +kernel
theorem d_SR_fireCounted_6 : decode b_SR_fireCounted 6 = .ok (.getfield 368, 3) := by decide +kernel
theorem d_SR_fireCounted_9 : decode b_SR_fireCounted 9 = .ok (.iload_n 1, 1) := by decide +kernel
theorem d_SR_fireCounted_10 : decode b_SR_fireCounted 10 = .ok (.laload, 1) := by decide +kernel
theorem d_SR_fireCounted_11 : decode b_SR_fireCounted 11 = .ok (.lstore_n 3, 1) := by decide +kernel
theorem d_SR_fireCounted_12 : decode b_SR_fireCounted 12 = .ok (.lload_n 3, 1) := by decide +kernel
theorem d_SR_fireCounted_13 : decode b_SR_fireCounted 13 = .ok (.aload_n 0, 1) := by decide +kernel
theorem d_SR_fireCounted_14 : decode b_SR_fireCounted 14 = .ok (.getfield 87, 3) := by decide +kernel
theorem d_SR_fireCounted_17 : decode b_SR_fireCounted 17 = .ok (.getfield 243, 3) := by decide +kernel
theorem d_SR_fireCounted_20 : decode b_SR_fireCounted 20 = .ok (.ladd, 1) := by decide +kernel
theorem d_SR_fireCounted_21 : decode b_SR_fireCounted 21 = .ok (.aload_n 0, 1) := by decide +kernel
theorem d_SR_fireCounted_22 : decode b_SR_fireCounted 22 = .ok (.getfield 33, 3) := by decide +kernel
theorem d_SR_fireCounted_25 : decode b_SR_fireCounted 25 = .ok (.getfield 179, 3) := by decide +kernel
theorem d_SR_fireCounted_28 : decode b_SR_fireCounted 28 = .ok (.iload_n 1, 1) := by decide +kernel
theorem d_SR_fireCounted_29 : decode b_SR_fireCounted 29 = .ok (.iaload, 1) := by decide +kernel
theorem d_SR_fireCounted_30 : decode b_SR_fireCounted 30 = .ok (.i2l, 1) := by decide +kernel
theorem d_SR_fireCounted_31 : decode b_SR_fireCounted 31 = .ok (.lcmp, 1) := by decide +kernel
theorem d_SR_fireCounted_32 : decode b_SR_fireCounted 32 = .ok (.ifCond .gt 49, 3) := by decide +kernel
theorem d_SR_fireCounted_35 : decode b_SR_fireCounted 35 = .ok (.aload_n 0, 1) := by decide +kernel
theorem d_SR_fireCounted_36 : decode b_SR_fireCounted 36 = .ok (.iload_n 1, 1) := by decide +kernel
theorem d_SR_fireCounted_37 : decode b_SR_fireCounted 37 = .ok (.lload_n 3, 1) := by decide +kernel
theorem d_SR_fireCounted_38 : decode b_SR_fireCounted 38 = .ok (.invokevirtual 369, 3) := by decide +kernel
theorem d_SR_fireCounted_41 : decode b_SR_fireCounted 41 = .ok (.aload_n 0, 1) := by decide +kernel
theorem d_SR_fireCounted_42 : decode b_SR_fireCounted 42 = .ok (.getfield 40, 3) := by decide +kernel
theorem d_SR_fireCounted_45 : decode b_SR_fireCounted 45 = .ok (.iload_n 1, 1) := by decide +kernel
theorem d_SR_fireCounted_46 : decode b_SR_fireCounted 46 = .ok (.lload_n 3, 1) := by decide +kernel
theorem d_SR_fireCounted_47 : decode b_SR_fireCounted 47 = .ok (.lload_n 3, 1) := by decide +kernel
theorem d_SR_fireCounted_48 : decode b_SR_fireCounted 48 = .ok (.aload_n 0, 1) := by decide +kernel
theorem d_SR_fireCounted_49 : decode b_SR_fireCounted 49 = .ok (.getfield 87, 3) := by decide +kernel
theorem d_SR_fireCounted_52 : decode b_SR_fireCounted 52 = .ok (.getfield 243, 3) := by decide +kernel
theorem d_SR_fireCounted_55 : decode b_SR_fireCounted 55 = .ok (.ladd, 1) := by decide +kernel
theorem d_SR_fireCounted_56 : decode b_SR_fireCounted 56 = .ok (.iconst 1, 1) := by decide +kernel
theorem d_SR_fireCounted_57 : decode b_SR_fireCounted 57 = .ok (.iconst 1, 1) := by decide +kernel
theorem d_SR_fireCounted_58 : decode b_SR_fireCounted 58 = .ok (.aload_n 0, 1) := by decide +kernel
theorem d_SR_fireCounted_59 : decode b_SR_fireCounted 59 = .ok (.getfield 47, 3) := by decide +kernel
theorem d_SR_fireCounted_62 : decode b_SR_fireCounted 62 = .ok (.invokevirtual 303, 3) := by decide +kernel
theorem d_SR_fireCounted_65 : decode b_SR_fireCounted 65 = .ok (.iinc 2 1, 3) := by decide +kernel
theorem d_SR_fireCounted_68 : decode b_SR_fireCounted 68 = .ok (.lload_n 3, 1) := by decide +kernel
theorem d_SR_fireCounted_69 : decode b_SR_fireCounted 69 = .ok (.aload_n 0, 1) := by decide +kernel
theorem d_SR_fireCounted_70 : decode b_SR_fireCounted 70 = .ok (.getfield 87, 3) := by decide +kernel
theorem d_SR_fireCounted_73 : decode b_SR_fireCounted 73 = .ok (.getfield 358, 3) := by decide +kernel
theorem d_SR_fireCounted_76 : decode b_SR_fireCounted 76 = .ok (.ladd, 1) := by decide +kernel
theorem d_SR_fireCounted_77 : decode b_SR_fireCounted 77 = .ok (.lstore_n 3, 1) := by decide +kernel
theorem d_SR_fireCounted_78 : decode b_SR_fireCounted 78 = .ok (.goto (-66), 3) := by decide +kernel
theorem d_SR_fireCounted_81 : decode b_SR_fireCounted 81 = .ok (.aload_n 0, 1) := by decide +kernel
theorem d_SR_fireCounted_82 : decode b_SR_fireCounted 82 = .ok (.getfield 33, 3) := by decide +kernel
theorem d_SR_fireCounted_85 : decode b_SR_fireCounted 85 = .ok (.getfield 368, 3) := by decide +kernel
theorem d_SR_fireCounted_88 : decode b_SR_fireCounted 88 = .ok (.iload_n 1, 1) := by decide +kernel
theorem d_SR_fireCounted_89 : decode b_SR_fireCounted 89 = .ok (.lload_n 3, 1) := by decide +kernel
theorem d_SR_fireCounted_90 : decode b_SR_fireCounted 90 = .ok (.lastore, 1) := by decide +kernel
theorem d_SR_fireCounted_91 : decode b_SR_fireCounted 91 = .ok (.iload_n 2, 1) := by decide +kernel
theorem d_SR_fireCounted_92 : decode b_SR_fireCounted 92 = .ok (.ireturn, 1) := by decide +kernel
theorem d_SR_by_0 : decode b_SR_by 0 = .ok (.lload_n 2, 1) := by decide +kernel
theorem d_SR_by_1 : decode b_SR_by 1 = .ok (.lconst 1, 1) := by decide +kernel
theorem d_SR_by_2 : decode b_SR_by 2 = .ok (.lcmp, 1) := by decide +kernel
theorem d_SR_by_3 : decode b_SR_by 3 = .ok (.ifCond .ge 7, 3) := by decide +kernel
theorem d_SR_by_6 : decode b_SR_by 6 = .ok (.lconst 0, 1) := by decide +kernel
theorem d_SR_by_7 : decode b_SR_by 7 = .ok (.goto 8, 3) := by decide +kernel
theorem d_SR_by_10 : decode b_SR_by 10 = .ok (.lload_n 0, 1) := by decide +kernel
theorem d_SR_by_11 : decode b_SR_by 11 = .ok (.lload_n 2, 1) := by decide +kernel
theorem d_SR_by_12 : decode b_SR_by 12 = .ok (.invokestatic 228, 3) := by decide +kernel
theorem d_SR_by_15 : decode b_SR_by 15 = .ok (.lreturn, 1) := by decide +kernel
theorem d_SR_isWaitedFor_0 : decode b_SR_isWaitedFor 0 = .ok (.aload_n 0, 1) := by decide +kernel
theorem d_SR_isWaitedFor_1 : decode b_SR_isWaitedFor 1 = .ok (.getfield 87, 3) := by decide +kernel
theorem d_SR_isWaitedFor_4 : decode b_SR_isWaitedFor 4 = .ok (.getfield 358, 3) := by decide +kernel
theorem d_SR_isWaitedFor_7 : decode b_SR_isWaitedFor 7 = .ok (.aload_n 0, 1) := by decide +kernel
theorem d_SR_isWaitedFor_8 : decode b_SR_isWaitedFor 8 = .ok (.getfield 19, 3) := by decide +kernel
theorem d_SR_isWaitedFor_11 : decode b_SR_isWaitedFor 11 = .ok (.getfield 355, 3) := by decide +kernel
theorem d_SR_isWaitedFor_14 : decode b_SR_isWaitedFor 14 = .ok (.iload_n 1, 1) := by decide +kernel
theorem d_SR_isWaitedFor_15 : decode b_SR_isWaitedFor 15 = .ok (.iaload, 1) := by decide +kernel
theorem d_SR_isWaitedFor_16 : decode b_SR_isWaitedFor 16 = .ok (.i2l, 1) := by decide +kernel
theorem d_SR_isWaitedFor_17 : decode b_SR_isWaitedFor 17 = .ok (.aload_n 0, 1) := by decide +kernel
theorem d_SR_isWaitedFor_18 : decode b_SR_isWaitedFor 18 = .ok (.getfield 87, 3) := by decide +kernel
theorem d_SR_isWaitedFor_21 : decode b_SR_isWaitedFor 21 = .ok (.getfield 358, 3) := by decide +kernel
theorem d_SR_isWaitedFor_24 : decode b_SR_isWaitedFor 24 = .ok (.invokestatic 361, 3) := by decide +kernel
theorem d_SR_isWaitedFor_27 : decode b_SR_isWaitedFor 27 = .ok (.lmul, 1) := by decide +kernel
theorem d_SR_isWaitedFor_28 : decode b_SR_isWaitedFor 28 = .ok (.lstore_n 2, 1) := by decide +kernel
theorem d_SR_isWaitedFor_29 : decode b_SR_isWaitedFor 29 = .ok (.lload_n 2, 1) := by decide +kernel
theorem d_SR_isWaitedFor_30 : decode b_SR_isWaitedFor 30 = .ok (.aload_n 0, 1) := by decide +kernel
theorem d_SR_isWaitedFor_31 : decode b_SR_isWaitedFor 31 = .ok (.getfield 87, 3) := by decide +kernel
theorem d_SR_isWaitedFor_34 : decode b_SR_isWaitedFor 34 = .ok (.getfield 243, 3) := by decide +kernel
theorem d_SR_isWaitedFor_37 : decode b_SR_isWaitedFor 37 = .ok (.ladd, 1) := by decide +kernel
theorem d_SR_isWaitedFor_38 : decode b_SR_isWaitedFor 38 = .ok (.aload_n 0, 1) := by decide +kernel
theorem d_SR_isWaitedFor_39 : decode b_SR_isWaitedFor 39 = .ok (.getfield 33, 3) := by decide +kernel
theorem d_SR_isWaitedFor_42 : decode b_SR_isWaitedFor 42 = .ok (.getfield 179, 3) := by decide +kernel
theorem d_SR_isWaitedFor_45 : decode b_SR_isWaitedFor 45 = .ok (.aload_n 0, 1) := by decide +kernel
theorem d_SR_isWaitedFor_46 : decode b_SR_isWaitedFor 46 = .ok (.getfield 19, 3) := by decide +kernel
theorem d_SR_isWaitedFor_49 : decode b_SR_isWaitedFor 49 = .ok (.getfield 364, 3) := by decide +kernel
theorem d_SR_isWaitedFor_52 : decode b_SR_isWaitedFor 52 = .ok (.iload_n 1, 1) := by decide +kernel
theorem d_SR_isWaitedFor_53 : decode b_SR_isWaitedFor 53 = .ok (.iaload, 1) := by decide +kernel
theorem d_SR_isWaitedFor_54 : decode b_SR_isWaitedFor 54 = .ok (.iaload, 1) := by decide +kernel
theorem d_SR_isWaitedFor_55 : decode b_SR_isWaitedFor 55 = .ok (.i2l, 1) := by decide +kernel
theorem d_SR_isWaitedFor_56 : decode b_SR_isWaitedFor 56 = .ok (.lcmp, 1) := by decide +kernel
theorem d_SR_isWaitedFor_57 : decode b_SR_isWaitedFor 57 = .ok (.ifCond .le 7, 3) := by decide +kernel
theorem d_SR_isWaitedFor_60 : decode b_SR_isWaitedFor 60 = .ok (.iconst 1, 1) := by decide +kernel
theorem d_SR_isWaitedFor_61 : decode b_SR_isWaitedFor 61 = .ok (.goto 4, 3) := by decide +kernel
theorem d_SR_isWaitedFor_64 : decode b_SR_isWaitedFor 64 = .ok (.iconst 0, 1) := by decide +kernel
theorem d_SR_isWaitedFor_65 : decode b_SR_isWaitedFor 65 = .ok (.ireturn, 1) := by decide +kernel
theorem d_RS_sweep_0 : decode b_RS_sweep 0 = .ok (.iconst 0, 1) := by decide +kernel
theorem d_RS_sweep_1 : decode b_RS_sweep 1 = .ok (.istore_n 1, 1) := by decide +kernel
theorem d_RS_sweep_2 : decode b_RS_sweep 2 = .ok (.iconst 0, 1) := by decide +kernel
theorem d_RS_sweep_3 : decode b_RS_sweep 3 = .ok (.istore_n 2, 1) := by decide +kernel
theorem d_RS_sweep_4 : decode b_RS_sweep 4 = .ok (.iload_n 2, 1) := by decide +kernel
theorem d_RS_sweep_5 : decode b_RS_sweep 5 = .ok (.aload_n 0, 1) := by decide +kernel
theorem d_RS_sweep_6 : decode b_RS_sweep 6 = .ok (.getfield 32, 3) := by decide +kernel
theorem d_RS_sweep_9 : decode b_RS_sweep 9 = .ok (.if_icmp .ge 47, 3) := by decide +kernel
theorem d_RS_sweep_12 : decode b_RS_sweep 12 = .ok (.aload_n 0, 1) := by decide +kernel
theorem d_RS_sweep_13 : decode b_RS_sweep 13 = .ok (.getfield 29, 3) := by decide +kernel
theorem d_RS_sweep_16 : decode b_RS_sweep 16 = .ok (.iload_n 2, 1) := by decide +kernel
theorem d_RS_sweep_17 : decode b_RS_sweep 17 = .ok (.iaload, 1) := by decide +kernel
theorem d_RS_sweep_18 : decode b_RS_sweep 18 = .ok (.istore_n 3, 1) := by decide +kernel
theorem d_RS_sweep_19 : decode b_RS_sweep 19 = .ok (.aload_n 0, 1) := by decide +kernel
theorem d_RS_sweep_20 : decode b_RS_sweep 20 = .ok (.getfield 25, 3) := by decide +kernel
theorem d_RS_sweep_23 : decode b_RS_sweep 23 = .ok (.iload_n 3, 1) := by decide +kernel
theorem d_RS_sweep_24 : decode b_RS_sweep 24 = .ok (.baload, 1) := by decide +kernel
theorem d_RS_sweep_25 : decode b_RS_sweep 25 = .ok (.ifCond .ne 25, 3) := by decide +kernel
theorem d_RS_sweep_28 : decode b_RS_sweep 28 = .ok (.aload_n 0, 1) := by decide +kernel
theorem d_RS_sweep_29 : decode b_RS_sweep 29 = .ok (.getfield 29, 3) := by decide +kernel
theorem d_RS_sweep_32 : decode b_RS_sweep 32 = .ok (.iload_n 2, 1) := by decide +kernel
theorem d_RS_sweep_33 : decode b_RS_sweep 33 = .ok (.aload_n 0, 1) := by decide +kernel
theorem d_RS_sweep_34 : decode b_RS_sweep 34 = .ok (.getfield 29, 3) := by decide +kernel
theorem d_RS_sweep_37 : decode b_RS_sweep 37 = .ok (.iload_n 1, 1) := by decide +kernel
theorem d_RS_sweep_38 : decode b_RS_sweep 38 = .ok (.iaload, 1) := by decide +kernel
theorem d_RS_sweep_39 : decode b_RS_sweep 39 = .ok (.iastore, 1) := by decide +kernel
theorem d_RS_sweep_40 : decode b_RS_sweep 40 = .ok (.aload_n 0, 1) := by decide +kernel
theorem d_RS_sweep_41 : decode b_RS_sweep 41 = .ok (.getfield 29, 3) := by decide +kernel
theorem d_RS_sweep_44 : decode b_RS_sweep 44 = .ok (.iload_n 1, 1) := by decide +kernel
theorem d_RS_sweep_45 : decode b_RS_sweep 45 = .ok (.iload_n 3, 1) := by decide +kernel
theorem d_RS_sweep_46 : decode b_RS_sweep 46 = .ok (.iastore, 1) := by decide +kernel
theorem d_RS_sweep_47 : decode b_RS_sweep 47 = .ok (.iinc 1 1, 3) := by decide +kernel
theorem d_RS_sweep_50 : decode b_RS_sweep 50 = .ok (.iinc 2 1, 3) := by decide +kernel
theorem d_RS_sweep_53 : decode b_RS_sweep 53 = .ok (.goto (-49), 3) := by decide +kernel
theorem d_RS_sweep_56 : decode b_RS_sweep 56 = .ok (.aload_n 0, 1) := by decide +kernel
theorem d_RS_sweep_57 : decode b_RS_sweep 57 = .ok (.iload_n 1, 1) := by decide +kernel
theorem d_RS_sweep_58 : decode b_RS_sweep 58 = .ok (.putfield 32, 3) := by decide +kernel
theorem d_RS_sweep_61 : decode b_RS_sweep 61 = .ok (.return_, 1) := by decide +kernel
theorem d_SR_endCounted_0 : decode b_SR_endCounted 0 = .ok (.aload_n 0, 1) := by decide +kernel
theorem d_SR_endCounted_1 : decode b_SR_endCounted 1 = .ok (.invokevirtual 343, 3) := by decide +kernel
theorem d_SR_endCounted_4 : decode b_SR_endCounted 4 = .ok (.iconst 0, 1) := by decide +kernel
theorem d_SR_endCounted_5 : decode b_SR_endCounted 5 = .ok (.istore_n 1, 1) := by decide +kernel
theorem d_SR_endCounted_6 : decode b_SR_endCounted 6 = .ok (.iconst 0, 1) := by decide +kernel
theorem d_SR_endCounted_7 : decode b_SR_endCounted 7 = .ok (.istore_n 2, 1) := by decide +kernel
theorem d_SR_endCounted_8 : decode b_SR_endCounted 8 = .ok (.iload_n 2, 1) := by decide +kernel
theorem d_SR_endCounted_9 : decode b_SR_endCounted 9 = .ok (.bipush 8, 2) := by decide +kernel
theorem d_SR_endCounted_11 : decode b_SR_endCounted 11 = .ok (.if_icmp .ge 17, 3) := by decide +kernel
theorem d_SR_endCounted_14 : decode b_SR_endCounted 14 = .ok (.iload_n 1, 1) := by decide +kernel
theorem d_SR_endCounted_15 : decode b_SR_endCounted 15 = .ok (.aload_n 0, 1) := by decide +kernel
theorem d_SR_endCounted_16 : decode b_SR_endCounted 16 = .ok (.iload_n 2, 1) := by decide +kernel
theorem d_SR_endCounted_17 : decode b_SR_endCounted 17 = .ok (.invokevirtual 346, 3) := by decide +kernel
theorem d_SR_endCounted_20 : decode b_SR_endCounted 20 = .ok (.iadd, 1) := by decide +kernel
theorem d_SR_endCounted_21 : decode b_SR_endCounted 21 = .ok (.istore_n 1, 1) := by decide +kernel
theorem d_SR_endCounted_22 : decode b_SR_endCounted 22 = .ok (.iinc 2 1, 3) := by decide +kernel
theorem d_SR_endCounted_25 : decode b_SR_endCounted 25 = .ok (.goto (-17), 3) := by decide +kernel
theorem d_SR_endCounted_28 : decode b_SR_endCounted 28 = .ok (.iconst 0, 1) := by decide +kernel
theorem d_SR_endCounted_29 : decode b_SR_endCounted 29 = .ok (.istore_n 2, 1) := by decide +kernel
theorem d_SR_endCounted_30 : decode b_SR_endCounted 30 = .ok (.iload_n 2, 1) := by decide +kernel
theorem d_SR_endCounted_31 : decode b_SR_endCounted 31 = .ok (.aload_n 0, 1) := by decide +kernel
theorem d_SR_endCounted_32 : decode b_SR_endCounted 32 = .ok (.getfield 19, 3) := by decide +kernel
theorem d_SR_endCounted_35 : decode b_SR_endCounted 35 = .ok (.getfield 154, 3) := by decide +kernel
theorem d_SR_endCounted_38 : decode b_SR_endCounted 38 = .ok (.if_icmp .ge 49, 3) := by decide +kernel
theorem d_SR_endCounted_41 : decode b_SR_endCounted 41 = .ok (.aload_n 0, 1) := by decide +kernel
theorem d_SR_endCounted_42 : decode b_SR_endCounted 42 = .ok (.getfield 19, 3) := by decide +kernel
theorem d_SR_endCounted_45 : decode b_SR_endCounted 45 = .ok (.getfield 309, 3) := by decide +kernel
theorem d_SR_endCounted_48 : decode b_SR_endCounted 48 = .ok (.iload_n 2, 1) := by decide +kernel
theorem d_SR_endCounted_49 : decode b_SR_endCounted 49 = .ok (.iaload, 1) := by decide +kernel
theorem d_SR_endCounted_50 : decode b_SR_endCounted 50 = .ok (.istore_n 3, 1) := by decide +kernel
theorem d_SR_endCounted_51 : decode b_SR_endCounted 51 = .ok (.aload_n 0, 1) := by decide +kernel
theorem d_SR_endCounted_52 : decode b_SR_endCounted 52 = .ok (.getfield 19, 3) := by decide +kernel
theorem d_SR_endCounted_55 : decode b_SR_endCounted 55 = .ok (.getfield 334, 3) := by decide +kernel
theorem d_SR_endCounted_58 : decode b_SR_endCounted 58 = .ok (.iload_n 3, 1) := by decide +kernel
theorem d_SR_endCounted_59 : decode b_SR_endCounted 59 = .ok (.aload_n 0, 1) := by decide +kernel
theorem d_SR_endCounted_60 : decode b_SR_endCounted 60 = .ok (.iload_n 3, 1) := by decide +kernel
theorem d_SR_endCounted_61 : decode b_SR_endCounted 61 = .ok (.invokevirtual 349, 3) := by decide +kernel
theorem d_SR_endCounted_64 : decode b_SR_endCounted 64 = .ok (.ifCond .eq 15, 3) := by decide +kernel
theorem d_SR_endCounted_67 : decode b_SR_endCounted 67 = .ok (.aload_n 0, 1) := by decide +kernel
theorem d_SR_endCounted_68 : decode b_SR_endCounted 68 = .ok (.iload_n 3, 1) := by decide +kernel
theorem d_SR_endCounted_69 : decode b_SR_endCounted 69 = .ok (.invokevirtual 352, 3) := by decide +kernel
theorem d_SR_endCounted_72 : decode b_SR_endCounted 72 = .ok (.ifCond .ne 7, 3) := by decide +kernel
theorem d_SR_endCounted_75 : decode b_SR_endCounted 75 = .ok (.iconst 1, 1) := by decide +kernel
theorem d_SR_endCounted_76 : decode b_SR_endCounted 76 = .ok (.goto 4, 3) := by decide +kernel
theorem d_SR_endCounted_79 : decode b_SR_endCounted 79 = .ok (.iconst 0, 1) := by decide +kernel
theorem d_SR_endCounted_80 : decode b_SR_endCounted 80 = .ok (.bastore, 1) := by decide +kernel
theorem d_SR_endCounted_81 : decode b_SR_endCounted 81 = .ok (.iinc 2 1, 3) := by decide +kernel
theorem d_SR_endCounted_84 : decode b_SR_endCounted 84 = .ok (.goto (-54), 3) := by decide +kernel
theorem d_SR_endCounted_87 : decode b_SR_endCounted 87 = .ok (.aload_n 0, 1) := by decide +kernel
theorem d_SR_endCounted_88 : decode b_SR_endCounted 88 = .ok (.getfield 19, 3) := by decide +kernel
theorem d_SR_endCounted_91 : decode b_SR_endCounted 91 = .ok (.invokevirtual 340, 3) := by decide +kernel
theorem d_SR_endCounted_94 : decode b_SR_endCounted 94 = .ok (.iload_n 1, 1) := by decide +kernel
theorem d_SR_endCounted_95 : decode b_SR_endCounted 95 = .ok (.ireturn, 1) := by decide +kernel
theorem d_SS_seekDue_0 : decode b_SS_seekDue 0 = .ok (.iconst 0, 1) := by decide +kernel
theorem d_SS_seekDue_1 : decode b_SS_seekDue 1 = .ok (.istore_n 3, 1) := by decide +kernel
theorem d_SS_seekDue_2 : decode b_SS_seekDue 2 = .ok (.iconst 0, 1) := by decide +kernel
theorem d_SS_seekDue_3 : decode b_SS_seekDue 3 = .ok (.istore 4, 2) := by decide +kernel
theorem d_SS_seekDue_5 : decode b_SS_seekDue 5 = .ok (.iload 4, 2) := by decide +kernel
theorem d_SS_seekDue_7 : decode b_SS_seekDue 7 = .ok (.aload_n 0, 1) := by decide +kernel
theorem d_SS_seekDue_8 : decode b_SS_seekDue 8 = .ok (.getfield 47, 3) := by decide +kernel
theorem d_SS_seekDue_11 : decode b_SS_seekDue 11 = .ok (.if_icmp .ge 107, 3) := by decide +kernel
theorem d_SS_seekDue_14 : decode b_SS_seekDue 14 = .ok (.aload_n 0, 1) := by decide +kernel
theorem d_SS_seekDue_15 : decode b_SS_seekDue 15 = .ok (.getfield 44, 3) := by decide +kernel
theorem d_SS_seekDue_18 : decode b_SS_seekDue 18 = .ok (.iload 4, 2) := by decide +kernel
theorem d_SS_seekDue_20 : decode b_SS_seekDue 20 = .ok (.iaload, 1) := by decide +kernel
theorem d_SS_seekDue_21 : decode b_SS_seekDue 21 = .ok (.istore 5, 2) := by decide +kernel
theorem d_SS_seekDue_23 : decode b_SS_seekDue 23 = .ok (.aload_n 0, 1) := by decide +kernel
theorem d_SS_seekDue_24 : decode b_SS_seekDue 24 = .ok (.getfield 28, 3) := by decide +kernel
theorem d_SS_seekDue_27 : decode b_SS_seekDue 27 = .ok (.iload 5, 2) := by decide +kernel
theorem d_SS_seekDue_29 : decode b_SS_seekDue 29 = .ok (.baload, 1) := by decide +kernel
theorem d_SS_seekDue_30 : decode b_SS_seekDue 30 = .ok (.ifCond .ne 82, 3) := by decide +kernel
theorem d_SS_seekDue_33 : decode b_SS_seekDue 33 = .ok (.aload_n 0, 1) := by decide +kernel
theorem d_SS_seekDue_34 : decode b_SS_seekDue 34 = .ok (.getfield 19, 3) := by decide +kernel
theorem d_SS_seekDue_37 : decode b_SS_seekDue 37 = .ok (.iload 5, 2) := by decide +kernel
theorem d_SS_seekDue_39 : decode b_SS_seekDue 39 = .ok (.laload, 1) := by decide +kernel
theorem d_SS_seekDue_40 : decode b_SS_seekDue 40 = .ok (.lload_n 1, 1) := by decide +kernel
theorem d_SS_seekDue_41 : decode b_SS_seekDue 41 = .ok (.lcmp, 1) := by decide +kernel
theorem d_SS_seekDue_42 : decode b_SS_seekDue 42 = .ok (.ifCond .gt 70, 3) := by decide +kernel
theorem d_SS_seekDue_45 : decode b_SS_seekDue 45 = .ok (.iload_n 3, 1) := by decide +kernel
theorem d_SS_seekDue_46 : decode b_SS_seekDue 46 = .ok (.istore 6, 2) := by decide +kernel
theorem d_SS_seekDue_48 : decode b_SS_seekDue 48 = .ok (.iload 6, 2) := by decide +kernel
theorem d_SS_seekDue_50 : decode b_SS_seekDue 50 = .ok (.ifCond .le 50, 3) := by decide +kernel
theorem d_SS_seekDue_53 : decode b_SS_seekDue 53 = .ok (.aload_n 0, 1) := by decide +kernel
theorem d_SS_seekDue_54 : decode b_SS_seekDue 54 = .ok (.getfield 19, 3) := by decide +kernel
theorem d_SS_seekDue_57 : decode b_SS_seekDue 57 = .ok (.aload_n 0, 1) := by decide +kernel
theorem d_SS_seekDue_58 : decode b_SS_seekDue 58 = .ok (.getfield 41, 3) := by decide +kernel
theorem d_SS_seekDue_61 : decode b_SS_seekDue 61 = .ok (.iload 6, 2) := by decide +kernel
theorem d_SS_seekDue_63 : decode b_SS_seekDue 63 = .ok (.iconst 1, 1) := by decide +kernel
theorem d_SS_seekDue_64 : decode b_SS_seekDue 64 = .ok (.isub, 1) := by decide +kernel
theorem d_SS_seekDue_65 : decode b_SS_seekDue 65 = .ok (.iaload, 1) := by decide +kernel
theorem d_SS_seekDue_66 : decode b_SS_seekDue 66 = .ok (.laload, 1) := by decide +kernel
theorem d_SS_seekDue_67 : decode b_SS_seekDue 67 = .ok (.aload_n 0, 1) := by decide +kernel
theorem d_SS_seekDue_68 : decode b_SS_seekDue 68 = .ok (.getfield 19, 3) := by decide +kernel
theorem d_SS_seekDue_71 : decode b_SS_seekDue 71 = .ok (.iload 5, 2) := by decide +kernel
theorem d_SS_seekDue_73 : decode b_SS_seekDue 73 = .ok (.laload, 1) := by decide +kernel
theorem d_SS_seekDue_74 : decode b_SS_seekDue 74 = .ok (.lcmp, 1) := by decide +kernel
theorem d_SS_seekDue_75 : decode b_SS_seekDue 75 = .ok (.ifCond .le 25, 3) := by decide +kernel
theorem d_SS_seekDue_78 : decode b_SS_seekDue 78 = .ok (.aload_n 0, 1) := by decide +kernel
theorem d_SS_seekDue_79 : decode b_SS_seekDue 79 = .ok (.getfield 41, 3) := by decide +kernel
theorem d_SS_seekDue_82 : decode b_SS_seekDue 82 = .ok (.iload 6, 2) := by decide +kernel
theorem d_SS_seekDue_84 : decode b_SS_seekDue 84 = .ok (.aload_n 0, 1) := by decide +kernel
theorem d_SS_seekDue_85 : decode b_SS_seekDue 85 = .ok (.getfield 41, 3) := by decide +kernel
theorem d_SS_seekDue_88 : decode b_SS_seekDue 88 = .ok (.iload 6, 2) := by decide +kernel
theorem d_SS_seekDue_90 : decode b_SS_seekDue 90 = .ok (.iconst 1, 1) := by decide +kernel
theorem d_SS_seekDue_91 : decode b_SS_seekDue 91 = .ok (.isub, 1) := by decide +kernel
theorem d_SS_seekDue_92 : decode b_SS_seekDue 92 = .ok (.iaload, 1) := by decide +kernel
theorem d_SS_seekDue_93 : decode b_SS_seekDue 93 = .ok (.iastore, 1) := by decide +kernel
theorem d_SS_seekDue_94 : decode b_SS_seekDue 94 = .ok (.iinc 6 (-1), 3) := by decide +kernel
theorem d_SS_seekDue_97 : decode b_SS_seekDue 97 = .ok (.goto (-49), 3) := by decide +kernel
theorem d_SS_seekDue_100 : decode b_SS_seekDue 100 = .ok (.aload_n 0, 1) := by decide +kernel
theorem d_SS_seekDue_101 : decode b_SS_seekDue 101 = .ok (.getfield 41, 3) := by decide +kernel
theorem d_SS_seekDue_104 : decode b_SS_seekDue 104 = .ok (.iload 6, 2) := by decide +kernel
theorem d_SS_seekDue_106 : decode b_SS_seekDue 106 = .ok (.iload 5, 2) := by decide +kernel
theorem d_SS_seekDue_108 : decode b_SS_seekDue 108 = .ok (.iastore, 1) := by decide +kernel
theorem d_SS_seekDue_109 : decode b_SS_seekDue 109 = .ok (.iinc 3 1, 3) := by decide +kernel
theorem d_SS_seekDue_112 : decode b_SS_seekDue 112 = .ok (.iinc 4 1, 3) := by decide +kernel
theorem d_SS_seekDue_115 : decode b_SS_seekDue 115 = .ok (.goto (-110), 3) := by decide +kernel
theorem d_SS_seekDue_118 : decode b_SS_seekDue 118 = .ok (.iload_n 3, 1) := by decide +kernel
theorem d_SS_seekDue_119 : decode b_SS_seekDue 119 = .ok (.ireturn, 1) := by decide +kernel
theorem d_SS_isIn_0 : decode b_SS_isIn 0 = .ok (.aload_n 0, 1) := by decide +kernel
theorem d_SS_isIn_1 : decode b_SS_isIn 1 = .ok (.iload_n 1, 1) := by decide +kernel
theorem d_SS_isIn_2 : decode b_SS_isIn 2 = .ok (.iconst 5, 1) := by decide +kernel
theorem d_SS_isIn_3 : decode b_SS_isIn 3 = .ok (.imul, 1) := by decide +kernel
theorem d_SS_isIn_4 : decode b_SS_isIn 4 = .ok (.iload_n 2, 1) := by decide +kernel
theorem d_SS_isIn_5 : decode b_SS_isIn 5 = .ok (.bipush 64, 2) := by decide +kernel
theorem d_SS_isIn_7 : decode b_SS_isIn 7 = .ok (.idiv, 1) := by decide +kernel
theorem d_SS_isIn_8 : decode b_SS_isIn 8 = .ok (.iadd, 1) := by decide +kernel
theorem d_SS_isIn_9 : decode b_SS_isIn 9 = .ok (.laload, 1) := by decide +kernel
theorem d_SS_isIn_10 : decode b_SS_isIn 10 = .ok (.lconst 1, 1) := by decide +kernel
theorem d_SS_isIn_11 : decode b_SS_isIn 11 = .ok (.iload_n 2, 1) := by decide +kernel
theorem d_SS_isIn_12 : decode b_SS_isIn 12 = .ok (.bipush 64, 2) := by decide +kernel
theorem d_SS_isIn_14 : decode b_SS_isIn 14 = .ok (.irem, 1) := by decide +kernel
theorem d_SS_isIn_15 : decode b_SS_isIn 15 = .ok (.lshl, 1) := by decide +kernel
theorem d_SS_isIn_16 : decode b_SS_isIn 16 = .ok (.land, 1) := by decide +kernel
theorem d_SS_isIn_17 : decode b_SS_isIn 17 = .ok (.lconst 0, 1) := by decide +kernel
theorem d_SS_isIn_18 : decode b_SS_isIn 18 = .ok (.lcmp, 1) := by decide +kernel
theorem d_SS_isIn_19 : decode b_SS_isIn 19 = .ok (.ifCond .eq 7, 3) := by decide +kernel
theorem d_SS_isIn_22 : decode b_SS_isIn 22 = .ok (.iconst 1, 1) := by decide +kernel
theorem d_SS_isIn_23 : decode b_SS_isIn 23 = .ok (.goto 4, 3) := by decide +kernel
theorem d_SS_isIn_26 : decode b_SS_isIn 26 = .ok (.iconst 0, 1) := by decide +kernel
theorem d_SS_isIn_27 : decode b_SS_isIn 27 = .ok (.ireturn, 1) := by decide +kernel
theorem d_SR_gather_0 : decode b_SR_gather 0 = .ok (.aload_n 0, 1) := by decide +kernel
theorem d_SR_gather_1 : decode b_SR_gather 1 = .ok (.getfield 47, 3) := by decide +kernel
theorem d_SR_gather_4 : decode b_SR_gather 4 = .ok (.invokevirtual 306, 3) := by decide +kernel
theorem d_SR_gather_7 : decode b_SR_gather 7 = .ok (.iconst 0, 1) := by decide +kernel
theorem d_SR_gather_8 : decode b_SR_gather 8 = .ok (.istore_n 3, 1) := by decide +kernel
theorem d_SR_gather_9 : decode b_SR_gather 9 = .ok (.iload_n 3, 1) := by decide +kernel
theorem d_SR_gather_10 : decode b_SR_gather 10 = .ok (.aload_n 0, 1) := by decide +kernel
theorem d_SR_gather_11 : decode b_SR_gather 11 = .ok (.getfield 19, 3) := by decide +kernel
theorem d_SR_gather_14 : decode b_SR_gather 14 = .ok (.getfield 154, 3) := by decide +kernel
theorem d_SR_gather_17 : decode b_SR_gather 17 = .ok (.if_icmp .ge 47, 3) := by decide +kernel
theorem d_SR_gather_20 : decode b_SR_gather 20 = .ok (.aload_n 0, 1) := by decide +kernel
theorem d_SR_gather_21 : decode b_SR_gather 21 = .ok (.getfield 19, 3) := by decide +kernel
theorem d_SR_gather_24 : decode b_SR_gather 24 = .ok (.getfield 309, 3) := by decide +kernel
theorem d_SR_gather_27 : decode b_SR_gather 27 = .ok (.iload_n 3, 1) := by decide +kernel
theorem d_SR_gather_28 : decode b_SR_gather 28 = .ok (.iaload, 1) := by decide +kernel
theorem d_SR_gather_29 : decode b_SR_gather 29 = .ok (.istore 4, 2) := by decide +kernel
theorem d_SR_gather_31 : decode b_SR_gather 31 = .ok (.aload_n 2, 1) := by decide +kernel
theorem d_SR_gather_32 : decode b_SR_gather 32 = .ok (.iload_n 1, 1) := by decide +kernel
theorem d_SR_gather_33 : decode b_SR_gather 33 = .ok (.iload 4, 2) := by decide +kernel
theorem d_SR_gather_35 : decode b_SR_gather 35 = .ok (.invokestatic 312, 3) := by decide +kernel
theorem d_SR_gather_38 : decode b_SR_gather 38 = .ok (.ifCond .eq 20, 3) := by decide +kernel
theorem d_SR_gather_41 : decode b_SR_gather 41 = .ok (.aload_n 0, 1) := by decide +kernel
theorem d_SR_gather_42 : decode b_SR_gather 42 = .ok (.getfield 47, 3) := by decide +kernel
theorem d_SR_gather_45 : decode b_SR_gather 45 = .ok (.aload_n 0, 1) := by decide +kernel
theorem d_SR_gather_46 : decode b_SR_gather 46 = .ok (.getfield 19, 3) := by decide +kernel
theorem d_SR_gather_49 : decode b_SR_gather 49 = .ok (.getfield 316, 3) := by decide +kernel
theorem d_SR_gather_52 : decode b_SR_gather 52 = .ok (.iload 4, 2) := by decide +kernel
theorem d_SR_gather_54 : decode b_SR_gather 54 = .ok (.laload, 1) := by decide +kernel
theorem d_SR_gather_55 : decode b_SR_gather 55 = .ok (.invokevirtual 319, 3) := by decide +kernel
