theorem d_MO_clears_28 : decode b_MO_clears 28 = .ok (.iconst 0, 1) := by decide +kernel
theorem d_MO_clears_29 : decode b_MO_clears 29 = .ok (.istore_n 2, 1) := by decide +kernel
theorem d_MO_clears_30 : decode b_MO_clears 30 = .ok (.aload_n 0, 1) := by decide +kernel
theorem d_MO_clears_31 : decode b_MO_clears 31 = .ok (.iload_n 1, 1) := by decide +kernel
theorem d_MO_clears_32 : decode b_MO_clears 32 = .ok (.putfield 129, 3) := by decide +kernel
theorem d_MO_clears_35 : decode b_MO_clears 35 = .ok (.iload_n 2, 1) := by decide +kernel
theorem d_MO_clears_36 : decode b_MO_clears 36 = .ok (.ireturn, 1) := by decide +kernel
theorem d_MO_rule_0 : decode b_MO_rule 0 = .ok (.aload_n 0, 1) := by decide +kernel
theorem d_MO_rule_1 : decode b_MO_rule 1 = .ok (.iconst 0, 1) := by decide +kernel
theorem d_MO_rule_2 : decode b_MO_rule 2 = .ok (.putfield 104, 3) := by decide +kernel
theorem d_MO_rule_5 : decode b_MO_rule 5 = .ok (.iload_n 1, 1) := by decide +kernel
theorem d_MO_rule_6 : decode b_MO_rule 6 = .ok (.i2l, 1) := by decide +kernel
theorem d_MO_rule_7 : decode b_MO_rule 7 = .ok (.lconst 0, 1) := by decide +kernel
theorem d_MO_rule_8 : decode b_MO_rule 8 = .ok (.ldc2_w 132, 3) := by decide +kernel
theorem d_MO_rule_11 : decode b_MO_rule 11 = .ok (.invokestatic 111, 3) := by decide +kernel
theorem d_MO_rule_14 : decode b_MO_rule 14 = .ok (.ifCond .ne 6, 3) := by decide +kernel
theorem d_MO_rule_17 : decode b_MO_rule 17 = .ok (.bipush (-2), 2) := by decide +kernel
theorem d_MO_rule_19 : decode b_MO_rule 19 = .ok (.ireturn, 1) := by decide +kernel
theorem d_MO_rule_20 : decode b_MO_rule 20 = .ok (.aload_n 0, 1) := by decide +kernel
theorem d_MO_rule_21 : decode b_MO_rule 21 = .ok (.getfield 93, 3) := by decide +kernel
theorem d_MO_rule_24 : decode b_MO_rule 24 = .ok (.iconst 5, 1) := by decide +kernel
theorem d_MO_rule_25 : decode b_MO_rule 25 = .ok (.if_icmp .eq 6, 3) := by decide +kernel
theorem d_MO_rule_28 : decode b_MO_rule 28 = .ok (.bipush (-3), 2) := by decide +kernel
theorem d_MO_rule_30 : decode b_MO_rule 30 = .ok (.ireturn, 1) := by decide +kernel
theorem d_MO_rule_31 : decode b_MO_rule 31 = .ok (.aload_n 0, 1) := by decide +kernel
theorem d_MO_rule_32 : decode b_MO_rule 32 = .ok (.getfield 134, 3) := by decide +kernel
theorem d_MO_rule_35 : decode b_MO_rule 35 = .ok (.istore_n 2, 1) := by decide +kernel
theorem d_MO_rule_36 : decode b_MO_rule 36 = .ok (.aload_n 0, 1) := by decide +kernel
theorem d_MO_rule_37 : decode b_MO_rule 37 = .ok (.iload_n 1, 1) := by decide +kernel
theorem d_MO_rule_38 : decode b_MO_rule 38 = .ok (.putfield 134, 3) := by decide +kernel
theorem d_MO_rule_41 : decode b_MO_rule 41 = .ok (.iload_n 2, 1) := by decide +kernel
theorem d_MO_rule_42 : decode b_MO_rule 42 = .ok (.ireturn, 1) := by decide +kernel
theorem d_MO_isForbidden_0 : decode b_MO_isForbidden 0 = .ok (.iconst 0, 1) := by decide +kernel
theorem d_MO_isForbidden_1 : decode b_MO_isForbidden 1 = .ok (.istore 4, 2) := by decide +kernel
theorem d_MO_isForbidden_3 : decode b_MO_isForbidden 3 = .ok (.iload 4, 2) := by decide +kernel
theorem d_MO_isForbidden_5 : decode b_MO_isForbidden 5 = .ok (.aload_n 0, 1) := by decide +kernel
theorem d_MO_isForbidden_6 : decode b_MO_isForbidden 6 = .ok (.getfield 13, 3) := by decide +kernel
theorem d_MO_isForbidden_9 : decode b_MO_isForbidden 9 = .ok (.iload_n 1, 1) := by decide +kernel
theorem d_MO_isForbidden_10 : decode b_MO_isForbidden 10 = .ok (.iaload, 1) := by decide +kernel
theorem d_MO_isForbidden_11 : decode b_MO_isForbidden 11 = .ok (.if_icmp .ge 28, 3) := by decide +kernel
theorem d_MO_isForbidden_14 : decode b_MO_isForbidden 14 = .ok (.aload_n 0, 1) := by decide +kernel
theorem d_MO_isForbidden_15 : decode b_MO_isForbidden 15 = .ok (.getfield 17, 3) := by decide +kernel
theorem d_MO_isForbidden_18 : decode b_MO_isForbidden 18 = .ok (.bipush 8, 2) := by decide +kernel
theorem d_MO_isForbidden_20 : decode b_MO_isForbidden 20 = .ok (.iload_n 1, 1) := by decide +kernel
theorem d_MO_isForbidden_21 : decode b_MO_isForbidden 21 = .ok (.imul, 1) := by decide +kernel
theorem d_MO_isForbidden_22 : decode b_MO_isForbidden 22 = .ok (.iload 4, 2) := by decide +kernel
theorem d_MO_isForbidden_24 : decode b_MO_isForbidden 24 = .ok (.iadd, 1) := by decide +kernel
theorem d_MO_isForbidden_25 : decode b_MO_isForbidden 25 = .ok (.laload, 1) := by decide +kernel
theorem d_MO_isForbidden_26 : decode b_MO_isForbidden 26 = .ok (.lload_n 2, 1) := by decide +kernel
theorem d_MO_isForbidden_27 : decode b_MO_isForbidden 27 = .ok (.lcmp, 1) := by decide +kernel
theorem d_MO_isForbidden_28 : decode b_MO_isForbidden 28 = .ok (.ifCond .ne 5, 3) := by decide +kernel
theorem d_MO_isForbidden_31 : decode b_MO_isForbidden 31 = .ok (.iconst 1, 1) := by decide +kernel
theorem d_MO_isForbidden_32 : decode b_MO_isForbidden 32 = .ok (.ireturn, 1) := by decide +kernel
theorem d_MO_isForbidden_33 : decode b_MO_isForbidden 33 = .ok (.iinc 4 1, 3) := by decide +kernel
theorem d_MO_isForbidden_36 : decode b_MO_isForbidden 36 = .ok (.goto (-33), 3) := by decide +kernel
theorem d_MO_isForbidden_39 : decode b_MO_isForbidden 39 = .ok (.iconst 0, 1) := by decide +kernel
theorem d_MO_isForbidden_40 : decode b_MO_isForbidden 40 = .ok (.ireturn, 1) := by decide +kernel
theorem d_MO_forbid_0 : decode b_MO_forbid 0 = .ok (.aload_n 0, 1) := by decide +kernel
theorem d_MO_forbid_1 : decode b_MO_forbid 1 = .ok (.iconst 0, 1) := by decide +kernel
theorem d_MO_forbid_2 : decode b_MO_forbid 2 = .ok (.putfield 104, 3) := by decide +kernel
theorem d_MO_forbid_5 : decode b_MO_forbid 5 = .ok (.iload_n 1, 1) := by decide +kernel
theorem d_MO_forbid_6 : decode b_MO_forbid 6 = .ok (.i2l, 1) := by decide +kernel
theorem d_MO_forbid_7 : decode b_MO_forbid 7 = .ok (.lconst 0, 1) := by decide +kernel
theorem d_MO_forbid_8 : decode b_MO_forbid 8 = .ok (.ldc2_w 132, 3) := by decide +kernel
theorem d_MO_forbid_11 : decode b_MO_forbid 11 = .ok (.invokestatic 111, 3) := by decide +kernel
theorem d_MO_forbid_14 : decode b_MO_forbid 14 = .ok (.ifCond .ne 6, 3) := by decide +kernel
theorem d_MO_forbid_17 : decode b_MO_forbid 17 = .ok (.bipush (-2), 2) := by decide +kernel
theorem d_MO_forbid_19 : decode b_MO_forbid 19 = .ok (.ireturn, 1) := by decide +kernel
theorem d_MO_forbid_20 : decode b_MO_forbid 20 = .ok (.aload_n 0, 1) := by decide +kernel
theorem d_MO_forbid_21 : decode b_MO_forbid 21 = .ok (.getfield 93, 3) := by decide +kernel
theorem d_MO_forbid_24 : decode b_MO_forbid 24 = .ok (.iconst 5, 1) := by decide +kernel
theorem d_MO_forbid_25 : decode b_MO_forbid 25 = .ok (.if_icmp .eq 6, 3) := by decide +kernel
theorem d_MO_forbid_28 : decode b_MO_forbid 28 = .ok (.bipush (-3), 2) := by decide +kernel
theorem d_MO_forbid_30 : decode b_MO_forbid 30 = .ok (.ireturn, 1) := by decide +kernel
theorem d_MO_forbid_31 : decode b_MO_forbid 31 = .ok (.aload_n 0, 1) := by decide +kernel
theorem d_MO_forbid_32 : decode b_MO_forbid 32 = .ok (.iload_n 1, 1) := by decide +kernel
theorem d_MO_forbid_33 : decode b_MO_forbid 33 = .ok (.lload_n 2, 1) := by decide +kernel
theorem d_MO_forbid_34 : decode b_MO_forbid 34 = .ok (.invokevirtual 137, 3) := by decide +kernel
theorem d_MO_forbid_37 : decode b_MO_forbid 37 = .ok (.ifCond .eq 10, 3) := by decide +kernel
theorem d_MO_forbid_40 : decode b_MO_forbid 40 = .ok (.aload_n 0, 1) := by decide +kernel
theorem d_MO_forbid_41 : decode b_MO_forbid 41 = .ok (.getfield 13, 3) := by decide +kernel
theorem d_MO_forbid_44 : decode b_MO_forbid 44 = .ok (.iload_n 1, 1) := by decide +kernel
theorem d_MO_forbid_45 : decode b_MO_forbid 45 = .ok (.iaload, 1) := by decide +kernel
theorem d_MO_forbid_46 : decode b_MO_forbid 46 = .ok (.ireturn, 1) := by decide +kernel
theorem d_MO_forbid_47 : decode b_MO_forbid 47 = .ok (.aload_n 0, 1) := by decide +kernel
theorem d_MO_forbid_48 : decode b_MO_forbid 48 = .ok (.getfield 13, 3) := by decide +kernel
theorem d_MO_forbid_51 : decode b_MO_forbid 51 = .ok (.iload_n 1, 1) := by decide +kernel
theorem d_MO_forbid_52 : decode b_MO_forbid 52 = .ok (.iaload, 1) := by decide +kernel
theorem d_MO_forbid_53 : decode b_MO_forbid 53 = .ok (.bipush 8, 2) := by decide +kernel
theorem d_MO_forbid_55 : decode b_MO_forbid 55 = .ok (.if_icmp .ne 6, 3) := by decide +kernel
theorem d_MO_forbid_58 : decode b_MO_forbid 58 = .ok (.bipush (-4), 2) := by decide +kernel
theorem d_MO_forbid_60 : decode b_MO_forbid 60 = .ok (.ireturn, 1) := by decide +kernel
theorem d_MO_forbid_61 : decode b_MO_forbid 61 = .ok (.aload_n 0, 1) := by decide +kernel
theorem d_MO_forbid_62 : decode b_MO_forbid 62 = .ok (.getfield 17, 3) := by decide +kernel
theorem d_MO_forbid_65 : decode b_MO_forbid 65 = .ok (.bipush 8, 2) := by decide +kernel
theorem d_MO_forbid_67 : decode b_MO_forbid 67 = .ok (.iload_n 1, 1) := by decide +kernel
theorem d_MO_forbid_68 : decode b_MO_forbid 68 = .ok (.imul, 1) := by decide +kernel
theorem d_MO_forbid_69 : decode b_MO_forbid 69 = .ok (.aload_n 0, 1) := by decide +kernel
theorem d_MO_forbid_70 : decode b_MO_forbid 70 = .ok (.getfield 13, 3) := by decide +kernel
theorem d_MO_forbid_73 : decode b_MO_forbid 73 = .ok (.iload_n 1, 1) := by decide +kernel
theorem d_MO_forbid_74 : decode b_MO_forbid 74 = .ok (.iaload, 1) := by decide +kernel
theorem d_MO_forbid_75 : decode b_MO_forbid 75 = .ok (.iadd, 1) := by decide +kernel
theorem d_MO_forbid_76 : decode b_MO_forbid 76 = .ok (.lload_n 2, 1) := by decide +kernel
theorem d_MO_forbid_77 : decode b_MO_forbid 77 = .ok (.lastore, 1) := by decide +kernel
theorem d_MO_forbid_78 : decode b_MO_forbid 78 = .ok (.aload_n 0, 1) := by decide +kernel
theorem d_MO_forbid_79 : decode b_MO_forbid 79 = .ok (.getfield 13, 3) := by decide +kernel
theorem d_MO_forbid_82 : decode b_MO_forbid 82 = .ok (.iload_n 1, 1) := by decide +kernel
theorem d_MO_forbid_83 : decode b_MO_forbid 83 = .ok (.dup2, 1) := by decide +kernel
theorem d_MO_forbid_84 : decode b_MO_forbid 84 = .ok (.iaload, 1) := by decide +kernel
theorem d_MO_forbid_85 : decode b_MO_forbid 85 = .ok (.iconst 1, 1) := by decide +kernel
theorem d_MO_forbid_86 : decode b_MO_forbid 86 = .ok (.iadd, 1) := by decide +kernel
theorem d_MO_forbid_87 : decode b_MO_forbid 87 = .ok (.iastore, 1) := by decide +kernel
theorem d_MO_forbid_88 : decode b_MO_forbid 88 = .ok (.aload_n 0, 1) := by decide +kernel
theorem d_MO_forbid_89 : decode b_MO_forbid 89 = .ok (.getfield 13, 3) := by decide +kernel
theorem d_MO_forbid_92 : decode b_MO_forbid 92 = .ok (.iload_n 1, 1) := by decide +kernel
theorem d_MO_forbid_93 : decode b_MO_forbid 93 = .ok (.iaload, 1) := by decide +kernel
theorem d_MO_forbid_94 : decode b_MO_forbid 94 = .ok (.ireturn, 1) := by decide +kernel
theorem d_MO_by_0 : decode b_MO_by 0 = .ok (.lload_n 0, 1) := by decide +kernel
theorem d_MO_by_1 : decode b_MO_by 1 = .ok (.lload_n 2, 1) := by decide +kernel
theorem d_MO_by_2 : decode b_MO_by 2 = .ok (.ldiv, 1) := by decide +kernel
theorem d_MO_by_3 : decode b_MO_by 3 = .ok (.lstore 4, 2) := by decide +kernel
theorem d_MO_by_5 : decode b_MO_by 5 = .ok (.lload 4, 2) := by decide +kernel
theorem d_MO_by_7 : decode b_MO_by 7 = .ok (.lload_n 2, 1) := by decide +kernel
theorem d_MO_by_8 : decode b_MO_by 8 = .ok (.lmul, 1) := by decide +kernel
theorem d_MO_by_9 : decode b_MO_by 9 = .ok (.lload_n 0, 1) := by decide +kernel
theorem d_MO_by_10 : decode b_MO_by 10 = .ok (.lcmp, 1) := by decide +kernel
theorem d_MO_by_11 : decode b_MO_by 11 = .ok (.ifCond .le 10, 3) := by decide +kernel
theorem d_MO_by_14 : decode b_MO_by 14 = .ok (.lload 4, 2) := by decide +kernel
theorem d_MO_by_16 : decode b_MO_by 16 = .ok (.lconst 1, 1) := by decide +kernel
theorem d_MO_by_17 : decode b_MO_by 17 = .ok (.lsub, 1) := by decide +kernel
theorem d_MO_by_18 : decode b_MO_by 18 = .ok (.goto 5, 3) := by decide +kernel
theorem d_MO_by_21 : decode b_MO_by 21 = .ok (.lload 4, 2) := by decide +kernel
theorem d_MO_by_23 : decode b_MO_by 23 = .ok (.lreturn, 1) := by decide +kernel
theorem d_MO_yearAt_0 : decode b_MO_yearAt 0 = .ok (.lload_n 0, 1) := by decide +kernel
theorem d_MO_yearAt_1 : decode b_MO_yearAt 1 = .ok (.lconst 1, 1) := by decide +kernel
theorem d_MO_yearAt_2 : decode b_MO_yearAt 2 = .ok (.lsub, 1) := by decide +kernel
theorem d_MO_yearAt_3 : decode b_MO_yearAt 3 = .ok (.lstore_n 2, 1) := by decide +kernel
theorem d_MO_yearAt_4 : decode b_MO_yearAt 4 = .ok (.ldc2_w 141, 3) := by decide +kernel
theorem d_MO_yearAt_7 : decode b_MO_yearAt 7 = .ok (.lload_n 0, 1) := by decide +kernel
theorem d_MO_yearAt_8 : decode b_MO_yearAt 8 = .ok (.ldc2_w 143, 3) := by decide +kernel
theorem d_MO_yearAt_11 : decode b_MO_yearAt 11 = .ok (.lsub, 1) := by decide +kernel
theorem d_MO_yearAt_12 : decode b_MO_yearAt 12 = .ok (.lmul, 1) := by decide +kernel
theorem d_MO_yearAt_13 : decode b_MO_yearAt 13 = .ok (.lload_n 2, 1) := by decide +kernel
theorem d_MO_yearAt_14 : decode b_MO_yearAt 14 = .ok (.ldc2_w 145, 3) := by decide +kernel
theorem d_MO_yearAt_17 : decode b_MO_yearAt 17 = .ok (.invokestatic 147, 3) := by decide +kernel
theorem d_MO_yearAt_20 : decode b_MO_yearAt 20 = .ok (.ldc2_w 151, 3) := by decide +kernel
theorem d_MO_yearAt_23 : decode b_MO_yearAt 23 = .ok (.lsub, 1) := by decide +kernel
theorem d_MO_yearAt_24 : decode b_MO_yearAt 24 = .ok (.ladd, 1) := by decide +kernel
theorem d_MO_yearAt_25 : decode b_MO_yearAt 25 = .ok (.lload_n 2, 1) := by decide +kernel
theorem d_MO_yearAt_26 : decode b_MO_yearAt 26 = .ok (.ldc2_w 153, 3) := by decide +kernel
theorem d_MO_yearAt_29 : decode b_MO_yearAt 29 = .ok (.invokestatic 147, 3) := by decide +kernel
theorem d_MO_yearAt_32 : decode b_MO_yearAt 32 = .ok (.ldc2_w 155, 3) := by decide +kernel
theorem d_MO_yearAt_35 : decode b_MO_yearAt 35 = .ok (.lsub, 1) := by decide +kernel
theorem d_MO_yearAt_36 : decode b_MO_yearAt 36 = .ok (.lsub, 1) := by decide +kernel
theorem d_MO_yearAt_37 : decode b_MO_yearAt 37 = .ok (.lload_n 2, 1) := by decide +kernel
theorem d_MO_yearAt_38 : decode b_MO_yearAt 38 = .ok (.ldc2_w 157, 3) := by decide +kernel
theorem d_MO_yearAt_41 : decode b_MO_yearAt 41 = .ok (.invokestatic 147, 3) := by decide +kernel
theorem d_MO_yearAt_44 : decode b_MO_yearAt 44 = .ok (.ldc2_w 145, 3) := by decide +kernel
theorem d_MO_yearAt_47 : decode b_MO_yearAt 47 = .ok (.lsub, 1) := by decide +kernel
theorem d_MO_yearAt_48 : decode b_MO_yearAt 48 = .ok (.ladd, 1) := by decide +kernel
theorem d_MO_yearAt_49 : decode b_MO_yearAt 49 = .ok (.lreturn, 1) := by decide +kernel
theorem d_MO_isLeap_0 : decode b_MO_isLeap 0 = .ok (.lload_n 0, 1) := by decide +kernel
theorem d_MO_isLeap_1 : decode b_MO_isLeap 1 = .ok (.ldc2_w 145, 3) := by decide +kernel
theorem d_MO_isLeap_4 : decode b_MO_isLeap 4 = .ok (.lrem, 1) := by decide +kernel
theorem d_MO_isLeap_5 : decode b_MO_isLeap 5 = .ok (.lconst 0, 1) := by decide +kernel
theorem d_MO_isLeap_6 : decode b_MO_isLeap 6 = .ok (.lcmp, 1) := by decide +kernel
theorem d_MO_isLeap_7 : decode b_MO_isLeap 7 = .ok (.ifCond .ne 27, 3) := by decide +kernel
theorem d_MO_isLeap_10 : decode b_MO_isLeap 10 = .ok (.lload_n 0, 1) := by decide +kernel
theorem d_MO_isLeap_11 : decode b_MO_isLeap 11 = .ok (.ldc2_w 153, 3) := by decide +kernel
theorem d_MO_isLeap_14 : decode b_MO_isLeap 14 = .ok (.lrem, 1) := by decide +kernel
theorem d_MO_isLeap_15 : decode b_MO_isLeap 15 = .ok (.lconst 0, 1) := by decide +kernel
theorem d_MO_isLeap_16 : decode b_MO_isLeap 16 = .ok (.lcmp, 1) := by decide +kernel
theorem d_MO_isLeap_17 : decode b_MO_isLeap 17 = .ok (.ifCond .ne 13, 3) := by decide +kernel
theorem d_MO_isLeap_20 : decode b_MO_isLeap 20 = .ok (.lload_n 0, 1) := by decide +kernel
theorem d_MO_isLeap_21 : decode b_MO_isLeap 21 = .ok (.ldc2_w 157, 3) := by decide +kernel
theorem d_MO_isLeap_24 : decode b_MO_isLeap 24 = .ok (.lrem, 1) := by decide +kernel
theorem d_MO_isLeap_25 : decode b_MO_isLeap 25 = .ok (.lconst 0, 1) := by decide +kernel
theorem d_MO_isLeap_26 : decode b_MO_isLeap 26 = .ok (.lcmp, 1) := by decide +kernel
theorem d_MO_isLeap_27 : decode b_MO_isLeap 27 = .ok (.ifCond .ne 7, 3) := by decide +kernel
theorem d_MO_isLeap_30 : decode b_MO_isLeap 30 = .ok (.iconst 1, 1) := by decide +kernel
theorem d_MO_isLeap_31 : decode b_MO_isLeap 31 = .ok (.goto 4, 3) := by decide +kernel
theorem d_MO_isLeap_34 : decode b_MO_isLeap 34 = .ok (.iconst 0, 1) := by decide +kernel
theorem d_MO_isLeap_35 : decode b_MO_isLeap 35 = .ok (.ireturn, 1) := by decide +kernel
theorem d_MO_daysIn_0 : decode b_MO_daysIn 0 = .ok (.iload_n 2, 1) := by decide +kernel
theorem d_MO_daysIn_1 : decode b_MO_daysIn 1 = .ok (.iconst 1, 1) := by decide +kernel
theorem d_MO_daysIn_2 : decode b_MO_daysIn 2 = .ok (.if_icmp .ne 20, 3) := by decide +kernel
theorem d_MO_daysIn_5 : decode b_MO_daysIn 5 = .ok (.lload_n 0, 1) := by decide +kernel
theorem d_MO_daysIn_6 : decode b_MO_daysIn 6 = .ok (.invokestatic 159, 3) := by decide +kernel
theorem d_MO_daysIn_9 : decode b_MO_daysIn 9 = .ok (.ifCond .eq 8, 3) := by decide +kernel
theorem d_MO_daysIn_12 : decode b_MO_daysIn 12 = .ok (.bipush 29, 2) := by decide +kernel
theorem d_MO_daysIn_14 : decode b_MO_daysIn 14 = .ok (.goto 37, 3) := by decide +kernel
theorem d_MO_daysIn_17 : decode b_MO_daysIn 17 = .ok (.bipush 28, 2) := by decide +kernel
theorem d_MO_daysIn_19 : decode b_MO_daysIn 19 = .ok (.goto 32, 3) := by decide +kernel
theorem d_MO_daysIn_22 : decode b_MO_daysIn 22 = .ok (.iload_n 2, 1) := by decide +kernel
theorem d_MO_daysIn_23 : decode b_MO_daysIn 23 = .ok (.iconst 3, 1) := by decide +kernel
theorem d_MO_daysIn_24 : decode b_MO_daysIn 24 = .ok (.if_icmp .eq 20, 3) := by decide +kernel
theorem d_MO_daysIn_27 : decode b_MO_daysIn 27 = .ok (.iload_n 2, 1) := by decide +kernel
theorem d_MO_daysIn_28 : decode b_MO_daysIn 28 = .ok (.iconst 5, 1) := by decide +kernel
theorem d_MO_daysIn_29 : decode b_MO_daysIn 29 = .ok (.if_icmp .eq 15, 3) := by decide +kernel
theorem d_MO_daysIn_32 : decode b_MO_daysIn 32 = .ok (.iload_n 2, 1) := by decide +kernel
theorem d_MO_daysIn_33 : decode b_MO_daysIn 33 = .ok (.bipush 8, 2) := by decide +kernel
theorem d_MO_daysIn_35 : decode b_MO_daysIn 35 = .ok (.if_icmp .eq 9, 3) := by decide +kernel
theorem d_MO_daysIn_38 : decode b_MO_daysIn 38 = .ok (.iload_n 2, 1) := by decide +kernel
theorem d_MO_daysIn_39 : decode b_MO_daysIn 39 = .ok (.bipush 10, 2) := by decide +kernel
theorem d_MO_daysIn_41 : decode b_MO_daysIn 41 = .ok (.if_icmp .ne 8, 3) := by decide +kernel
theorem d_MO_daysIn_44 : decode b_MO_daysIn 44 = .ok (.bipush 30, 2) := by decide +kernel
theorem d_MO_daysIn_46 : decode b_MO_daysIn 46 = .ok (.goto 5, 3) := by decide +kernel
theorem d_MO_daysIn_49 : decode b_MO_daysIn 49 = .ok (.bipush 31, 2) := by decide +kernel
theorem d_MO_daysIn_51 : decode b_MO_daysIn 51 = .ok (.ireturn, 1) := by decide +kernel
theorem d_MO_monthAt_0 : decode b_MO_monthAt 0 = .ok (.lload_n 0, 1) := by decide +kernel
theorem d_MO_monthAt_1 : decode b_MO_monthAt 1 = .ok (.ldc2_w 163, 3) := by decide +kernel
theorem d_MO_monthAt_4 : decode b_MO_monthAt 4 = .ok (.invokestatic 147, 3) := by decide +kernel
theorem d_MO_monthAt_7 : decode b_MO_monthAt 7 = .ok (.lstore_n 2, 1) := by decide +kernel
theorem d_MO_monthAt_8 : decode b_MO_monthAt 8 = .ok (.ldc2_w 143, 3) := by decide +kernel
theorem d_MO_monthAt_11 : decode b_MO_monthAt 11 = .ok (.lload_n 2, 1) := by decide +kernel
theorem d_MO_monthAt_12 : decode b_MO_monthAt 12 = .ok (.ladd, 1) := by decide +kernel
theorem d_MO_monthAt_13 : decode b_MO_monthAt 13 = .ok (.invokestatic 165, 3) := by decide +kernel
theorem d_MO_monthAt_16 : decode b_MO_monthAt 16 = .ok (.lstore 4, 2) := by decide +kernel
theorem d_MO_monthAt_18 : decode b_MO_monthAt 18 = .ok (.lload_n 0, 1) := by decide +kernel
theorem d_MO_monthAt_19 : decode b_MO_monthAt 19 = .ok (.ldc2_w 163, 3) := by decide +kernel
theorem d_MO_monthAt_22 : decode b_MO_monthAt 22 = .ok (.lload_n 2, 1) := by decide +kernel
theorem d_MO_monthAt_23 : decode b_MO_monthAt 23 = .ok (.lmul, 1) := by decide +kernel
theorem d_MO_monthAt_24 : decode b_MO_monthAt 24 = .ok (.lsub, 1) := by decide +kernel
theorem d_MO_monthAt_25 : decode b_MO_monthAt 25 = .ok (.l2i, 1) := by decide +kernel
theorem d_MO_monthAt_26 : decode b_MO_monthAt 26 = .ok (.istore 6, 2) := by decide +kernel
theorem d_MO_monthAt_28 : decode b_MO_monthAt 28 = .ok (.iconst 0, 1) := by decide +kernel
theorem d_MO_monthAt_29 : decode b_MO_monthAt 29 = .ok (.istore 7, 2) := by decide +kernel
theorem d_MO_monthAt_31 : decode b_MO_monthAt 31 = .ok (.iload 7, 2) := by decide +kernel
theorem d_MO_monthAt_33 : decode b_MO_monthAt 33 = .ok (.iload 6, 2) := by decide +kernel
theorem d_MO_monthAt_35 : decode b_MO_monthAt 35 = .ok (.if_icmp .ge 25, 3) := by decide +kernel
theorem d_MO_monthAt_38 : decode b_MO_monthAt 38 = .ok (.lload 4, 2) := by decide +kernel
theorem d_MO_monthAt_40 : decode b_MO_monthAt 40 = .ok (.ldc2_w 143, 3) := by decide +kernel
theorem d_MO_monthAt_43 : decode b_MO_monthAt 43 = .ok (.lload_n 2, 1) := by decide +kernel
theorem d_MO_monthAt_44 : decode b_MO_monthAt 44 = .ok (.ladd, 1) := by decide +kernel
theorem d_MO_monthAt_45 : decode b_MO_monthAt 45 = .ok (.iload 7, 2) := by decide +kernel
theorem d_MO_monthAt_47 : decode b_MO_monthAt 47 = .ok (.invokestatic 169, 3) := by decide +kernel
theorem d_MO_monthAt_50 : decode b_MO_monthAt 50 = .ok (.i2l, 1) := by decide +kernel
theorem d_MO_monthAt_51 : decode b_MO_monthAt 51 = .ok (.ladd, 1) := by decide +kernel
theorem d_MO_monthAt_52 : decode b_MO_monthAt 52 = .ok (.lstore 4, 2) := by decide +kernel
theorem d_MO_monthAt_54 : decode b_MO_monthAt 54 = .ok (.iinc 7 1, 3) := by decide +kernel
theorem d_MO_monthAt_57 : decode b_MO_monthAt 57 = .ok (.goto (-26), 3) := by decide +kernel
theorem d_MO_monthAt_60 : decode b_MO_monthAt 60 = .ok (.lload 4, 2) := by decide +kernel
theorem d_MO_monthAt_62 : decode b_MO_monthAt 62 = .ok (.lreturn, 1) := by decide +kernel
theorem d_MO_monthOf_0 : decode b_MO_monthOf 0 = .ok (.lload_n 0, 1) := by decide +kernel
theorem d_MO_monthOf_1 : decode b_MO_monthOf 1 = .ok (.ldc2_w 153, 3) := by decide +kernel
theorem d_MO_monthOf_4 : decode b_MO_monthOf 4 = .ok (.lmul, 1) := by decide +kernel
theorem d_MO_monthOf_5 : decode b_MO_monthOf 5 = .ok (.ldc2_w 173, 3) := by decide +kernel
theorem d_MO_monthOf_8 : decode b_MO_monthOf 8 = .ok (.invokestatic 147, 3) := by decide +kernel
theorem d_MO_monthOf_11 : decode b_MO_monthOf 11 = .ok (.lstore_n 2, 1) := by decide +kernel
theorem d_MO_monthOf_12 : decode b_MO_monthOf 12 = .ok (.lload_n 2, 1) := by decide +kernel
theorem d_MO_monthOf_13 : decode b_MO_monthOf 13 = .ok (.invokestatic 175, 3) := by decide +kernel
theorem d_MO_monthOf_16 : decode b_MO_monthOf 16 = .ok (.lload_n 0, 1) := by decide +kernel
theorem d_MO_monthOf_17 : decode b_MO_monthOf 17 = .ok (.lcmp, 1) := by decide +kernel
theorem d_MO_monthOf_18 : decode b_MO_monthOf 18 = .ok (.ifCond .le 10, 3) := by decide +kernel
theorem d_MO_monthOf_21 : decode b_MO_monthOf 21 = .ok (.lload_n 2, 1) := by decide +kernel
theorem d_MO_monthOf_22 : decode b_MO_monthOf 22 = .ok (.lconst 1, 1) := by decide +kernel
theorem d_MO_monthOf_23 : decode b_MO_monthOf 23 = .ok (.lsub, 1) := by decide +kernel
theorem d_MO_monthOf_24 : decode b_MO_monthOf 24 = .ok (.lstore_n 2, 1) := by decide +kernel
theorem d_MO_monthOf_25 : decode b_MO_monthOf 25 = .ok (.goto (-13), 3) := by decide +kernel
theorem d_MO_monthOf_28 : decode b_MO_monthOf 28 = .ok (.lload_n 2, 1) := by decide +kernel
theorem d_MO_monthOf_29 : decode b_MO_monthOf 29 = .ok (.lconst 1, 1) := by decide +kernel
theorem d_MO_monthOf_30 : decode b_MO_monthOf 30 = .ok (.ladd, 1) := by decide +kernel
theorem d_MO_monthOf_31 : decode b_MO_monthOf 31 = .ok (.invokestatic 175, 3) := by decide +kernel
theorem d_MO_monthOf_34 : decode b_MO_monthOf 34 = .ok (.lload_n 0, 1) := by decide +kernel
theorem d_MO_monthOf_35 : decode b_MO_monthOf 35 = .ok (.lcmp, 1) := by decide +kernel
theorem d_MO_monthOf_36 : decode b_MO_monthOf 36 = .ok (.ifCond .gt 10, 3) := by decide +kernel
theorem d_MO_monthOf_39 : decode b_MO_monthOf 39 = .ok (.lload_n 2, 1) := by decide +kernel
theorem d_MO_monthOf_40 : decode b_MO_monthOf 40 = .ok (.lconst 1, 1) := by decide +kernel
theorem d_MO_monthOf_41 : decode b_MO_monthOf 41 = .ok (.ladd, 1) := by decide +kernel
theorem d_MO_monthOf_42 : decode b_MO_monthOf 42 = .ok (.lstore_n 2, 1) := by decide +kernel
theorem d_MO_monthOf_43 : decode b_MO_monthOf 43 = .ok (.goto (-15), 3) := by decide +kernel
theorem d_MO_monthOf_46 : decode b_MO_monthOf 46 = .ok (.lload_n 2, 1) := by decide +kernel
theorem d_MO_monthOf_47 : decode b_MO_monthOf 47 = .ok (.lreturn, 1) := by decide +kernel
theorem d_MO_month_0 : decode b_MO_month 0 = .ok (.aload_n 0, 1) := by decide +kernel
theorem d_MO_month_1 : decode b_MO_month 1 = .ok (.iconst 0, 1) := by decide +kernel
theorem d_MO_month_2 : decode b_MO_month 2 = .ok (.putfield 104, 3) := by decide +kernel
theorem d_MO_month_5 : decode b_MO_month 5 = .ok (.iload_n 1, 1) := by decide +kernel
theorem d_MO_month_6 : decode b_MO_month 6 = .ok (.i2l, 1) := by decide +kernel
theorem d_MO_month_7 : decode b_MO_month 7 = .ok (.ldc2_w 178, 3) := by decide +kernel
theorem d_MO_month_10 : decode b_MO_month 10 = .ok (.ldc2_w 180, 3) := by decide +kernel
theorem d_MO_month_13 : decode b_MO_month 13 = .ok (.invokestatic 111, 3) := by decide +kernel
theorem d_MO_month_16 : decode b_MO_month 16 = .ok (.ifCond .eq 12, 3) := by decide +kernel
theorem d_MO_month_19 : decode b_MO_month 19 = .ok (.iload_n 1, 1) := by decide +kernel
theorem d_MO_month_20 : decode b_MO_month 20 = .ok (.i2l, 1) := by decide +kernel
theorem d_MO_month_21 : decode b_MO_month 21 = .ok (.invokestatic 175, 3) := by decide +kernel
theorem d_MO_month_24 : decode b_MO_month 24 = .ok (.l2i, 1) := by decide +kernel
theorem d_MO_month_25 : decode b_MO_month 25 = .ok (.goto 5, 3) := by decide +kernel
theorem d_MO_month_28 : decode b_MO_month 28 = .ok (.ldc 182, 2) := by decide +kernel
theorem d_MO_month_30 : decode b_MO_month 30 = .ok (.ireturn, 1) := by decide +kernel
theorem d_MO_want_0 : decode b_MO_want 0 = .ok (.aload_n 0, 1) := by decide +kernel
theorem d_MO_want_1 : decode b_MO_want 1 = .ok (.getfield 77, 3) := by decide +kernel
theorem d_MO_want_4 : decode b_MO_want 4 = .ok (.aload_n 0, 1) := by decide +kernel
theorem d_MO_want_5 : decode b_MO_want 5 = .ok (.getfield 183, 3) := by decide +kernel
theorem d_MO_want_8 : decode b_MO_want 8 = .ok (.lload_n 1, 1) := by decide +kernel
theorem d_MO_want_9 : decode b_MO_want 9 = .ok (.lastore, 1) := by decide +kernel
theorem d_MO_want_10 : decode b_MO_want 10 = .ok (.aload_n 0, 1) := by decide +kernel
theorem d_MO_want_11 : decode b_MO_want 11 = .ok (.getfield 80, 3) := by decide +kernel
theorem d_MO_want_14 : decode b_MO_want 14 = .ok (.aload_n 0, 1) := by decide +kernel
theorem d_MO_want_15 : decode b_MO_want 15 = .ok (.getfield 183, 3) := by decide +kernel
theorem d_MO_want_18 : decode b_MO_want 18 = .ok (.lload_n 3, 1) := by decide +kernel
theorem d_MO_want_19 : decode b_MO_want 19 = .ok (.lastore, 1) := by decide +kernel
theorem d_MO_want_20 : decode b_MO_want 20 = .ok (.aload_n 0, 1) := by decide +kernel
theorem d_MO_want_21 : decode b_MO_want 21 = .ok (.dup, 1) := by decide +kernel
theorem d_MO_want_22 : decode b_MO_want 22 = .ok (.getfield 183, 3) := by decide +kernel
theorem d_MO_want_25 : decode b_MO_want 25 = .ok (.iconst 1, 1) := by decide +kernel
theorem d_MO_want_26 : decode b_MO_want 26 = .ok (.iadd, 1) := by decide +kernel
theorem d_MO_want_27 : decode b_MO_want 27 = .ok (.putfield 183, 3) := by decide +kernel
theorem d_MO_want_30 : decode b_MO_want 30 = .ok (.return_, 1) := by decide +kernel
theorem d_MO_beside_0 : decode b_MO_beside 0 = .ok (.aload_n 0, 1) := by decide +kernel
theorem d_MO_beside_1 : decode b_MO_beside 1 = .ok (.getfield 118, 3) := by decide +kernel
theorem d_MO_beside_4 : decode b_MO_beside 4 = .ok (.lload_n 3, 1) := by decide +kernel
theorem d_MO_beside_5 : decode b_MO_beside 5 = .ok (.lload_n 1, 1) := by decide +kernel
theorem d_MO_beside_6 : decode b_MO_beside 6 = .ok (.aload_n 0, 1) := by decide +kernel
theorem d_MO_beside_7 : decode b_MO_beside 7 = .ok (.getfield 118, 3) := by decide +kernel
theorem d_MO_beside_10 : decode b_MO_beside 10 = .ok (.lsub, 1) := by decide +kernel
theorem d_MO_beside_11 : decode b_MO_beside 11 = .ok (.lload_n 3, 1) := by decide +kernel
theorem d_MO_beside_12 : decode b_MO_beside 12 = .ok (.invokestatic 147, 3) := by decide +kernel
theorem d_MO_beside_15 : decode b_MO_beside 15 = .ok (.lmul, 1) := by decide +kernel
theorem d_MO_beside_16 : decode b_MO_beside 16 = .ok (.ladd, 1) := by decide +kernel
theorem d_MO_beside_17 : decode b_MO_beside 17 = .ok (.lstore 5, 2) := by decide +kernel
theorem d_MO_beside_19 : decode b_MO_beside 19 = .ok (.aload_n 0, 1) := by decide +kernel
theorem d_MO_beside_20 : decode b_MO_beside 20 = .ok (.lload 5, 2) := by decide +kernel
theorem d_MO_beside_22 : decode b_MO_beside 22 = .ok (.lload 5, 2) := by decide +kernel
theorem d_MO_beside_24 : decode b_MO_beside 24 = .ok (.lload_n 3, 1) := by decide +kernel
theorem d_MO_beside_25 : decode b_MO_beside 25 = .ok (.ladd, 1) := by decide +kernel
theorem d_MO_beside_26 : decode b_MO_beside 26 = .ok (.invokevirtual 186, 3) := by decide +kernel
theorem d_MO_beside_29 : decode b_MO_beside 29 = .ok (.return_, 1) := by decide +kernel
theorem d_MO_double0_0 : decode b_MO_double0 0 = .ok (.lload_n 1, 1) := by decide +kernel
theorem d_MO_double0_1 : decode b_MO_double0 1 = .ok (.lconst 0, 1) := by decide +kernel
theorem d_MO_double0_2 : decode b_MO_double0 2 = .ok (.lcmp, 1) := by decide +kernel
theorem d_MO_double0_3 : decode b_MO_double0 3 = .ok (.ifCond .ge 8, 3) := by decide +kernel
theorem d_MO_double0_6 : decode b_MO_double0 6 = .ok (.lload_n 1, 1) := by decide +kernel
theorem d_MO_double0_7 : decode b_MO_double0 7 = .ok (.lneg, 1) := by decide +kernel
theorem d_MO_double0_8 : decode b_MO_double0 8 = .ok (.goto 4, 3) := by decide +kernel
theorem d_MO_double0_11 : decode b_MO_double0 11 = .ok (.lload_n 1, 1) := by decide +kernel
theorem d_MO_double0_12 : decode b_MO_double0 12 = .ok (.lstore_n 3, 1) := by decide +kernel
theorem d_MO_double0_13 : decode b_MO_double0 13 = .ok (.lconst 1, 1) := by decide +kernel
theorem d_MO_double0_14 : decode b_MO_double0 14 = .ok (.lstore 5, 2) := by decide +kernel
theorem d_MO_double0_16 : decode b_MO_double0 16 = .ok (.lload_n 1, 1) := by decide +kernel
theorem d_MO_double0_17 : decode b_MO_double0 17 = .ok (.lconst 0, 1) := by decide +kernel
theorem d_MO_double0_18 : decode b_MO_double0 18 = .ok (.lcmp, 1) := by decide +kernel
theorem d_MO_double0_19 : decode b_MO_double0 19 = .ok (.ifCond .lt 56, 3) := by decide +kernel
theorem d_MO_double0_22 : decode b_MO_double0 22 = .ok (.lload 5, 2) := by decide +kernel
theorem d_MO_double0_24 : decode b_MO_double0 24 = .ok (.lload_n 3, 1) := by decide +kernel
theorem d_MO_double0_25 : decode b_MO_double0 25 = .ok (.lcmp, 1) := by decide +kernel
theorem d_MO_double0_26 : decode b_MO_double0 26 = .ok (.ifCond .gt 14, 3) := by decide +kernel
theorem d_MO_double0_29 : decode b_MO_double0 29 = .ok (.lload 5, 2) := by decide +kernel
theorem d_MO_double0_31 : decode b_MO_double0 31 = .ok (.ldc2_w 132, 3) := by decide +kernel
theorem d_MO_double0_34 : decode b_MO_double0 34 = .ok (.lmul, 1) := by decide +kernel
theorem d_MO_double0_35 : decode b_MO_double0 35 = .ok (.lstore 5, 2) := by decide +kernel
theorem d_MO_double0_37 : decode b_MO_double0 37 = .ok (.goto (-15), 3) := by decide +kernel
theorem d_MO_double0_40 : decode b_MO_double0 40 = .ok (.aload_n 0, 1) := by decide +kernel
theorem d_MO_double0_41 : decode b_MO_double0 41 = .ok (.aload_n 0, 1) := by decide +kernel
theorem d_MO_double0_42 : decode b_MO_double0 42 = .ok (.getfield 118, 3) := by decide +kernel
theorem d_MO_double0_45 : decode b_MO_double0 45 = .ok (.lload_n 3, 1) := by decide +kernel
theorem d_MO_double0_46 : decode b_MO_double0 46 = .ok (.lconst 0, 1) := by decide +kernel
theorem d_MO_double0_47 : decode b_MO_double0 47 = .ok (.lcmp, 1) := by decide +kernel
theorem d_MO_double0_48 : decode b_MO_double0 48 = .ok (.ifCond .ne 7, 3) := by decide +kernel
theorem d_MO_double0_51 : decode b_MO_double0 51 = .ok (.lconst 0, 1) := by decide +kernel
theorem d_MO_double0_52 : decode b_MO_double0 52 = .ok (.goto 9, 3) := by decide +kernel
theorem d_MO_double0_55 : decode b_MO_double0 55 = .ok (.lload 5, 2) := by decide +kernel
theorem d_MO_double0_57 : decode b_MO_double0 57 = .ok (.ldc2_w 132, 3) := by decide +kernel
theorem d_MO_double0_60 : decode b_MO_double0 60 = .ok (.ldiv, 1) := by decide +kernel
theorem d_MO_double0_61 : decode b_MO_double0 61 = .ok (.ladd, 1) := by decide +kernel
theorem d_MO_double0_62 : decode b_MO_double0 62 = .ok (.aload_n 0, 1) := by decide +kernel
theorem d_MO_double0_63 : decode b_MO_double0 63 = .ok (.getfield 118, 3) := by decide +kernel
theorem d_MO_double0_66 : decode b_MO_double0 66 = .ok (.lload 5, 2) := by decide +kernel
theorem d_MO_double0_68 : decode b_MO_double0 68 = .ok (.ladd, 1) := by decide +kernel
theorem d_MO_double0_69 : decode b_MO_double0 69 = .ok (.invokevirtual 186, 3) := by decide +kernel
theorem d_MO_double0_72 : decode b_MO_double0 72 = .ok (.goto 53, 3) := by decide +kernel
theorem d_MO_double0_75 : decode b_MO_double0 75 = .ok (.lload 5, 2) := by decide +kernel
theorem d_MO_double0_77 : decode b_MO_double0 77 = .ok (.lload_n 3, 1) := by decide +kernel
theorem d_MO_double0_78 : decode b_MO_double0 78 = .ok (.lcmp, 1) := by decide +kernel
theorem d_MO_double0_79 : decode b_MO_double0 79 = .ok (.ifCond .ge 14, 3) := by decide +kernel
theorem d_MO_double0_82 : decode b_MO_double0 82 = .ok (.lload 5, 2) := by decide +kernel
theorem d_MO_double0_84 : decode b_MO_double0 84 = .ok (.ldc2_w 132, 3) := by decide +kernel
theorem d_MO_double0_87 : decode b_MO_double0 87 = .ok (.lmul, 1) := by decide +kernel
theorem d_MO_double0_88 : decode b_MO_double0 88 = .ok (.lstore 5, 2) := by decide +kernel
theorem d_MO_double0_90 : decode b_MO_double0 90 = .ok (.goto (-15), 3) := by decide +kernel
theorem d_MO_double0_93 : decode b_MO_double0 93 = .ok (.aload_n 0, 1) := by decide +kernel
theorem d_MO_double0_94 : decode b_MO_double0 94 = .ok (.aload_n 0, 1) := by decide +kernel
theorem d_MO_double0_95 : decode b_MO_double0 95 = .ok (.getfield 118, 3) := by decide +kernel
theorem d_MO_double0_98 : decode b_MO_double0 98 = .ok (.lload 5, 2) := by decide +kernel
theorem d_MO_double0_100 : decode b_MO_double0 100 = .ok (.lsub, 1) := by decide +kernel
theorem d_MO_double0_101 : decode b_MO_double0 101 = .ok (.aload_n 0, 1) := by decide +kernel
theorem d_MO_double0_102 : decode b_MO_double0 102 = .ok (.getfield 118, 3) := by decide +kernel
theorem d_MO_double0_105 : decode b_MO_double0 105 = .ok (.lload_n 3, 1) := by decide +kernel
theorem d_MO_double0_106 : decode b_MO_double0 106 = .ok (.lconst 1, 1) := by decide +kernel
theorem d_MO_double0_107 : decode b_MO_double0 107 = .ok (.lcmp, 1) := by decide +kernel
theorem d_MO_double0_108 : decode b_MO_double0 108 = .ok (.ifCond .ne 7, 3) := by decide +kernel
theorem d_MO_double0_111 : decode b_MO_double0 111 = .ok (.lconst 0, 1) := by decide +kernel
theorem d_MO_double0_112 : decode b_MO_double0 112 = .ok (.goto 9, 3) := by decide +kernel
theorem d_MO_double0_115 : decode b_MO_double0 115 = .ok (.lload 5, 2) := by decide +kernel
theorem d_MO_double0_117 : decode b_MO_double0 117 = .ok (.ldc2_w 132, 3) := by decide +kernel
theorem d_MO_double0_120 : decode b_MO_double0 120 = .ok (.ldiv, 1) := by decide +kernel
theorem d_MO_double0_121 : decode b_MO_double0 121 = .ok (.lsub, 1) := by decide +kernel
theorem d_MO_double0_122 : decode b_MO_double0 122 = .ok (.invokevirtual 186, 3) := by decide +kernel
theorem d_MO_double0_125 : decode b_MO_double0 125 = .ok (.return_, 1) := by decide +kernel
theorem d_MO_wantFor_0 : decode b_MO_wantFor 0 = .ok (.aload_n 0, 1) := by decide +kernel
theorem d_MO_wantFor_1 : decode b_MO_wantFor 1 = .ok (.iconst 0, 1) := by decide +kernel
theorem d_MO_wantFor_2 : decode b_MO_wantFor 2 = .ok (.putfield 183, 3) := by decide +kernel
theorem d_MO_wantFor_5 : decode b_MO_wantFor 5 = .ok (.aload_n 0, 1) := by decide +kernel
theorem d_MO_wantFor_6 : decode b_MO_wantFor 6 = .ok (.getfield 93, 3) := by decide +kernel
theorem d_MO_wantFor_9 : decode b_MO_wantFor 9 = .ok (.ifCond .ne 16, 3) := by decide +kernel
theorem d_MO_wantFor_12 : decode b_MO_wantFor 12 = .ok (.aload_n 0, 1) := by decide +kernel
theorem d_MO_wantFor_13 : decode b_MO_wantFor 13 = .ok (.lload_n 1, 1) := by decide +kernel
theorem d_MO_wantFor_14 : decode b_MO_wantFor 14 = .ok (.aload_n 0, 1) := by decide +kernel
theorem d_MO_wantFor_15 : decode b_MO_wantFor 15 = .ok (.getfield 98, 3) := by decide +kernel
theorem d_MO_wantFor_18 : decode b_MO_wantFor 18 = .ok (.i2l, 1) := by decide +kernel
theorem d_MO_wantFor_19 : decode b_MO_wantFor 19 = .ok (.invokevirtual 190, 3) := by decide +kernel
theorem d_MO_wantFor_22 : decode b_MO_wantFor 22 = .ok (.goto 356, 3) := by decide +kernel
theorem d_MO_wantFor_25 : decode b_MO_wantFor 25 = .ok (.aload_n 0, 1) := by decide +kernel
theorem d_MO_wantFor_26 : decode b_MO_wantFor 26 = .ok (.getfield 93, 3) := by decide +kernel
theorem d_MO_wantFor_29 : decode b_MO_wantFor 29 = .ok (.iconst 1, 1) := by decide +kernel
theorem d_MO_wantFor_30 : decode b_MO_wantFor 30 = .ok (.if_icmp .ne 124, 3) := by decide +kernel
theorem d_MO_wantFor_33 : decode b_MO_wantFor 33 = .ok (.lload_n 1, 1) := by decide +kernel
theorem d_MO_wantFor_34 : decode b_MO_wantFor 34 = .ok (.aload_n 0, 1) := by decide +kernel
theorem d_MO_wantFor_35 : decode b_MO_wantFor 35 = .ok (.getfield 118, 3) := by decide +kernel
theorem d_MO_wantFor_38 : decode b_MO_wantFor 38 = .ok (.lsub, 1) := by decide +kernel
theorem d_MO_wantFor_39 : decode b_MO_wantFor 39 = .ok (.aload_n 0, 1) := by decide +kernel
theorem d_MO_wantFor_40 : decode b_MO_wantFor 40 = .ok (.getfield 101, 3) := by decide +kernel
theorem d_MO_wantFor_43 : decode b_MO_wantFor 43 = .ok (.i2l, 1) := by decide +kernel
theorem d_MO_wantFor_44 : decode b_MO_wantFor 44 = .ok (.invokestatic 147, 3) := by decide +kernel
theorem d_MO_wantFor_47 : decode b_MO_wantFor 47 = .ok (.lstore 5, 2) := by decide +kernel
theorem d_MO_wantFor_49 : decode b_MO_wantFor 49 = .ok (.lload 5, 2) := by decide +kernel
theorem d_MO_wantFor_51 : decode b_MO_wantFor 51 = .ok (.lstore 7, 2) := by decide +kernel
theorem d_MO_wantFor_53 : decode b_MO_wantFor 53 = .ok (.aload_n 0, 1) := by decide +kernel
theorem d_MO_wantFor_54 : decode b_MO_wantFor 54 = .ok (.getfield 118, 3) := by decide +kernel
theorem d_MO_wantFor_57 : decode b_MO_wantFor 57 = .ok (.aload_n 0, 1) := by decide +kernel
theorem d_MO_wantFor_58 : decode b_MO_wantFor 58 = .ok (.getfield 101, 3) := by decide +kernel
theorem d_MO_wantFor_61 : decode b_MO_wantFor 61 = .ok (.i2l, 1) := by decide +kernel
theorem d_MO_wantFor_62 : decode b_MO_wantFor 62 = .ok (.lload 7, 2) := by decide +kernel
theorem d_MO_wantFor_64 : decode b_MO_wantFor 64 = .ok (.lconst 1, 1) := by decide +kernel
theorem d_MO_wantFor_65 : decode b_MO_wantFor 65 = .ok (.lsub, 1) := by decide +kernel
theorem d_MO_wantFor_66 : decode b_MO_wantFor 66 = .ok (.lmul, 1) := by decide +kernel
theorem d_MO_wantFor_67 : decode b_MO_wantFor 67 = .ok (.ladd, 1) := by decide +kernel
theorem d_MO_wantFor_68 : decode b_MO_wantFor 68 = .ok (.aload_n 0, 1) := by decide +kernel
theorem d_MO_wantFor_69 : decode b_MO_wantFor 69 = .ok (.getfield 98, 3) := by decide +kernel
theorem d_MO_wantFor_72 : decode b_MO_wantFor 72 = .ok (.i2l, 1) := by decide +kernel
theorem d_MO_wantFor_73 : decode b_MO_wantFor 73 = .ok (.ladd, 1) := by decide +kernel
theorem d_MO_wantFor_74 : decode b_MO_wantFor 74 = .ok (.lload_n 1, 1) := by decide +kernel
theorem d_MO_wantFor_75 : decode b_MO_wantFor 75 = .ok (.lcmp, 1) := by decide +kernel
theorem d_MO_wantFor_76 : decode b_MO_wantFor 76 = .ok (.ifCond .le 12, 3) := by decide +kernel
theorem d_MO_wantFor_79 : decode b_MO_wantFor 79 = .ok (.lload 7, 2) := by decide +kernel
theorem d_MO_wantFor_81 : decode b_MO_wantFor 81 = .ok (.lconst 1, 1) := by decide +kernel
theorem d_MO_wantFor_82 : decode b_MO_wantFor 82 = .ok (.lsub, 1) := by decide +kernel
theorem d_MO_wantFor_83 : decode b_MO_wantFor 83 = .ok (.lstore 7, 2) := by decide +kernel
theorem d_MO_wantFor_85 : decode b_MO_wantFor 85 = .ok (.goto (-32), 3) := by decide +kernel
theorem d_MO_wantFor_88 : decode b_MO_wantFor 88 = .ok (.lload 7, 2) := by decide +kernel
theorem d_MO_wantFor_90 : decode b_MO_wantFor 90 = .ok (.lstore 9, 2) := by decide +kernel
theorem d_MO_wantFor_92 : decode b_MO_wantFor 92 = .ok (.lload 9, 2) := by decide +kernel
theorem d_MO_wantFor_94 : decode b_MO_wantFor 94 = .ok (.lload 5, 2) := by decide +kernel
theorem d_MO_wantFor_96 : decode b_MO_wantFor 96 = .ok (.lcmp, 1) := by decide +kernel
theorem d_MO_wantFor_97 : decode b_MO_wantFor 97 = .ok (.ifCond .gt 54, 3) := by decide +kernel
theorem d_MO_wantFor_100 : decode b_MO_wantFor 100 = .ok (.aload_n 0, 1) := by decide +kernel
theorem d_MO_wantFor_101 : decode b_MO_wantFor 101 = .ok (.getfield 118, 3) := by decide +kernel
theorem d_MO_wantFor_104 : decode b_MO_wantFor 104 = .ok (.aload_n 0, 1) := by decide +kernel
theorem d_MO_wantFor_105 : decode b_MO_wantFor 105 = .ok (.getfield 101, 3) := by decide +kernel
theorem d_MO_wantFor_108 : decode b_MO_wantFor 108 = .ok (.i2l, 1) := by decide +kernel
theorem d_MO_wantFor_109 : decode b_MO_wantFor 109 = .ok (.lload 9, 2) := by decide +kernel
theorem d_MO_wantFor_111 : decode b_MO_wantFor 111 = .ok (.lmul, 1) := by decide +kernel
theorem d_MO_wantFor_112 : decode b_MO_wantFor 112 = .ok (.ladd, 1) := by decide +kernel
theorem d_MO_wantFor_113 : decode b_MO_wantFor 113 = .ok (.lstore 11, 2) := by decide +kernel
theorem d_MO_wantFor_115 : decode b_MO_wantFor 115 = .ok (.lload 11, 2) := by decide +kernel
theorem d_MO_wantFor_117 : decode b_MO_wantFor 117 = .ok (.aload_n 0, 1) := by decide +kernel
theorem d_MO_wantFor_118 : decode b_MO_wantFor 118 = .ok (.getfield 98, 3) := by decide +kernel
theorem d_MO_wantFor_121 : decode b_MO_wantFor 121 = .ok (.i2l, 1) := by decide +kernel
theorem d_MO_wantFor_122 : decode b_MO_wantFor 122 = .ok (.ladd, 1) := by decide +kernel
theorem d_MO_wantFor_123 : decode b_MO_wantFor 123 = .ok (.lload_n 1, 1) := by decide +kernel
theorem d_MO_wantFor_124 : decode b_MO_wantFor 124 = .ok (.lcmp, 1) := by decide +kernel
theorem d_MO_wantFor_125 : decode b_MO_wantFor 125 = .ok (.ifCond .le 17, 3) := by decide +kernel
theorem d_MO_wantFor_128 : decode b_MO_wantFor 128 = .ok (.aload_n 0, 1) := by decide +kernel
theorem d_MO_wantFor_129 : decode b_MO_wantFor 129 = .ok (.lload 11, 2) := by decide +kernel
theorem d_MO_wantFor_131 : decode b_MO_wantFor 131 = .ok (.lload 11, 2) := by decide +kernel
theorem d_MO_wantFor_133 : decode b_MO_wantFor 133 = .ok (.aload_n 0, 1) := by decide +kernel
theorem d_MO_wantFor_134 : decode b_MO_wantFor 134 = .ok (.getfield 98, 3) := by decide +kernel
theorem d_MO_wantFor_137 : decode b_MO_wantFor 137 = .ok (.i2l, 1) := by decide +kernel
theorem d_MO_wantFor_138 : decode b_MO_wantFor 138 = .ok (.ladd, 1) := by decide +kernel
theorem d_MO_wantFor_139 : decode b_MO_wantFor 139 = .ok (.invokevirtual 186, 3) := by decide +kernel
theorem d_MO_wantFor_142 : decode b_MO_wantFor 142 = .ok (.lload 9, 2) := by decide +kernel
theorem d_MO_wantFor_144 : decode b_MO_wantFor 144 = .ok (.lconst 1, 1) := by decide +kernel
theorem d_MO_wantFor_145 : decode b_MO_wantFor 145 = .ok (.ladd, 1) := by decide +kernel
theorem d_MO_wantFor_146 : decode b_MO_wantFor 146 = .ok (.lstore 9, 2) := by decide +kernel
theorem d_MO_wantFor_148 : decode b_MO_wantFor 148 = .ok (.goto (-56), 3) := by decide +kernel
theorem d_MO_wantFor_151 : decode b_MO_wantFor 151 = .ok (.goto 227, 3) := by decide +kernel
theorem d_MO_wantFor_154 : decode b_MO_wantFor 154 = .ok (.aload_n 0, 1) := by decide +kernel
theorem d_MO_wantFor_155 : decode b_MO_wantFor 155 = .ok (.getfield 93, 3) := by decide +kernel
theorem d_MO_wantFor_158 : decode b_MO_wantFor 158 = .ok (.iconst 2, 1) := by decide +kernel
theorem d_MO_wantFor_159 : decode b_MO_wantFor 159 = .ok (.if_icmp .ne 18, 3) := by decide +kernel
theorem d_MO_wantFor_162 : decode b_MO_wantFor 162 = .ok (.aload_n 0, 1) := by decide +kernel
theorem d_MO_wantFor_163 : decode b_MO_wantFor 163 = .ok (.lload_n 1, 1) := by decide +kernel
theorem d_MO_wantFor_164 : decode b_MO_wantFor 164 = .ok (.lload_n 1, 1) := by decide +kernel
theorem d_MO_wantFor_165 : decode b_MO_wantFor 165 = .ok (.aload_n 0, 1) := by decide +kernel
theorem d_MO_wantFor_166 : decode b_MO_wantFor 166 = .ok (.getfield 98, 3) := by decide +kernel
theorem d_MO_wantFor_169 : decode b_MO_wantFor 169 = .ok (.i2l, 1) := by decide +kernel
theorem d_MO_wantFor_170 : decode b_MO_wantFor 170 = .ok (.ladd, 1) := by decide +kernel
theorem d_MO_wantFor_171 : decode b_MO_wantFor 171 = .ok (.invokevirtual 186, 3) := by decide +kernel
theorem d_MO_wantFor_174 : decode b_MO_wantFor 174 = .ok (.goto 204, 3) := by decide +kernel
theorem d_MO_wantFor_177 : decode b_MO_wantFor 177 = .ok (.aload_n 0, 1) := by decide +kernel
theorem d_MO_wantFor_178 : decode b_MO_wantFor 178 = .ok (.getfield 93, 3) := by decide +kernel
theorem d_MO_wantFor_181 : decode b_MO_wantFor 181 = .ok (.iconst 4, 1) := by decide +kernel
theorem d_MO_wantFor_182 : decode b_MO_wantFor 182 = .ok (.if_icmp .ne 60, 3) := by decide +kernel
theorem d_MO_wantFor_185 : decode b_MO_wantFor 185 = .ok (.lload_n 1, 1) := by decide +kernel
theorem d_MO_wantFor_186 : decode b_MO_wantFor 186 = .ok (.invokestatic 193, 3) := by decide +kernel
theorem d_MO_wantFor_189 : decode b_MO_wantFor 189 = .ok (.lstore 5, 2) := by decide +kernel
theorem d_MO_wantFor_191 : decode b_MO_wantFor 191 = .ok (.aload_n 0, 1) := by decide +kernel
theorem d_MO_wantFor_192 : decode b_MO_wantFor 192 = .ok (.getfield 118, 3) := by decide +kernel
theorem d_MO_wantFor_195 : decode b_MO_wantFor 195 = .ok (.aload_n 0, 1) := by decide +kernel
theorem d_MO_wantFor_196 : decode b_MO_wantFor 196 = .ok (.getfield 98, 3) := by decide +kernel
theorem d_MO_wantFor_199 : decode b_MO_wantFor 199 = .ok (.i2l, 1) := by decide +kernel
theorem d_MO_wantFor_200 : decode b_MO_wantFor 200 = .ok (.lload 5, 2) := by decide +kernel
theorem d_MO_wantFor_202 : decode b_MO_wantFor 202 = .ok (.aload_n 0, 1) := by decide +kernel
theorem d_MO_wantFor_203 : decode b_MO_wantFor 203 = .ok (.getfield 118, 3) := by decide +kernel
theorem d_MO_wantFor_206 : decode b_MO_wantFor 206 = .ok (.lsub, 1) := by decide +kernel
theorem d_MO_wantFor_207 : decode b_MO_wantFor 207 = .ok (.aload_n 0, 1) := by decide +kernel
theorem d_MO_wantFor_208 : decode b_MO_wantFor 208 = .ok (.getfield 98, 3) := by decide +kernel
theorem d_MO_wantFor_211 : decode b_MO_wantFor 211 = .ok (.i2l, 1) := by decide +kernel
theorem d_MO_wantFor_212 : decode b_MO_wantFor 212 = .ok (.invokestatic 147, 3) := by decide +kernel
theorem d_MO_wantFor_215 : decode b_MO_wantFor 215 = .ok (.lmul, 1) := by decide +kernel
theorem d_MO_wantFor_216 : decode b_MO_wantFor 216 = .ok (.ladd, 1) := by decide +kernel
theorem d_MO_wantFor_217 : decode b_MO_wantFor 217 = .ok (.lstore 7, 2) := by decide +kernel
theorem d_MO_wantFor_219 : decode b_MO_wantFor 219 = .ok (.aload_n 0, 1) := by decide +kernel
theorem d_MO_wantFor_220 : decode b_MO_wantFor 220 = .ok (.lload 7, 2) := by decide +kernel
theorem d_MO_wantFor_222 : decode b_MO_wantFor 222 = .ok (.invokestatic 175, 3) := by decide +kernel
theorem d_MO_wantFor_225 : decode b_MO_wantFor 225 = .ok (.lload 7, 2) := by decide +kernel
theorem d_MO_wantFor_227 : decode b_MO_wantFor 227 = .ok (.aload_n 0, 1) := by decide +kernel
theorem d_MO_wantFor_228 : decode b_MO_wantFor 228 = .ok (.getfield 98, 3) := by decide +kernel
theorem d_MO_wantFor_231 : decode b_MO_wantFor 231 = .ok (.i2l, 1) := by decide +kernel
theorem d_MO_wantFor_232 : decode b_MO_wantFor 232 = .ok (.ladd, 1) := by decide +kernel
theorem d_MO_wantFor_233 : decode b_MO_wantFor 233 = .ok (.invokestatic 175, 3) := by decide +kernel
theorem d_MO_wantFor_236 : decode b_MO_wantFor 236 = .ok (.invokevirtual 186, 3) := by decide +kernel
theorem d_MO_wantFor_239 : decode b_MO_wantFor 239 = .ok (.goto 139, 3) := by decide +kernel
theorem d_MO_wantFor_242 : decode b_MO_wantFor 242 = .ok (.aload_n 0, 1) := by decide +kernel
theorem d_MO_wantFor_243 : decode b_MO_wantFor 243 = .ok (.getfield 134, 3) := by decide +kernel
theorem d_MO_wantFor_246 : decode b_MO_wantFor 246 = .ok (.ifCond .ne 87, 3) := by decide +kernel
theorem d_MO_wantFor_249 : decode b_MO_wantFor 249 = .ok (.aload_n 0, 1) := by decide +kernel
theorem d_MO_wantFor_250 : decode b_MO_wantFor 250 = .ok (.getfield 98, 3) := by decide +kernel
theorem d_MO_wantFor_253 : decode b_MO_wantFor 253 = .ok (.i2l, 1) := by decide +kernel
theorem d_MO_wantFor_254 : decode b_MO_wantFor 254 = .ok (.aload_n 0, 1) := by decide +kernel
theorem d_MO_wantFor_255 : decode b_MO_wantFor 255 = .ok (.getfield 101, 3) := by decide +kernel
theorem d_MO_wantFor_258 : decode b_MO_wantFor 258 = .ok (.i2l, 1) := by decide +kernel
theorem d_MO_wantFor_259 : decode b_MO_wantFor 259 = .ok (.ladd, 1) := by decide +kernel
theorem d_MO_wantFor_260 : decode b_MO_wantFor 260 = .ok (.lstore 5, 2) := by decide +kernel
theorem d_MO_wantFor_262 : decode b_MO_wantFor 262 = .ok (.aload_n 0, 1) := by decide +kernel
theorem d_MO_wantFor_263 : decode b_MO_wantFor 263 = .ok (.getfield 118, 3) := by decide +kernel
theorem d_MO_wantFor_266 : decode b_MO_wantFor 266 = .ok (.lload 5, 2) := by decide +kernel
theorem d_MO_wantFor_268 : decode b_MO_wantFor 268 = .ok (.lload_n 1, 1) := by decide +kernel
theorem d_MO_wantFor_269 : decode b_MO_wantFor 269 = .ok (.aload_n 0, 1) := by decide +kernel
theorem d_MO_wantFor_270 : decode b_MO_wantFor 270 = .ok (.getfield 118, 3) := by decide +kernel
theorem d_MO_wantFor_273 : decode b_MO_wantFor 273 = .ok (.lsub, 1) := by decide +kernel
theorem d_MO_wantFor_274 : decode b_MO_wantFor 274 = .ok (.lload 5, 2) := by decide +kernel
theorem d_MO_wantFor_276 : decode b_MO_wantFor 276 = .ok (.invokestatic 147, 3) := by decide +kernel
theorem d_MO_wantFor_279 : decode b_MO_wantFor 279 = .ok (.lmul, 1) := by decide +kernel
theorem d_MO_wantFor_280 : decode b_MO_wantFor 280 = .ok (.ladd, 1) := by decide +kernel
theorem d_MO_wantFor_281 : decode b_MO_wantFor 281 = .ok (.lstore 7, 2) := by decide +kernel
theorem d_MO_wantFor_283 : decode b_MO_wantFor 283 = .ok (.lload_n 1, 1) := by decide +kernel
theorem d_MO_wantFor_284 : decode b_MO_wantFor 284 = .ok (.lload 7, 2) := by decide +kernel
theorem d_MO_wantFor_286 : decode b_MO_wantFor 286 = .ok (.aload_n 0, 1) := by decide +kernel
theorem d_MO_wantFor_287 : decode b_MO_wantFor 287 = .ok (.getfield 98, 3) := by decide +kernel
theorem d_MO_wantFor_290 : decode b_MO_wantFor 290 = .ok (.i2l, 1) := by decide +kernel
theorem d_MO_wantFor_291 : decode b_MO_wantFor 291 = .ok (.ladd, 1) := by decide +kernel
theorem d_MO_wantFor_292 : decode b_MO_wantFor 292 = .ok (.lcmp, 1) := by decide +kernel
theorem d_MO_wantFor_293 : decode b_MO_wantFor 293 = .ok (.ifCond .ge 20, 3) := by decide +kernel
theorem d_MO_wantFor_296 : decode b_MO_wantFor 296 = .ok (.aload_n 0, 1) := by decide +kernel
theorem d_MO_wantFor_297 : decode b_MO_wantFor 297 = .ok (.lload 7, 2) := by decide +kernel
theorem d_MO_wantFor_299 : decode b_MO_wantFor 299 = .ok (.lload 7, 2) := by decide +kernel
theorem d_MO_wantFor_301 : decode b_MO_wantFor 301 = .ok (.aload_n 0, 1) := by decide +kernel
theorem d_MO_wantFor_302 : decode b_MO_wantFor 302 = .ok (.getfield 98, 3) := by decide +kernel
theorem d_MO_wantFor_305 : decode b_MO_wantFor 305 = .ok (.i2l, 1) := by decide +kernel
theorem d_MO_wantFor_306 : decode b_MO_wantFor 306 = .ok (.ladd, 1) := by decide +kernel
theorem d_MO_wantFor_307 : decode b_MO_wantFor 307 = .ok (.invokevirtual 186, 3) := by decide +kernel
theorem d_MO_wantFor_310 : decode b_MO_wantFor 310 = .ok (.goto 20, 3) := by decide +kernel
theorem d_MO_wantFor_313 : decode b_MO_wantFor 313 = .ok (.aload_n 0, 1) := by decide +kernel
theorem d_MO_wantFor_314 : decode b_MO_wantFor 314 = .ok (.lload 7, 2) := by decide +kernel
theorem d_MO_wantFor_316 : decode b_MO_wantFor 316 = .ok (.aload_n 0, 1) := by decide +kernel
theorem d_MO_wantFor_317 : decode b_MO_wantFor 317 = .ok (.getfield 98, 3) := by decide +kernel
theorem d_MO_wantFor_320 : decode b_MO_wantFor 320 = .ok (.i2l, 1) := by decide +kernel
theorem d_MO_wantFor_321 : decode b_MO_wantFor 321 = .ok (.ladd, 1) := by decide +kernel
theorem d_MO_wantFor_322 : decode b_MO_wantFor 322 = .ok (.lload 7, 2) := by decide +kernel
theorem d_MO_wantFor_324 : decode b_MO_wantFor 324 = .ok (.lload 5, 2) := by decide +kernel
theorem d_MO_wantFor_326 : decode b_MO_wantFor 326 = .ok (.ladd, 1) := by decide +kernel
theorem d_MO_wantFor_327 : decode b_MO_wantFor 327 = .ok (.invokevirtual 186, 3) := by decide +kernel
theorem d_MO_wantFor_330 : decode b_MO_wantFor 330 = .ok (.goto 48, 3) := by decide +kernel
theorem d_MO_wantFor_333 : decode b_MO_wantFor 333 = .ok (.aload_n 0, 1) := by decide +kernel
theorem d_MO_wantFor_334 : decode b_MO_wantFor 334 = .ok (.getfield 134, 3) := by decide +kernel
theorem d_MO_wantFor_337 : decode b_MO_wantFor 337 = .ok (.iconst 1, 1) := by decide +kernel
theorem d_MO_wantFor_338 : decode b_MO_wantFor 338 = .ok (.if_icmp .ne 30, 3) := by decide +kernel
theorem d_MO_wantFor_341 : decode b_MO_wantFor 341 = .ok (.aload_n 0, 1) := by decide +kernel
theorem d_MO_wantFor_342 : decode b_MO_wantFor 342 = .ok (.lload_n 1, 1) := by decide +kernel
theorem d_MO_wantFor_343 : decode b_MO_wantFor 343 = .ok (.lload_n 3, 1) := by decide +kernel
theorem d_MO_wantFor_344 : decode b_MO_wantFor 344 = .ok (.lconst 0, 1) := by decide +kernel
theorem d_MO_wantFor_345 : decode b_MO_wantFor 345 = .ok (.lcmp, 1) := by decide +kernel
theorem d_MO_wantFor_346 : decode b_MO_wantFor 346 = .ok (.ifCond .ge 11, 3) := by decide +kernel
theorem d_MO_wantFor_349 : decode b_MO_wantFor 349 = .ok (.aload_n 0, 1) := by decide +kernel
theorem d_MO_wantFor_350 : decode b_MO_wantFor 350 = .ok (.getfield 101, 3) := by decide +kernel
theorem d_MO_wantFor_353 : decode b_MO_wantFor 353 = .ok (.i2l, 1) := by decide +kernel
theorem d_MO_wantFor_354 : decode b_MO_wantFor 354 = .ok (.goto 8, 3) := by decide +kernel
theorem d_MO_wantFor_357 : decode b_MO_wantFor 357 = .ok (.aload_n 0, 1) := by decide +kernel
theorem d_MO_wantFor_358 : decode b_MO_wantFor 358 = .ok (.getfield 98, 3) := by decide +kernel
theorem d_MO_wantFor_361 : decode b_MO_wantFor 361 = .ok (.i2l, 1) := by decide +kernel
theorem d_MO_wantFor_362 : decode b_MO_wantFor 362 = .ok (.invokevirtual 190, 3) := by decide +kernel
theorem d_MO_wantFor_365 : decode b_MO_wantFor 365 = .ok (.goto 13, 3) := by decide +kernel
theorem d_MO_wantFor_368 : decode b_MO_wantFor 368 = .ok (.aload_n 0, 1) := by decide +kernel
theorem d_MO_wantFor_369 : decode b_MO_wantFor 369 = .ok (.lload_n 1, 1) := by decide +kernel
theorem d_MO_wantFor_370 : decode b_MO_wantFor 370 = .ok (.aload_n 0, 1) := by decide +kernel
theorem d_MO_wantFor_371 : decode b_MO_wantFor 371 = .ok (.getfield 118, 3) := by decide +kernel
theorem d_MO_wantFor_374 : decode b_MO_wantFor 374 = .ok (.lsub, 1) := by decide +kernel
theorem d_MO_wantFor_375 : decode b_MO_wantFor 375 = .ok (.invokevirtual 196, 3) := by decide +kernel
theorem d_MO_wantFor_378 : decode b_MO_wantFor 378 = .ok (.return_, 1) := by decide +kernel
theorem d_MO_spanAt_0 : decode b_MO_spanAt 0 = .ok (.iconst 0, 1) := by decide +kernel
theorem d_MO_spanAt_1 : decode b_MO_spanAt 1 = .ok (.istore 6, 2) := by decide +kernel
theorem d_MO_spanAt_3 : decode b_MO_spanAt 3 = .ok (.iload 6, 2) := by decide +kernel
theorem d_MO_spanAt_5 : decode b_MO_spanAt 5 = .ok (.sipush 200, 3) := by decide +kernel
theorem d_MO_spanAt_8 : decode b_MO_spanAt 8 = .ok (.if_icmp .ge 48, 3) := by decide +kernel
theorem d_MO_spanAt_11 : decode b_MO_spanAt 11 = .ok (.aload_n 0, 1) := by decide +kernel
theorem d_MO_spanAt_12 : decode b_MO_spanAt 12 = .ok (.getfield 42, 3) := by decide +kernel
theorem d_MO_spanAt_15 : decode b_MO_spanAt 15 = .ok (.iload 6, 2) := by decide +kernel
theorem d_MO_spanAt_17 : decode b_MO_spanAt 17 = .ok (.iaload, 1) := by decide +kernel
theorem d_MO_spanAt_18 : decode b_MO_spanAt 18 = .ok (.iload_n 1, 1) := by decide +kernel
theorem d_MO_spanAt_19 : decode b_MO_spanAt 19 = .ok (.if_icmp .ne 31, 3) := by decide +kernel
theorem d_MO_spanAt_22 : decode b_MO_spanAt 22 = .ok (.aload_n 0, 1) := by decide +kernel
theorem d_MO_spanAt_23 : decode b_MO_spanAt 23 = .ok (.getfield 45, 3) := by decide +kernel
theorem d_MO_spanAt_26 : decode b_MO_spanAt 26 = .ok (.iload 6, 2) := by decide +kernel
theorem d_MO_spanAt_28 : decode b_MO_spanAt 28 = .ok (.laload, 1) := by decide +kernel
theorem d_MO_spanAt_29 : decode b_MO_spanAt 29 = .ok (.lload_n 2, 1) := by decide +kernel
theorem d_MO_spanAt_30 : decode b_MO_spanAt 30 = .ok (.lcmp, 1) := by decide +kernel
theorem d_MO_spanAt_31 : decode b_MO_spanAt 31 = .ok (.ifCond .ne 19, 3) := by decide +kernel
theorem d_MO_spanAt_34 : decode b_MO_spanAt 34 = .ok (.aload_n 0, 1) := by decide +kernel
theorem d_MO_spanAt_35 : decode b_MO_spanAt 35 = .ok (.getfield 48, 3) := by decide +kernel
theorem d_MO_spanAt_38 : decode b_MO_spanAt 38 = .ok (.iload 6, 2) := by decide +kernel
theorem d_MO_spanAt_40 : decode b_MO_spanAt 40 = .ok (.laload, 1) := by decide +kernel
theorem d_MO_spanAt_41 : decode b_MO_spanAt 41 = .ok (.lload 4, 2) := by decide +kernel
theorem d_MO_spanAt_43 : decode b_MO_spanAt 43 = .ok (.lcmp, 1) := by decide +kernel
theorem d_MO_spanAt_44 : decode b_MO_spanAt 44 = .ok (.ifCond .ne 6, 3) := by decide +kernel
theorem d_MO_spanAt_47 : decode b_MO_spanAt 47 = .ok (.iload 6, 2) := by decide +kernel
theorem d_MO_spanAt_49 : decode b_MO_spanAt 49 = .ok (.ireturn, 1) := by decide +kernel
theorem d_MO_spanAt_50 : decode b_MO_spanAt 50 = .ok (.iinc 6 1, 3) := by decide +kernel
theorem d_MO_spanAt_53 : decode b_MO_spanAt 53 = .ok (.goto (-50), 3) := by decide +kernel
theorem d_MO_spanAt_56 : decode b_MO_spanAt 56 = .ok (.iconst (-1), 1) := by decide +kernel
theorem d_MO_spanAt_57 : decode b_MO_spanAt 57 = .ok (.ireturn, 1) := by decide +kernel
theorem d_MO_newSpan_0 : decode b_MO_newSpan 0 = .ok (.iconst 0, 1) := by decide +kernel
theorem d_MO_newSpan_1 : decode b_MO_newSpan 1 = .ok (.istore 6, 2) := by decide +kernel
theorem d_MO_newSpan_3 : decode b_MO_newSpan 3 = .ok (.aload_n 0, 1) := by decide +kernel
theorem d_MO_newSpan_4 : decode b_MO_newSpan 4 = .ok (.getfield 42, 3) := by decide +kernel
theorem d_MO_newSpan_7 : decode b_MO_newSpan 7 = .ok (.iload 6, 2) := by decide +kernel
theorem d_MO_newSpan_9 : decode b_MO_newSpan 9 = .ok (.iaload, 1) := by decide +kernel
theorem d_MO_newSpan_10 : decode b_MO_newSpan 10 = .ok (.iconst (-1), 1) := by decide +kernel
theorem d_MO_newSpan_11 : decode b_MO_newSpan 11 = .ok (.if_icmp .eq 9, 3) := by decide +kernel
theorem d_MO_newSpan_14 : decode b_MO_newSpan 14 = .ok (.iinc 6 1, 3) := by decide +kernel
theorem d_MO_newSpan_17 : decode b_MO_newSpan 17 = .ok (.goto (-14), 3) := by decide +kernel
theorem d_MO_newSpan_20 : decode b_MO_newSpan 20 = .ok (.aload_n 0, 1) := by decide +kernel
theorem d_MO_newSpan_21 : decode b_MO_newSpan 21 = .ok (.getfield 42, 3) := by decide +kernel
theorem d_MO_newSpan_24 : decode b_MO_newSpan 24 = .ok (.iload 6, 2) := by decide +kernel
theorem d_MO_newSpan_26 : decode b_MO_newSpan 26 = .ok (.iload_n 1, 1) := by decide +kernel
theorem d_MO_newSpan_27 : decode b_MO_newSpan 27 = .ok (.iastore, 1) := by decide +kernel
theorem d_MO_newSpan_28 : decode b_MO_newSpan 28 = .ok (.aload_n 0, 1) := by decide +kernel
theorem d_MO_newSpan_29 : decode b_MO_newSpan 29 = .ok (.getfield 45, 3) := by decide +kernel
theorem d_MO_newSpan_32 : decode b_MO_newSpan 32 = .ok (.iload 6, 2) := by decide +kernel
theorem d_MO_newSpan_34 : decode b_MO_newSpan 34 = .ok (.lload_n 2, 1) := by decide +kernel
theorem d_MO_newSpan_35 : decode b_MO_newSpan 35 = .ok (.lastore, 1) := by decide +kernel
theorem d_MO_newSpan_36 : decode b_MO_newSpan 36 = .ok (.aload_n 0, 1) := by decide +kernel
theorem d_MO_newSpan_37 : decode b_MO_newSpan 37 = .ok (.getfield 48, 3) := by decide +kernel
theorem d_MO_newSpan_40 : decode b_MO_newSpan 40 = .ok (.iload 6, 2) := by decide +kernel
theorem d_MO_newSpan_42 : decode b_MO_newSpan 42 = .ok (.lload 4, 2) := by decide +kernel
theorem d_MO_newSpan_44 : decode b_MO_newSpan 44 = .ok (.lastore, 1) := by decide +kernel
theorem d_MO_newSpan_45 : decode b_MO_newSpan 45 = .ok (.aload_n 0, 1) := by decide +kernel
theorem d_MO_newSpan_46 : decode b_MO_newSpan 46 = .ok (.getfield 51, 3) := by decide +kernel
theorem d_MO_newSpan_49 : decode b_MO_newSpan 49 = .ok (.iload 6, 2) := by decide +kernel
theorem d_MO_newSpan_51 : decode b_MO_newSpan 51 = .ok (.iconst 0, 1) := by decide +kernel
theorem d_MO_newSpan_52 : decode b_MO_newSpan 52 = .ok (.iastore, 1) := by decide +kernel
theorem d_MO_newSpan_53 : decode b_MO_newSpan 53 = .ok (.aload_n 0, 1) := by decide +kernel
theorem d_MO_newSpan_54 : decode b_MO_newSpan 54 = .ok (.getfield 54, 3) := by decide +kernel
theorem d_MO_newSpan_57 : decode b_MO_newSpan 57 = .ok (.iload 6, 2) := by decide +kernel
theorem d_MO_newSpan_59 : decode b_MO_newSpan 59 = .ok (.iconst 0, 1) := by decide +kernel
theorem d_MO_newSpan_60 : decode b_MO_newSpan 60 = .ok (.iastore, 1) := by decide +kernel
theorem d_MO_newSpan_61 : decode b_MO_newSpan 61 = .ok (.aload_n 0, 1) := by decide +kernel
theorem d_MO_newSpan_62 : decode b_MO_newSpan 62 = .ok (.getfield 57, 3) := by decide +kernel
theorem d_MO_newSpan_65 : decode b_MO_newSpan 65 = .ok (.iload 6, 2) := by decide +kernel
theorem d_MO_newSpan_67 : decode b_MO_newSpan 67 = .ok (.iconst 0, 1) := by decide +kernel
theorem d_MO_newSpan_68 : decode b_MO_newSpan 68 = .ok (.bastore, 1) := by decide +kernel
theorem d_MO_newSpan_69 : decode b_MO_newSpan 69 = .ok (.iconst 0, 1) := by decide +kernel
theorem d_MO_newSpan_70 : decode b_MO_newSpan 70 = .ok (.istore 7, 2) := by decide +kernel
theorem d_MO_newSpan_72 : decode b_MO_newSpan 72 = .ok (.iload 7, 2) := by decide +kernel
theorem d_MO_newSpan_74 : decode b_MO_newSpan 74 = .ok (.sipush 300, 3) := by decide +kernel
theorem d_MO_newSpan_77 : decode b_MO_newSpan 77 = .ok (.if_icmp .ge 39, 3) := by decide +kernel
theorem d_MO_newSpan_80 : decode b_MO_newSpan 80 = .ok (.aload_n 0, 1) := by decide +kernel
theorem d_MO_newSpan_81 : decode b_MO_newSpan 81 = .ok (.getfield 62, 3) := by decide +kernel
theorem d_MO_newSpan_84 : decode b_MO_newSpan 84 = .ok (.sipush 300, 3) := by decide +kernel
theorem d_MO_newSpan_87 : decode b_MO_newSpan 87 = .ok (.iload 6, 2) := by decide +kernel
theorem d_MO_newSpan_89 : decode b_MO_newSpan 89 = .ok (.imul, 1) := by decide +kernel
theorem d_MO_newSpan_90 : decode b_MO_newSpan 90 = .ok (.iload 7, 2) := by decide +kernel
theorem d_MO_newSpan_92 : decode b_MO_newSpan 92 = .ok (.iadd, 1) := by decide +kernel
theorem d_MO_newSpan_93 : decode b_MO_newSpan 93 = .ok (.iconst 0, 1) := by decide +kernel
theorem d_MO_newSpan_94 : decode b_MO_newSpan 94 = .ok (.bastore, 1) := by decide +kernel
theorem d_MO_newSpan_95 : decode b_MO_newSpan 95 = .ok (.aload_n 0, 1) := by decide +kernel
theorem d_MO_newSpan_96 : decode b_MO_newSpan 96 = .ok (.getfield 65, 3) := by decide +kernel
theorem d_MO_newSpan_99 : decode b_MO_newSpan 99 = .ok (.sipush 300, 3) := by decide +kernel
theorem d_MO_newSpan_102 : decode b_MO_newSpan 102 = .ok (.iload 6, 2) := by decide +kernel
theorem d_MO_newSpan_104 : decode b_MO_newSpan 104 = .ok (.imul, 1) := by decide +kernel
theorem d_MO_newSpan_105 : decode b_MO_newSpan 105 = .ok (.iload 7, 2) := by decide +kernel
theorem d_MO_newSpan_107 : decode b_MO_newSpan 107 = .ok (.iadd, 1) := by decide +kernel
theorem d_MO_newSpan_108 : decode b_MO_newSpan 108 = .ok (.iconst 0, 1) := by decide +kernel
theorem d_MO_newSpan_109 : decode b_MO_newSpan 109 = .ok (.bastore, 1) := by decide +kernel
theorem d_MO_newSpan_110 : decode b_MO_newSpan 110 = .ok (.iinc 7 1, 3) := by decide +kernel
theorem d_MO_newSpan_113 : decode b_MO_newSpan 113 = .ok (.goto (-41), 3) := by decide +kernel
theorem d_MO_newSpan_116 : decode b_MO_newSpan 116 = .ok (.aload_n 0, 1) := by decide +kernel
theorem d_MO_newSpan_117 : decode b_MO_newSpan 117 = .ok (.dup, 1) := by decide +kernel
theorem d_MO_newSpan_118 : decode b_MO_newSpan 118 = .ok (.getfield 200, 3) := by decide +kernel
theorem d_MO_newSpan_121 : decode b_MO_newSpan 121 = .ok (.iconst 1, 1) := by decide +kernel
theorem d_MO_newSpan_122 : decode b_MO_newSpan 122 = .ok (.iadd, 1) := by decide +kernel
theorem d_MO_newSpan_123 : decode b_MO_newSpan 123 = .ok (.putfield 200, 3) := by decide +kernel
theorem d_MO_newSpan_126 : decode b_MO_newSpan 126 = .ok (.iload 6, 2) := by decide +kernel
theorem d_MO_newSpan_128 : decode b_MO_newSpan 128 = .ok (.ireturn, 1) := by decide +kernel
theorem d_MO_newRow_0 : decode b_MO_newRow 0 = .ok (.iconst 0, 1) := by decide +kernel
theorem d_MO_newRow_1 : decode b_MO_newRow 1 = .ok (.istore 6, 2) := by decide +kernel
theorem d_MO_newRow_3 : decode b_MO_newRow 3 = .ok (.aload_n 0, 1) := by decide +kernel
theorem d_MO_newRow_4 : decode b_MO_newRow 4 = .ok (.getfield 27, 3) := by decide +kernel
theorem d_MO_newRow_7 : decode b_MO_newRow 7 = .ok (.iload 6, 2) := by decide +kernel
theorem d_MO_newRow_9 : decode b_MO_newRow 9 = .ok (.iaload, 1) := by decide +kernel
theorem d_MO_newRow_10 : decode b_MO_newRow 10 = .ok (.iconst (-1), 1) := by decide +kernel
theorem d_MO_newRow_11 : decode b_MO_newRow 11 = .ok (.if_icmp .eq 9, 3) := by decide +kernel
theorem d_MO_newRow_14 : decode b_MO_newRow 14 = .ok (.iinc 6 1, 3) := by decide +kernel
theorem d_MO_newRow_17 : decode b_MO_newRow 17 = .ok (.goto (-14), 3) := by decide +kernel
theorem d_MO_newRow_20 : decode b_MO_newRow 20 = .ok (.aload_n 0, 1) := by decide +kernel
theorem d_MO_newRow_21 : decode b_MO_newRow 21 = .ok (.getfield 27, 3) := by decide +kernel
theorem d_MO_newRow_24 : decode b_MO_newRow 24 = .ok (.iload 6, 2) := by decide +kernel
theorem d_MO_newRow_26 : decode b_MO_newRow 26 = .ok (.iload_n 1, 1) := by decide +kernel
theorem d_MO_newRow_27 : decode b_MO_newRow 27 = .ok (.iastore, 1) := by decide +kernel
theorem d_MO_newRow_28 : decode b_MO_newRow 28 = .ok (.aload_n 0, 1) := by decide +kernel
theorem d_MO_newRow_29 : decode b_MO_newRow 29 = .ok (.getfield 30, 3) := by decide +kernel
theorem d_MO_newRow_32 : decode b_MO_newRow 32 = .ok (.iload 6, 2) := by decide +kernel
theorem d_MO_newRow_34 : decode b_MO_newRow 34 = .ok (.lload_n 2, 1) := by decide +kernel
theorem d_MO_newRow_35 : decode b_MO_newRow 35 = .ok (.lastore, 1) := by decide +kernel
theorem d_MO_newRow_36 : decode b_MO_newRow 36 = .ok (.aload_n 0, 1) := by decide +kernel
theorem d_MO_newRow_37 : decode b_MO_newRow 37 = .ok (.getfield 33, 3) := by decide +kernel
theorem d_MO_newRow_40 : decode b_MO_newRow 40 = .ok (.iload 6, 2) := by decide +kernel
theorem d_MO_newRow_42 : decode b_MO_newRow 42 = .ok (.lload 4, 2) := by decide +kernel
theorem d_MO_newRow_44 : decode b_MO_newRow 44 = .ok (.lastore, 1) := by decide +kernel
theorem d_MO_newRow_45 : decode b_MO_newRow 45 = .ok (.aload_n 0, 1) := by decide +kernel
theorem d_MO_newRow_46 : decode b_MO_newRow 46 = .ok (.getfield 36, 3) := by decide +kernel
theorem d_MO_newRow_49 : decode b_MO_newRow 49 = .ok (.iload 6, 2) := by decide +kernel
theorem d_MO_newRow_51 : decode b_MO_newRow 51 = .ok (.aload_n 0, 1) := by decide +kernel
theorem d_MO_newRow_52 : decode b_MO_newRow 52 = .ok (.getfield 115, 3) := by decide +kernel
theorem d_MO_newRow_55 : decode b_MO_newRow 55 = .ok (.iastore, 1) := by decide +kernel
theorem d_MO_newRow_56 : decode b_MO_newRow 56 = .ok (.aload_n 0, 1) := by decide +kernel
theorem d_MO_newRow_57 : decode b_MO_newRow 57 = .ok (.getfield 39, 3) := by decide +kernel
theorem d_MO_newRow_60 : decode b_MO_newRow 60 = .ok (.iload 6, 2) := by decide +kernel
theorem d_MO_newRow_62 : decode b_MO_newRow 62 = .ok (.iconst (-1), 1) := by decide +kernel
theorem d_MO_newRow_63 : decode b_MO_newRow 63 = .ok (.iastore, 1) := by decide +kernel
theorem d_MO_newRow_64 : decode b_MO_newRow 64 = .ok (.aload_n 0, 1) := by decide +kernel
theorem d_MO_newRow_65 : decode b_MO_newRow 65 = .ok (.dup, 1) := by decide +kernel
theorem d_MO_newRow_66 : decode b_MO_newRow 66 = .ok (.getfield 203, 3) := by decide +kernel
theorem d_MO_newRow_69 : decode b_MO_newRow 69 = .ok (.iconst 1, 1) := by decide +kernel
theorem d_MO_newRow_70 : decode b_MO_newRow 70 = .ok (.iadd, 1) := by decide +kernel
theorem d_MO_newRow_71 : decode b_MO_newRow 71 = .ok (.putfield 203, 3) := by decide +kernel
theorem d_MO_newRow_74 : decode b_MO_newRow 74 = .ok (.iload 6, 2) := by decide +kernel
theorem d_MO_newRow_76 : decode b_MO_newRow 76 = .ok (.ireturn, 1) := by decide +kernel
theorem d_MO_isBefore_0 : decode b_MO_isBefore 0 = .ok (.aload_n 0, 1) := by decide +kernel
theorem d_MO_isBefore_1 : decode b_MO_isBefore 1 = .ok (.getfield 30, 3) := by decide +kernel
theorem d_MO_isBefore_4 : decode b_MO_isBefore 4 = .ok (.iload_n 1, 1) := by decide +kernel
theorem d_MO_isBefore_5 : decode b_MO_isBefore 5 = .ok (.laload, 1) := by decide +kernel
theorem d_MO_isBefore_6 : decode b_MO_isBefore 6 = .ok (.aload_n 0, 1) := by decide +kernel
theorem d_MO_isBefore_7 : decode b_MO_isBefore 7 = .ok (.getfield 30, 3) := by decide +kernel
theorem d_MO_isBefore_10 : decode b_MO_isBefore 10 = .ok (.iload_n 2, 1) := by decide +kernel
theorem d_MO_isBefore_11 : decode b_MO_isBefore 11 = .ok (.laload, 1) := by decide +kernel
theorem d_MO_isBefore_12 : decode b_MO_isBefore 12 = .ok (.lcmp, 1) := by decide +kernel
theorem d_MO_isBefore_13 : decode b_MO_isBefore 13 = .ok (.ifCond .lt 34, 3) := by decide +kernel
theorem d_MO_isBefore_16 : decode b_MO_isBefore 16 = .ok (.aload_n 0, 1) := by decide +kernel
theorem d_MO_isBefore_17 : decode b_MO_isBefore 17 = .ok (.getfield 30, 3) := by decide +kernel
theorem d_MO_isBefore_20 : decode b_MO_isBefore 20 = .ok (.iload_n 1, 1) := by decide +kernel
theorem d_MO_isBefore_21 : decode b_MO_isBefore 21 = .ok (.laload, 1) := by decide +kernel
theorem d_MO_isBefore_22 : decode b_MO_isBefore 22 = .ok (.aload_n 0, 1) := by decide +kernel
theorem d_MO_isBefore_23 : decode b_MO_isBefore 23 = .ok (.getfield 30, 3) := by decide +kernel
theorem d_MO_isBefore_26 : decode b_MO_isBefore 26 = .ok (.iload_n 2, 1) := by decide +kernel
theorem d_MO_isBefore_27 : decode b_MO_isBefore 27 = .ok (.laload, 1) := by decide +kernel
theorem d_MO_isBefore_28 : decode b_MO_isBefore 28 = .ok (.lcmp, 1) := by decide +kernel
theorem d_MO_isBefore_29 : decode b_MO_isBefore 29 = .ok (.ifCond .ne 22, 3) := by decide +kernel
theorem d_MO_isBefore_32 : decode b_MO_isBefore 32 = .ok (.aload_n 0, 1) := by decide +kernel
theorem d_MO_isBefore_33 : decode b_MO_isBefore 33 = .ok (.getfield 36, 3) := by decide +kernel
theorem d_MO_isBefore_36 : decode b_MO_isBefore 36 = .ok (.iload_n 1, 1) := by decide +kernel
theorem d_MO_isBefore_37 : decode b_MO_isBefore 37 = .ok (.iaload, 1) := by decide +kernel
theorem d_MO_isBefore_38 : decode b_MO_isBefore 38 = .ok (.aload_n 0, 1) := by decide +kernel
theorem d_MO_isBefore_39 : decode b_MO_isBefore 39 = .ok (.getfield 36, 3) := by decide +kernel
theorem d_MO_isBefore_42 : decode b_MO_isBefore 42 = .ok (.iload_n 2, 1) := by decide +kernel
theorem d_MO_isBefore_43 : decode b_MO_isBefore 43 = .ok (.iaload, 1) := by decide +kernel
theorem d_MO_isBefore_44 : decode b_MO_isBefore 44 = .ok (.if_icmp .ge 7, 3) := by decide +kernel
theorem d_MO_isBefore_47 : decode b_MO_isBefore 47 = .ok (.iconst 1, 1) := by decide +kernel
theorem d_MO_isBefore_48 : decode b_MO_isBefore 48 = .ok (.goto 4, 3) := by decide +kernel
theorem d_MO_isBefore_51 : decode b_MO_isBefore 51 = .ok (.iconst 0, 1) := by decide +kernel
theorem d_MO_isBefore_52 : decode b_MO_isBefore 52 = .ok (.ireturn, 1) := by decide +kernel
theorem d_MO_contents_0 : decode b_MO_contents 0 = .ok (.iconst 0, 1) := by decide +kernel
theorem d_MO_contents_1 : decode b_MO_contents 1 = .ok (.istore_n 1, 1) := by decide +kernel
theorem d_MO_contents_2 : decode b_MO_contents 2 = .ok (.iload_n 1, 1) := by decide +kernel
theorem d_MO_contents_3 : decode b_MO_contents 3 = .ok (.iconst 5, 1) := by decide +kernel
theorem d_MO_contents_4 : decode b_MO_contents 4 = .ok (.if_icmp .ge 16, 3) := by decide +kernel
theorem d_MO_contents_7 : decode b_MO_contents 7 = .ok (.aload_n 0, 1) := by decide +kernel
theorem d_MO_contents_8 : decode b_MO_contents 8 = .ok (.getfield 83, 3) := by decide +kernel
theorem d_MO_contents_11 : decode b_MO_contents 11 = .ok (.iload_n 1, 1) := by decide +kernel
theorem d_MO_contents_12 : decode b_MO_contents 12 = .ok (.lconst 0, 1) := by decide +kernel
theorem d_MO_contents_13 : decode b_MO_contents 13 = .ok (.lastore, 1) := by decide +kernel
theorem d_MO_contents_14 : decode b_MO_contents 14 = .ok (.iinc 1 1, 3) := by decide +kernel
theorem d_MO_contents_17 : decode b_MO_contents 17 = .ok (.goto (-15), 3) := by decide +kernel
theorem d_MO_contents_20 : decode b_MO_contents 20 = .ok (.iconst 0, 1) := by decide +kernel
theorem d_MO_contents_21 : decode b_MO_contents 21 = .ok (.istore_n 1, 1) := by decide +kernel
theorem d_MO_contents_22 : decode b_MO_contents 22 = .ok (.iload_n 1, 1) := by decide +kernel
theorem d_MO_contents_23 : decode b_MO_contents 23 = .ok (.iconst (-1), 1) := by decide +kernel
theorem d_MO_contents_24 : decode b_MO_contents 24 = .ok (.if_icmp .eq 181, 3) := by decide +kernel
theorem d_MO_contents_27 : decode b_MO_contents 27 = .ok (.iconst (-1), 1) := by decide +kernel
theorem d_MO_contents_28 : decode b_MO_contents 28 = .ok (.istore_n 1, 1) := by decide +kernel
theorem d_MO_contents_29 : decode b_MO_contents 29 = .ok (.iconst 0, 1) := by decide +kernel
theorem d_MO_contents_30 : decode b_MO_contents 30 = .ok (.istore_n 2, 1) := by decide +kernel
theorem d_MO_contents_31 : decode b_MO_contents 31 = .ok (.iload_n 2, 1) := by decide +kernel
theorem d_MO_contents_32 : decode b_MO_contents 32 = .ok (.sipush 300, 3) := by decide +kernel
theorem d_MO_contents_35 : decode b_MO_contents 35 = .ok (.if_icmp .ge 34, 3) := by decide +kernel
theorem d_MO_contents_38 : decode b_MO_contents 38 = .ok (.aload_n 0, 1) := by decide +kernel
theorem d_MO_contents_39 : decode b_MO_contents 39 = .ok (.getfield 86, 3) := by decide +kernel
theorem d_MO_contents_42 : decode b_MO_contents 42 = .ok (.iload_n 2, 1) := by decide +kernel
theorem d_MO_contents_43 : decode b_MO_contents 43 = .ok (.baload, 1) := by decide +kernel
theorem d_MO_contents_44 : decode b_MO_contents 44 = .ok (.ifCond .eq 19, 3) := by decide +kernel
theorem d_MO_contents_47 : decode b_MO_contents 47 = .ok (.iload_n 1, 1) := by decide +kernel
theorem d_MO_contents_48 : decode b_MO_contents 48 = .ok (.iconst (-1), 1) := by decide +kernel
theorem d_MO_contents_49 : decode b_MO_contents 49 = .ok (.if_icmp .eq 12, 3) := by decide +kernel
theorem d_MO_contents_52 : decode b_MO_contents 52 = .ok (.aload_n 0, 1) := by decide +kernel
theorem d_MO_contents_53 : decode b_MO_contents 53 = .ok (.iload_n 2, 1) := by decide +kernel
theorem d_MO_contents_54 : decode b_MO_contents 54 = .ok (.iload_n 1, 1) := by decide +kernel
theorem d_MO_contents_55 : decode b_MO_contents 55 = .ok (.invokevirtual 206, 3) := by decide +kernel
theorem d_MO_contents_58 : decode b_MO_contents 58 = .ok (.ifCond .eq 5, 3) := by decide +kernel
theorem d_MO_contents_61 : decode b_MO_contents 61 = .ok (.iload_n 2, 1) := by decide +kernel
theorem d_MO_contents_62 : decode b_MO_contents 62 = .ok (.istore_n 1, 1) := by decide +kernel
theorem d_MO_contents_63 : decode b_MO_contents 63 = .ok (.iinc 2 1, 3) := by decide +kernel
theorem d_MO_contents_66 : decode b_MO_contents 66 = .ok (.goto (-35), 3) := by decide +kernel
theorem d_MO_contents_69 : decode b_MO_contents 69 = .ok (.iload_n 1, 1) := by decide +kernel
theorem d_MO_contents_70 : decode b_MO_contents 70 = .ok (.iconst (-1), 1) := by decide +kernel
theorem d_MO_contents_71 : decode b_MO_contents 71 = .ok (.if_icmp .eq (-49), 3) := by decide +kernel
theorem d_MO_contents_74 : decode b_MO_contents 74 = .ok (.aload_n 0, 1) := by decide +kernel
theorem d_MO_contents_75 : decode b_MO_contents 75 = .ok (.getfield 33, 3) := by decide +kernel
theorem d_MO_contents_78 : decode b_MO_contents 78 = .ok (.iload_n 1, 1) := by decide +kernel
theorem d_MO_contents_79 : decode b_MO_contents 79 = .ok (.laload, 1) := by decide +kernel
theorem d_MO_contents_80 : decode b_MO_contents 80 = .ok (.lstore_n 2, 1) := by decide +kernel
theorem d_MO_contents_81 : decode b_MO_contents 81 = .ok (.aload_n 0, 1) := by decide +kernel
theorem d_MO_contents_82 : decode b_MO_contents 82 = .ok (.getfield 83, 3) := by decide +kernel
theorem d_MO_contents_85 : decode b_MO_contents 85 = .ok (.iconst 2, 1) := by decide +kernel
theorem d_MO_contents_86 : decode b_MO_contents 86 = .ok (.aload_n 0, 1) := by decide +kernel
theorem d_MO_contents_87 : decode b_MO_contents 87 = .ok (.getfield 83, 3) := by decide +kernel
theorem d_MO_contents_90 : decode b_MO_contents 90 = .ok (.iconst 0, 1) := by decide +kernel
theorem d_MO_contents_91 : decode b_MO_contents 91 = .ok (.laload, 1) := by decide +kernel
theorem d_MO_contents_92 : decode b_MO_contents 92 = .ok (.lconst 0, 1) := by decide +kernel
theorem d_MO_contents_93 : decode b_MO_contents 93 = .ok (.lcmp, 1) := by decide +kernel
theorem d_MO_contents_94 : decode b_MO_contents 94 = .ok (.ifCond .eq 14, 3) := by decide +kernel
theorem d_MO_contents_97 : decode b_MO_contents 97 = .ok (.lload_n 2, 1) := by decide +kernel
theorem d_MO_contents_98 : decode b_MO_contents 98 = .ok (.aload_n 0, 1) := by decide +kernel
theorem d_MO_contents_99 : decode b_MO_contents 99 = .ok (.getfield 83, 3) := by decide +kernel
theorem d_MO_contents_102 : decode b_MO_contents 102 = .ok (.iconst 2, 1) := by decide +kernel
theorem d_MO_contents_103 : decode b_MO_contents 103 = .ok (.laload, 1) := by decide +kernel
theorem d_MO_contents_104 : decode b_MO_contents 104 = .ok (.lcmp, 1) := by decide +kernel
theorem d_MO_contents_105 : decode b_MO_contents 105 = .ok (.ifCond .ge 7, 3) := by decide +kernel
theorem d_MO_contents_108 : decode b_MO_contents 108 = .ok (.lload_n 2, 1) := by decide +kernel
theorem d_MO_contents_109 : decode b_MO_contents 109 = .ok (.goto 9, 3) := by decide +kernel
theorem d_MO_contents_112 : decode b_MO_contents 112 = .ok (.aload_n 0, 1) := by decide +kernel
theorem d_MO_contents_113 : decode b_MO_contents 113 = .ok (.getfield 83, 3) := by decide +kernel
theorem d_MO_contents_116 : decode b_MO_contents 116 = .ok (.iconst 2, 1) := by decide +kernel
theorem d_MO_contents_117 : decode b_MO_contents 117 = .ok (.laload, 1) := by decide +kernel
theorem d_MO_contents_118 : decode b_MO_contents 118 = .ok (.lastore, 1) := by decide +kernel
theorem d_MO_contents_119 : decode b_MO_contents 119 = .ok (.aload_n 0, 1) := by decide +kernel
theorem d_MO_contents_120 : decode b_MO_contents 120 = .ok (.getfield 83, 3) := by decide +kernel
theorem d_MO_contents_123 : decode b_MO_contents 123 = .ok (.iconst 3, 1) := by decide +kernel
theorem d_MO_contents_124 : decode b_MO_contents 124 = .ok (.aload_n 0, 1) := by decide +kernel
theorem d_MO_contents_125 : decode b_MO_contents 125 = .ok (.getfield 83, 3) := by decide +kernel
theorem d_MO_contents_128 : decode b_MO_contents 128 = .ok (.iconst 0, 1) := by decide +kernel
theorem d_MO_contents_129 : decode b_MO_contents 129 = .ok (.laload, 1) := by decide +kernel
theorem d_MO_contents_130 : decode b_MO_contents 130 = .ok (.lconst 0, 1) := by decide +kernel
theorem d_MO_contents_131 : decode b_MO_contents 131 = .ok (.lcmp, 1) := by decide +kernel
theorem d_MO_contents_132 : decode b_MO_contents 132 = .ok (.ifCond .eq 14, 3) := by decide +kernel
theorem d_MO_contents_135 : decode b_MO_contents 135 = .ok (.lload_n 2, 1) := by decide +kernel
theorem d_MO_contents_136 : decode b_MO_contents 136 = .ok (.aload_n 0, 1) := by decide +kernel
theorem d_MO_contents_137 : decode b_MO_contents 137 = .ok (.getfield 83, 3) := by decide +kernel
theorem d_MO_contents_140 : decode b_MO_contents 140 = .ok (.iconst 3, 1) := by decide +kernel
theorem d_MO_contents_141 : decode b_MO_contents 141 = .ok (.laload, 1) := by decide +kernel
theorem d_MO_contents_142 : decode b_MO_contents 142 = .ok (.lcmp, 1) := by decide +kernel
theorem d_MO_contents_143 : decode b_MO_contents 143 = .ok (.ifCond .le 7, 3) := by decide +kernel
theorem d_MO_contents_146 : decode b_MO_contents 146 = .ok (.lload_n 2, 1) := by decide +kernel
theorem d_MO_contents_147 : decode b_MO_contents 147 = .ok (.goto 9, 3) := by decide +kernel
theorem d_MO_contents_150 : decode b_MO_contents 150 = .ok (.aload_n 0, 1) := by decide +kernel
theorem d_MO_contents_151 : decode b_MO_contents 151 = .ok (.getfield 83, 3) := by decide +kernel
theorem d_MO_contents_154 : decode b_MO_contents 154 = .ok (.iconst 3, 1) := by decide +kernel
theorem d_MO_contents_155 : decode b_MO_contents 155 = .ok (.laload, 1) := by decide +kernel
theorem d_MO_contents_156 : decode b_MO_contents 156 = .ok (.lastore, 1) := by decide +kernel
theorem d_MO_contents_157 : decode b_MO_contents 157 = .ok (.aload_n 0, 1) := by decide +kernel
theorem d_MO_contents_158 : decode b_MO_contents 158 = .ok (.getfield 83, 3) := by decide +kernel
theorem d_MO_contents_161 : decode b_MO_contents 161 = .ok (.iconst 0, 1) := by decide +kernel
theorem d_MO_contents_162 : decode b_MO_contents 162 = .ok (.dup2, 1) := by decide +kernel
theorem d_MO_contents_163 : decode b_MO_contents 163 = .ok (.laload, 1) := by decide +kernel
theorem d_MO_contents_164 : decode b_MO_contents 164 = .ok (.lconst 1, 1) := by decide +kernel
theorem d_MO_contents_165 : decode b_MO_contents 165 = .ok (.ladd, 1) := by decide +kernel
theorem d_MO_contents_166 : decode b_MO_contents 166 = .ok (.lastore, 1) := by decide +kernel
theorem d_MO_contents_167 : decode b_MO_contents 167 = .ok (.aload_n 0, 1) := by decide +kernel
theorem d_MO_contents_168 : decode b_MO_contents 168 = .ok (.getfield 83, 3) := by decide +kernel
theorem d_MO_contents_171 : decode b_MO_contents 171 = .ok (.iconst 1, 1) := by decide +kernel
theorem d_MO_contents_172 : decode b_MO_contents 172 = .ok (.dup2, 1) := by decide +kernel
theorem d_MO_contents_173 : decode b_MO_contents 173 = .ok (.laload, 1) := by decide +kernel
