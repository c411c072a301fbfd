theorem d_SS_add_63 : decode b_SS_add 63 = .ok (.imul, 1) := by decide +kernel
theorem d_SS_add_64 : decode b_SS_add 64 = .ok (.istore 7, 2) := by decide +kernel
theorem d_SS_add_66 : decode b_SS_add 66 = .ok (.iload 7, 2) := by decide +kernel
theorem d_SS_add_68 : decode b_SS_add 68 = .ok (.iload 6, 2) := by decide +kernel
theorem d_SS_add_70 : decode b_SS_add 70 = .ok (.iconst 5, 1) := by decide +kernel
theorem d_SS_add_71 : decode b_SS_add 71 = .ok (.imul, 1) := by decide +kernel
theorem d_SS_add_72 : decode b_SS_add 72 = .ok (.iconst 5, 1) := by decide +kernel
theorem d_SS_add_73 : decode b_SS_add 73 = .ok (.iadd, 1) := by decide +kernel
theorem d_SS_add_74 : decode b_SS_add 74 = .ok (.if_icmp .ge 25, 3) := by decide +kernel
theorem d_SS_add_77 : decode b_SS_add 77 = .ok (.aload_n 0, 1) := by decide +kernel
theorem d_SS_add_78 : decode b_SS_add 78 = .ok (.getfield 32, 3) := by decide +kernel
theorem d_SS_add_81 : decode b_SS_add 81 = .ok (.iload 7, 2) := by decide +kernel
theorem d_SS_add_83 : decode b_SS_add 83 = .ok (.lconst 0, 1) := by decide +kernel
theorem d_SS_add_84 : decode b_SS_add 84 = .ok (.lastore, 1) := by decide +kernel
theorem d_SS_add_85 : decode b_SS_add 85 = .ok (.aload_n 0, 1) := by decide +kernel
theorem d_SS_add_86 : decode b_SS_add 86 = .ok (.getfield 35, 3) := by decide +kernel
theorem d_SS_add_89 : decode b_SS_add 89 = .ok (.iload 7, 2) := by decide +kernel
theorem d_SS_add_91 : decode b_SS_add 91 = .ok (.lconst 0, 1) := by decide +kernel
theorem d_SS_add_92 : decode b_SS_add 92 = .ok (.lastore, 1) := by decide +kernel
theorem d_SS_add_93 : decode b_SS_add 93 = .ok (.iinc 7 1, 3) := by decide +kernel
theorem d_SS_add_96 : decode b_SS_add 96 = .ok (.goto (-30), 3) := by decide +kernel
theorem d_SS_add_99 : decode b_SS_add 99 = .ok (.aload_n 0, 1) := by decide +kernel
theorem d_SS_add_100 : decode b_SS_add 100 = .ok (.getfield 47, 3) := by decide +kernel
theorem d_SS_add_103 : decode b_SS_add 103 = .ok (.istore 7, 2) := by decide +kernel
theorem d_SS_add_105 : decode b_SS_add 105 = .ok (.iload 7, 2) := by decide +kernel
theorem d_SS_add_107 : decode b_SS_add 107 = .ok (.ifCond .le 43, 3) := by decide +kernel
theorem d_SS_add_110 : decode b_SS_add 110 = .ok (.aload_n 0, 1) := by decide +kernel
theorem d_SS_add_111 : decode b_SS_add 111 = .ok (.aload_n 0, 1) := by decide +kernel
theorem d_SS_add_112 : decode b_SS_add 112 = .ok (.getfield 44, 3) := by decide +kernel
theorem d_SS_add_115 : decode b_SS_add 115 = .ok (.iload 7, 2) := by decide +kernel
theorem d_SS_add_117 : decode b_SS_add 117 = .ok (.iconst 1, 1) := by decide +kernel
theorem d_SS_add_118 : decode b_SS_add 118 = .ok (.isub, 1) := by decide +kernel
theorem d_SS_add_119 : decode b_SS_add 119 = .ok (.iaload, 1) := by decide +kernel
theorem d_SS_add_120 : decode b_SS_add 120 = .ok (.iload 6, 2) := by decide +kernel
theorem d_SS_add_122 : decode b_SS_add 122 = .ok (.invokevirtual 51, 3) := by decide +kernel
theorem d_SS_add_125 : decode b_SS_add 125 = .ok (.ifCond .eq 25, 3) := by decide +kernel
theorem d_SS_add_128 : decode b_SS_add 128 = .ok (.aload_n 0, 1) := by decide +kernel
theorem d_SS_add_129 : decode b_SS_add 129 = .ok (.getfield 44, 3) := by decide +kernel
theorem d_SS_add_132 : decode b_SS_add 132 = .ok (.iload 7, 2) := by decide +kernel
theorem d_SS_add_134 : decode b_SS_add 134 = .ok (.aload_n 0, 1) := by decide +kernel
theorem d_SS_add_135 : decode b_SS_add 135 = .ok (.getfield 44, 3) := by decide +kernel
theorem d_SS_add_138 : decode b_SS_add 138 = .ok (.iload 7, 2) := by decide +kernel
theorem d_SS_add_140 : decode b_SS_add 140 = .ok (.iconst 1, 1) := by decide +kernel
theorem d_SS_add_141 : decode b_SS_add 141 = .ok (.isub, 1) := by decide +kernel
theorem d_SS_add_142 : decode b_SS_add 142 = .ok (.iaload, 1) := by decide +kernel
theorem d_SS_add_143 : decode b_SS_add 143 = .ok (.iastore, 1) := by decide +kernel
theorem d_SS_add_144 : decode b_SS_add 144 = .ok (.iinc 7 (-1), 3) := by decide +kernel
theorem d_SS_add_147 : decode b_SS_add 147 = .ok (.goto (-42), 3) := by decide +kernel
theorem d_SS_add_150 : decode b_SS_add 150 = .ok (.aload_n 0, 1) := by decide +kernel
theorem d_SS_add_151 : decode b_SS_add 151 = .ok (.getfield 44, 3) := by decide +kernel
theorem d_SS_add_154 : decode b_SS_add 154 = .ok (.iload 7, 2) := by decide +kernel
theorem d_SS_add_156 : decode b_SS_add 156 = .ok (.iload 6, 2) := by decide +kernel
theorem d_SS_add_158 : decode b_SS_add 158 = .ok (.iastore, 1) := by decide +kernel
theorem d_SS_add_159 : decode b_SS_add 159 = .ok (.aload_n 0, 1) := by decide +kernel
theorem d_SS_add_160 : decode b_SS_add 160 = .ok (.dup, 1) := by decide +kernel
theorem d_SS_add_161 : decode b_SS_add 161 = .ok (.getfield 47, 3) := by decide +kernel
theorem d_SS_add_164 : decode b_SS_add 164 = .ok (.iconst 1, 1) := by decide +kernel
theorem d_SS_add_165 : decode b_SS_add 165 = .ok (.iadd, 1) := by decide +kernel
theorem d_SS_add_166 : decode b_SS_add 166 = .ok (.putfield 47, 3) := by decide +kernel
theorem d_SS_add_169 : decode b_SS_add 169 = .ok (.iload 6, 2) := by decide +kernel
theorem d_SS_add_171 : decode b_SS_add 171 = .ok (.ireturn, 1) := by decide +kernel
theorem d_SS_sweep_0 : decode b_SS_sweep 0 = .ok (.iconst 0, 1) := by decide +kernel
theorem d_SS_sweep_1 : decode b_SS_sweep 1 = .ok (.istore_n 1, 1) := by decide +kernel
theorem d_SS_sweep_2 : decode b_SS_sweep 2 = .ok (.iconst 0, 1) := by decide +kernel
theorem d_SS_sweep_3 : decode b_SS_sweep 3 = .ok (.istore_n 2, 1) := by decide +kernel
theorem d_SS_sweep_4 : decode b_SS_sweep 4 = .ok (.iload_n 2, 1) := by decide +kernel
theorem d_SS_sweep_5 : decode b_SS_sweep 5 = .ok (.aload_n 0, 1) := by decide +kernel
theorem d_SS_sweep_6 : decode b_SS_sweep 6 = .ok (.getfield 47, 3) := by decide +kernel
theorem d_SS_sweep_9 : decode b_SS_sweep 9 = .ok (.if_icmp .ge 48, 3) := by decide +kernel
theorem d_SS_sweep_12 : decode b_SS_sweep 12 = .ok (.aload_n 0, 1) := by decide +kernel
theorem d_SS_sweep_13 : decode b_SS_sweep 13 = .ok (.getfield 44, 3) := by decide +kernel
theorem d_SS_sweep_16 : decode b_SS_sweep 16 = .ok (.iload_n 2, 1) := by decide +kernel
theorem d_SS_sweep_17 : decode b_SS_sweep 17 = .ok (.iaload, 1) := by decide +kernel
theorem d_SS_sweep_18 : decode b_SS_sweep 18 = .ok (.istore_n 3, 1) := by decide +kernel
theorem d_SS_sweep_19 : decode b_SS_sweep 19 = .ok (.aload_n 0, 1) := by decide +kernel
theorem d_SS_sweep_20 : decode b_SS_sweep 20 = .ok (.getfield 9, 3) := by decide +kernel
theorem d_SS_sweep_23 : decode b_SS_sweep 23 = .ok (.iload_n 3, 1) := by decide +kernel
theorem d_SS_sweep_24 : decode b_SS_sweep 24 = .ok (.iaload, 1) := by decide +kernel
theorem d_SS_sweep_25 : decode b_SS_sweep 25 = .ok (.iconst (-1), 1) := by decide +kernel
theorem d_SS_sweep_26 : decode b_SS_sweep 26 = .ok (.if_icmp .eq 25, 3) := by decide +kernel
theorem d_SS_sweep_29 : decode b_SS_sweep 29 = .ok (.aload_n 0, 1) := by decide +kernel
theorem d_SS_sweep_30 : decode b_SS_sweep 30 = .ok (.getfield 44, 3) := by decide +kernel
theorem d_SS_sweep_33 : decode b_SS_sweep 33 = .ok (.iload_n 2, 1) := by decide +kernel
theorem d_SS_sweep_34 : decode b_SS_sweep 34 = .ok (.aload_n 0, 1) := by decide +kernel
theorem d_SS_sweep_35 : decode b_SS_sweep 35 = .ok (.getfield 44, 3) := by decide +kernel
theorem d_SS_sweep_38 : decode b_SS_sweep 38 = .ok (.iload_n 1, 1) := by decide +kernel
theorem d_SS_sweep_39 : decode b_SS_sweep 39 = .ok (.iaload, 1) := by decide +kernel
theorem d_SS_sweep_40 : decode b_SS_sweep 40 = .ok (.iastore, 1) := by decide +kernel
theorem d_SS_sweep_41 : decode b_SS_sweep 41 = .ok (.aload_n 0, 1) := by decide +kernel
theorem d_SS_sweep_42 : decode b_SS_sweep 42 = .ok (.getfield 44, 3) := by decide +kernel
theorem d_SS_sweep_45 : decode b_SS_sweep 45 = .ok (.iload_n 1, 1) := by decide +kernel
theorem d_SS_sweep_46 : decode b_SS_sweep 46 = .ok (.iload_n 3, 1) := by decide +kernel
theorem d_SS_sweep_47 : decode b_SS_sweep 47 = .ok (.iastore, 1) := by decide +kernel
theorem d_SS_sweep_48 : decode b_SS_sweep 48 = .ok (.iinc 1 1, 3) := by decide +kernel
theorem d_SS_sweep_51 : decode b_SS_sweep 51 = .ok (.iinc 2 1, 3) := by decide +kernel
theorem d_SS_sweep_54 : decode b_SS_sweep 54 = .ok (.goto (-50), 3) := by decide +kernel
theorem d_SS_sweep_57 : decode b_SS_sweep 57 = .ok (.aload_n 0, 1) := by decide +kernel
theorem d_SS_sweep_58 : decode b_SS_sweep 58 = .ok (.iload_n 1, 1) := by decide +kernel
theorem d_SS_sweep_59 : decode b_SS_sweep 59 = .ok (.putfield 47, 3) := by decide +kernel
theorem d_SS_sweep_62 : decode b_SS_sweep 62 = .ok (.return_, 1) := by decide +kernel
theorem d_SS_join_0 : decode b_SS_join 0 = .ok (.iconst (-1), 1) := by decide +kernel
theorem d_SS_join_1 : decode b_SS_join 1 = .ok (.istore 6, 2) := by decide +kernel
theorem d_SS_join_3 : decode b_SS_join 3 = .ok (.iconst 0, 1) := by decide +kernel
theorem d_SS_join_4 : decode b_SS_join 4 = .ok (.istore 7, 2) := by decide +kernel
theorem d_SS_join_6 : decode b_SS_join 6 = .ok (.iload 7, 2) := by decide +kernel
theorem d_SS_join_8 : decode b_SS_join 8 = .ok (.aload_n 0, 1) := by decide +kernel
theorem d_SS_join_9 : decode b_SS_join 9 = .ok (.getfield 47, 3) := by decide +kernel
theorem d_SS_join_12 : decode b_SS_join 12 = .ok (.if_icmp .ge 52, 3) := by decide +kernel
theorem d_SS_join_15 : decode b_SS_join 15 = .ok (.aload_n 0, 1) := by decide +kernel
theorem d_SS_join_16 : decode b_SS_join 16 = .ok (.getfield 44, 3) := by decide +kernel
theorem d_SS_join_19 : decode b_SS_join 19 = .ok (.iload 7, 2) := by decide +kernel
theorem d_SS_join_21 : decode b_SS_join 21 = .ok (.iaload, 1) := by decide +kernel
theorem d_SS_join_22 : decode b_SS_join 22 = .ok (.istore 8, 2) := by decide +kernel
theorem d_SS_join_24 : decode b_SS_join 24 = .ok (.aload_n 0, 1) := by decide +kernel
theorem d_SS_join_25 : decode b_SS_join 25 = .ok (.iload 8, 2) := by decide +kernel
theorem d_SS_join_27 : decode b_SS_join 27 = .ok (.iload_n 1, 1) := by decide +kernel
theorem d_SS_join_28 : decode b_SS_join 28 = .ok (.lload_n 2, 1) := by decide +kernel
theorem d_SS_join_29 : decode b_SS_join 29 = .ok (.lload 4, 2) := by decide +kernel
theorem d_SS_join_31 : decode b_SS_join 31 = .ok (.invokevirtual 55, 3) := by decide +kernel
theorem d_SS_join_34 : decode b_SS_join 34 = .ok (.ifCond .eq 24, 3) := by decide +kernel
theorem d_SS_join_37 : decode b_SS_join 37 = .ok (.iload 6, 2) := by decide +kernel
theorem d_SS_join_39 : decode b_SS_join 39 = .ok (.iconst (-1), 1) := by decide +kernel
theorem d_SS_join_40 : decode b_SS_join 40 = .ok (.if_icmp .ne 10, 3) := by decide +kernel
theorem d_SS_join_43 : decode b_SS_join 43 = .ok (.iload 8, 2) := by decide +kernel
theorem d_SS_join_45 : decode b_SS_join 45 = .ok (.istore 6, 2) := by decide +kernel
theorem d_SS_join_47 : decode b_SS_join 47 = .ok (.goto 11, 3) := by decide +kernel
theorem d_SS_join_50 : decode b_SS_join 50 = .ok (.aload_n 0, 1) := by decide +kernel
theorem d_SS_join_51 : decode b_SS_join 51 = .ok (.iload 6, 2) := by decide +kernel
theorem d_SS_join_53 : decode b_SS_join 53 = .ok (.iload 8, 2) := by decide +kernel
theorem d_SS_join_55 : decode b_SS_join 55 = .ok (.invokevirtual 65, 3) := by decide +kernel
theorem d_SS_join_58 : decode b_SS_join 58 = .ok (.iinc 7 1, 3) := by decide +kernel
theorem d_SS_join_61 : decode b_SS_join 61 = .ok (.goto (-55), 3) := by decide +kernel
theorem d_SS_join_64 : decode b_SS_join 64 = .ok (.iload 6, 2) := by decide +kernel
theorem d_SS_join_66 : decode b_SS_join 66 = .ok (.iconst (-1), 1) := by decide +kernel
theorem d_SS_join_67 : decode b_SS_join 67 = .ok (.if_icmp .ne 12, 3) := by decide +kernel
theorem d_SS_join_70 : decode b_SS_join 70 = .ok (.aload_n 0, 1) := by decide +kernel
theorem d_SS_join_71 : decode b_SS_join 71 = .ok (.iload_n 1, 1) := by decide +kernel
theorem d_SS_join_72 : decode b_SS_join 72 = .ok (.lload_n 2, 1) := by decide +kernel
theorem d_SS_join_73 : decode b_SS_join 73 = .ok (.lload 4, 2) := by decide +kernel
theorem d_SS_join_75 : decode b_SS_join 75 = .ok (.invokevirtual 69, 3) := by decide +kernel
theorem d_SS_join_78 : decode b_SS_join 78 = .ok (.ireturn, 1) := by decide +kernel
theorem d_SS_join_79 : decode b_SS_join 79 = .ok (.aload_n 0, 1) := by decide +kernel
theorem d_SS_join_80 : decode b_SS_join 80 = .ok (.getfield 15, 3) := by decide +kernel
theorem d_SS_join_83 : decode b_SS_join 83 = .ok (.iload 6, 2) := by decide +kernel
theorem d_SS_join_85 : decode b_SS_join 85 = .ok (.aload_n 0, 1) := by decide +kernel
theorem d_SS_join_86 : decode b_SS_join 86 = .ok (.getfield 15, 3) := by decide +kernel
theorem d_SS_join_89 : decode b_SS_join 89 = .ok (.iload 6, 2) := by decide +kernel
theorem d_SS_join_91 : decode b_SS_join 91 = .ok (.laload, 1) := by decide +kernel
theorem d_SS_join_92 : decode b_SS_join 92 = .ok (.lload_n 2, 1) := by decide +kernel
theorem d_SS_join_93 : decode b_SS_join 93 = .ok (.invokestatic 73, 3) := by decide +kernel
theorem d_SS_join_96 : decode b_SS_join 96 = .ok (.lastore, 1) := by decide +kernel
theorem d_SS_join_97 : decode b_SS_join 97 = .ok (.aload_n 0, 1) := by decide +kernel
theorem d_SS_join_98 : decode b_SS_join 98 = .ok (.getfield 19, 3) := by decide +kernel
theorem d_SS_join_101 : decode b_SS_join 101 = .ok (.iload 6, 2) := by decide +kernel
theorem d_SS_join_103 : decode b_SS_join 103 = .ok (.aload_n 0, 1) := by decide +kernel
theorem d_SS_join_104 : decode b_SS_join 104 = .ok (.getfield 19, 3) := by decide +kernel
theorem d_SS_join_107 : decode b_SS_join 107 = .ok (.iload 6, 2) := by decide +kernel
theorem d_SS_join_109 : decode b_SS_join 109 = .ok (.laload, 1) := by decide +kernel
theorem d_SS_join_110 : decode b_SS_join 110 = .ok (.lload 4, 2) := by decide +kernel
theorem d_SS_join_112 : decode b_SS_join 112 = .ok (.invokestatic 59, 3) := by decide +kernel
theorem d_SS_join_115 : decode b_SS_join 115 = .ok (.lastore, 1) := by decide +kernel
theorem d_SS_join_116 : decode b_SS_join 116 = .ok (.aload_n 0, 1) := by decide +kernel
theorem d_SS_join_117 : decode b_SS_join 117 = .ok (.invokevirtual 76, 3) := by decide +kernel
theorem d_SS_join_120 : decode b_SS_join 120 = .ok (.iload 6, 2) := by decide +kernel
theorem d_SS_join_122 : decode b_SS_join 122 = .ok (.ireturn, 1) := by decide +kernel
theorem d_SS_put_0 : decode b_SS_put 0 = .ok (.iload_n 1, 1) := by decide +kernel
theorem d_SS_put_1 : decode b_SS_put 1 = .ok (.iconst 5, 1) := by decide +kernel
theorem d_SS_put_2 : decode b_SS_put 2 = .ok (.imul, 1) := by decide +kernel
theorem d_SS_put_3 : decode b_SS_put 3 = .ok (.iload_n 2, 1) := by decide +kernel
theorem d_SS_put_4 : decode b_SS_put 4 = .ok (.bipush 64, 2) := by decide +kernel
theorem d_SS_put_6 : decode b_SS_put 6 = .ok (.idiv, 1) := by decide +kernel
theorem d_SS_put_7 : decode b_SS_put 7 = .ok (.iadd, 1) := by decide +kernel
theorem d_SS_put_8 : decode b_SS_put 8 = .ok (.istore_n 3, 1) := by decide +kernel
theorem d_SS_put_9 : decode b_SS_put 9 = .ok (.aload_n 0, 1) := by decide +kernel
theorem d_SS_put_10 : decode b_SS_put 10 = .ok (.getfield 32, 3) := by decide +kernel
theorem d_SS_put_13 : decode b_SS_put 13 = .ok (.iload_n 3, 1) := by decide +kernel
theorem d_SS_put_14 : decode b_SS_put 14 = .ok (.dup2, 1) := by decide +kernel
theorem d_SS_put_15 : decode b_SS_put 15 = .ok (.laload, 1) := by decide +kernel
theorem d_SS_put_16 : decode b_SS_put 16 = .ok (.lconst 1, 1) := by decide +kernel
theorem d_SS_put_17 : decode b_SS_put 17 = .ok (.iload_n 2, 1) := by decide +kernel
theorem d_SS_put_18 : decode b_SS_put 18 = .ok (.bipush 64, 2) := by decide +kernel
theorem d_SS_put_20 : decode b_SS_put 20 = .ok (.irem, 1) := by decide +kernel
theorem d_SS_put_21 : decode b_SS_put 21 = .ok (.lshl, 1) := by decide +kernel
theorem d_SS_put_22 : decode b_SS_put 22 = .ok (.lor, 1) := by decide +kernel
theorem d_SS_put_23 : decode b_SS_put 23 = .ok (.lastore, 1) := by decide +kernel
theorem d_SS_put_24 : decode b_SS_put 24 = .ok (.aload_n 0, 1) := by decide +kernel
theorem d_SS_put_25 : decode b_SS_put 25 = .ok (.getfield 35, 3) := by decide +kernel
theorem d_SS_put_28 : decode b_SS_put 28 = .ok (.iload_n 3, 1) := by decide +kernel
theorem d_SS_put_29 : decode b_SS_put 29 = .ok (.dup2, 1) := by decide +kernel
theorem d_SS_put_30 : decode b_SS_put 30 = .ok (.laload, 1) := by decide +kernel
theorem d_SS_put_31 : decode b_SS_put 31 = .ok (.lconst 1, 1) := by decide +kernel
theorem d_SS_put_32 : decode b_SS_put 32 = .ok (.iload_n 2, 1) := by decide +kernel
theorem d_SS_put_33 : decode b_SS_put 33 = .ok (.bipush 64, 2) := by decide +kernel
theorem d_SS_put_35 : decode b_SS_put 35 = .ok (.irem, 1) := by decide +kernel
theorem d_SS_put_36 : decode b_SS_put 36 = .ok (.lshl, 1) := by decide +kernel
theorem d_SS_put_37 : decode b_SS_put 37 = .ok (.lor, 1) := by decide +kernel
theorem d_SS_put_38 : decode b_SS_put 38 = .ok (.lastore, 1) := by decide +kernel
theorem d_SS_put_39 : decode b_SS_put 39 = .ok (.aload_n 0, 1) := by decide +kernel
theorem d_SS_put_40 : decode b_SS_put 40 = .ok (.getfield 25, 3) := by decide +kernel
theorem d_SS_put_43 : decode b_SS_put 43 = .ok (.iload_n 1, 1) := by decide +kernel
theorem d_SS_put_44 : decode b_SS_put 44 = .ok (.dup2, 1) := by decide +kernel
theorem d_SS_put_45 : decode b_SS_put 45 = .ok (.iaload, 1) := by decide +kernel
theorem d_SS_put_46 : decode b_SS_put 46 = .ok (.iconst 1, 1) := by decide +kernel
theorem d_SS_put_47 : decode b_SS_put 47 = .ok (.iadd, 1) := by decide +kernel
theorem d_SS_put_48 : decode b_SS_put 48 = .ok (.iastore, 1) := by decide +kernel
theorem d_SS_put_49 : decode b_SS_put 49 = .ok (.return_, 1) := by decide +kernel
theorem d_SS_isIn_0 : decode b_SS_isIn 0 = .ok (.aload_n 0, 1) := by decide +kernel
theorem d_SS_isIn_1 : decode b_SS_isIn 1 = .ok (.iload_n 1, 1) := by decide +kernel
theorem d_SS_isIn_2 : decode b_SS_isIn 2 = .ok (.iconst 5, 1) := by decide +kernel
theorem d_SS_isIn_3 : decode b_SS_isIn 3 = .ok (.imul, 1) := by decide +kernel
theorem d_SS_isIn_4 : decode b_SS_isIn 4 = .ok (.iload_n 2, 1) := by decide +kernel
theorem d_SS_isIn_5 : decode b_SS_isIn 5 = .ok (.bipush 64, 2) := by decide +kernel
theorem d_SS_isIn_7 : decode b_SS_isIn 7 = .ok (.idiv, 1) := by decide +kernel
theorem d_SS_isIn_8 : decode b_SS_isIn 8 = .ok (.iadd, 1) := by decide +kernel
theorem d_SS_isIn_9 : decode b_SS_isIn 9 = .ok (.laload, 1) := by decide +kernel
theorem d_SS_isIn_10 : decode b_SS_isIn 10 = .ok (.lconst 1, 1) := by decide +kernel
theorem d_SS_isIn_11 : decode b_SS_isIn 11 = .ok (.iload_n 2, 1) := by decide +kernel
theorem d_SS_isIn_12 : decode b_SS_isIn 12 = .ok (.bipush 64, 2) := by decide +kernel
theorem d_SS_isIn_14 : decode b_SS_isIn 14 = .ok (.irem, 1) := by decide +kernel
theorem d_SS_isIn_15 : decode b_SS_isIn 15 = .ok (.lshl, 1) := by decide +kernel
theorem d_SS_isIn_16 : decode b_SS_isIn 16 = .ok (.land, 1) := by decide +kernel
theorem d_SS_isIn_17 : decode b_SS_isIn 17 = .ok (.lconst 0, 1) := by decide +kernel
theorem d_SS_isIn_18 : decode b_SS_isIn 18 = .ok (.lcmp, 1) := by decide +kernel
theorem d_SS_isIn_19 : decode b_SS_isIn 19 = .ok (.ifCond .eq 7, 3) := by decide +kernel
theorem d_SS_isIn_22 : decode b_SS_isIn 22 = .ok (.iconst 1, 1) := by decide +kernel
theorem d_SS_isIn_23 : decode b_SS_isIn 23 = .ok (.goto 4, 3) := by decide +kernel
theorem d_SS_isIn_26 : decode b_SS_isIn 26 = .ok (.iconst 0, 1) := by decide +kernel
theorem d_SS_isIn_27 : decode b_SS_isIn 27 = .ok (.ireturn, 1) := by decide +kernel
theorem d_SR_gather_0 : decode b_SR_gather 0 = .ok (.aload_n 0, 1) := by decide +kernel
theorem d_SR_gather_1 : decode b_SR_gather 1 = .ok (.getfield 47, 3) := by decide +kernel
theorem d_SR_gather_4 : decode b_SR_gather 4 = .ok (.invokevirtual 306, 3) := by decide +kernel
theorem d_SR_gather_7 : decode b_SR_gather 7 = .ok (.iconst 0, 1) := by decide +kernel
theorem d_SR_gather_8 : decode b_SR_gather 8 = .ok (.istore_n 3, 1) := by decide +kernel
theorem d_SR_gather_9 : decode b_SR_gather 9 = .ok (.iload_n 3, 1) := by decide +kernel
theorem d_SR_gather_10 : decode b_SR_gather 10 = .ok (.aload_n 0, 1) := by decide +kernel
theorem d_SR_gather_11 : decode b_SR_gather 11 = .ok (.getfield 19, 3) := by decide +kernel
theorem d_SR_gather_14 : decode b_SR_gather 14 = .ok (.getfield 154, 3) := by decide +kernel
theorem d_SR_gather_17 : decode b_SR_gather 17 = .ok (.if_icmp .ge 47, 3) := by decide +kernel
theorem d_SR_gather_20 : decode b_SR_gather 20 = .ok (.aload_n 0, 1) := by decide +kernel
theorem d_SR_gather_21 : decode b_SR_gather 21 = .ok (.getfield 19, 3) := by decide +kernel
theorem d_SR_gather_24 : decode b_SR_gather 24 = .ok (.getfield 309, 3) := by decide +kernel
theorem d_SR_gather_27 : decode b_SR_gather 27 = .ok (.iload_n 3, 1) := by decide +kernel
theorem d_SR_gather_28 : decode b_SR_gather 28 = .ok (.iaload, 1) := by decide +kernel
theorem d_SR_gather_29 : decode b_SR_gather 29 = .ok (.istore 4, 2) := by decide +kernel
theorem d_SR_gather_31 : decode b_SR_gather 31 = .ok (.aload_n 2, 1) := by decide +kernel
theorem d_SR_gather_32 : decode b_SR_gather 32 = .ok (.iload_n 1, 1) := by decide +kernel
theorem d_SR_gather_33 : decode b_SR_gather 33 = .ok (.iload 4, 2) := by decide +kernel
theorem d_SR_gather_35 : decode b_SR_gather 35 = .ok (.invokestatic 312, 3) := by decide +kernel
theorem d_SR_gather_38 : decode b_SR_gather 38 = .ok (.ifCond .eq 20, 3) := by decide +kernel
theorem d_SR_gather_41 : decode b_SR_gather 41 = .ok (.aload_n 0, 1) := by decide +kernel
theorem d_SR_gather_42 : decode b_SR_gather 42 = .ok (.getfield 47, 3) := by decide +kernel
theorem d_SR_gather_45 : decode b_SR_gather 45 = .ok (.aload_n 0, 1) := by decide +kernel
theorem d_SR_gather_46 : decode b_SR_gather 46 = .ok (.getfield 19, 3) := by decide +kernel
theorem d_SR_gather_49 : decode b_SR_gather 49 = .ok (.getfield 316, 3) := by decide +kernel
theorem d_SR_gather_52 : decode b_SR_gather 52 = .ok (.iload 4, 2) := by decide +kernel
theorem d_SR_gather_54 : decode b_SR_gather 54 = .ok (.laload, 1) := by decide +kernel
theorem d_SR_gather_55 : decode b_SR_gather 55 = .ok (.invokevirtual 319, 3) := by decide +kernel
theorem d_SR_gather_58 : decode b_SR_gather 58 = .ok (.iinc 3 1, 3) := by decide +kernel
theorem d_SR_gather_61 : decode b_SR_gather 61 = .ok (.goto (-52), 3) := by decide +kernel
theorem d_SR_gather_64 : decode b_SR_gather 64 = .ok (.return_, 1) := by decide +kernel
theorem d_SS_noteFired_0 : decode b_SS_noteFired 0 = .ok (.aload_n 0, 1) := by decide +kernel
theorem d_SS_noteFired_1 : decode b_SS_noteFired 1 = .ok (.getfield 22, 3) := by decide +kernel
theorem d_SS_noteFired_4 : decode b_SS_noteFired 4 = .ok (.iload_n 1, 1) := by decide +kernel
theorem d_SS_noteFired_5 : decode b_SS_noteFired 5 = .ok (.dup2, 1) := by decide +kernel
theorem d_SS_noteFired_6 : decode b_SS_noteFired 6 = .ok (.iaload, 1) := by decide +kernel
theorem d_SS_noteFired_7 : decode b_SS_noteFired 7 = .ok (.iconst 1, 1) := by decide +kernel
theorem d_SS_noteFired_8 : decode b_SS_noteFired 8 = .ok (.iadd, 1) := by decide +kernel
theorem d_SS_noteFired_9 : decode b_SS_noteFired 9 = .ok (.iastore, 1) := by decide +kernel
theorem d_SS_noteFired_10 : decode b_SS_noteFired 10 = .ok (.aload_n 0, 1) := by decide +kernel
theorem d_SS_noteFired_11 : decode b_SS_noteFired 11 = .ok (.getfield 25, 3) := by decide +kernel
theorem d_SS_noteFired_14 : decode b_SS_noteFired 14 = .ok (.iload_n 1, 1) := by decide +kernel
theorem d_SS_noteFired_15 : decode b_SS_noteFired 15 = .ok (.iconst 0, 1) := by decide +kernel
theorem d_SS_noteFired_16 : decode b_SS_noteFired 16 = .ok (.iastore, 1) := by decide +kernel
theorem d_SS_noteFired_17 : decode b_SS_noteFired 17 = .ok (.iload_n 2, 1) := by decide +kernel
theorem d_SS_noteFired_18 : decode b_SS_noteFired 18 = .ok (.ifCond .eq 10, 3) := by decide +kernel
theorem d_SS_noteFired_21 : decode b_SS_noteFired 21 = .ok (.aload_n 0, 1) := by decide +kernel
theorem d_SS_noteFired_22 : decode b_SS_noteFired 22 = .ok (.getfield 28, 3) := by decide +kernel
theorem d_SS_noteFired_25 : decode b_SS_noteFired 25 = .ok (.iload_n 1, 1) := by decide +kernel
theorem d_SS_noteFired_26 : decode b_SS_noteFired 26 = .ok (.iconst 1, 1) := by decide +kernel
theorem d_SS_noteFired_27 : decode b_SS_noteFired 27 = .ok (.bastore, 1) := by decide +kernel
theorem d_SS_noteFired_28 : decode b_SS_noteFired 28 = .ok (.iload_n 1, 1) := by decide +kernel
theorem d_SS_noteFired_29 : decode b_SS_noteFired 29 = .ok (.iconst 5, 1) := by decide +kernel
theorem d_SS_noteFired_30 : decode b_SS_noteFired 30 = .ok (.imul, 1) := by decide +kernel
theorem d_SS_noteFired_31 : decode b_SS_noteFired 31 = .ok (.istore_n 3, 1) := by decide +kernel
theorem d_SS_noteFired_32 : decode b_SS_noteFired 32 = .ok (.iload_n 3, 1) := by decide +kernel
theorem d_SS_noteFired_33 : decode b_SS_noteFired 33 = .ok (.iload_n 1, 1) := by decide +kernel
theorem d_SS_noteFired_34 : decode b_SS_noteFired 34 = .ok (.iconst 5, 1) := by decide +kernel
theorem d_SS_noteFired_35 : decode b_SS_noteFired 35 = .ok (.imul, 1) := by decide +kernel
theorem d_SS_noteFired_36 : decode b_SS_noteFired 36 = .ok (.iconst 5, 1) := by decide +kernel
theorem d_SS_noteFired_37 : decode b_SS_noteFired 37 = .ok (.iadd, 1) := by decide +kernel
theorem d_SS_noteFired_38 : decode b_SS_noteFired 38 = .ok (.if_icmp .ge 16, 3) := by decide +kernel
theorem d_SS_noteFired_41 : decode b_SS_noteFired 41 = .ok (.aload_n 0, 1) := by decide +kernel
theorem d_SS_noteFired_42 : decode b_SS_noteFired 42 = .ok (.getfield 35, 3) := by decide +kernel
theorem d_SS_noteFired_45 : decode b_SS_noteFired 45 = .ok (.iload_n 3, 1) := by decide +kernel
theorem d_SS_noteFired_46 : decode b_SS_noteFired 46 = .ok (.lconst 0, 1) := by decide +kernel
theorem d_SS_noteFired_47 : decode b_SS_noteFired 47 = .ok (.lastore, 1) := by decide +kernel
theorem d_SS_noteFired_48 : decode b_SS_noteFired 48 = .ok (.iinc 3 1, 3) := by decide +kernel
theorem d_SS_noteFired_51 : decode b_SS_noteFired 51 = .ok (.goto (-19), 3) := by decide +kernel
theorem d_SS_noteFired_54 : decode b_SS_noteFired 54 = .ok (.return_, 1) := by decide +kernel
theorem d_SR_fire_0 : decode b_SR_fire 0 = .ok (.aload_n 0, 1) := by decide +kernel
theorem d_SR_fire_1 : decode b_SR_fire 1 = .ok (.iload_n 1, 1) := by decide +kernel
theorem d_SR_fire_2 : decode b_SR_fire 2 = .ok (.aload_n 0, 1) := by decide +kernel
theorem d_SR_fire_3 : decode b_SR_fire 3 = .ok (.getfield 68, 3) := by decide +kernel
theorem d_SR_fire_6 : decode b_SR_fire 6 = .ok (.ifCond .eq 13, 3) := by decide +kernel
theorem d_SR_fire_9 : decode b_SR_fire 9 = .ok (.aload_n 0, 1) := by decide +kernel
theorem d_SR_fire_10 : decode b_SR_fire 10 = .ok (.getfield 26, 3) := by decide +kernel
theorem d_SR_fire_13 : decode b_SR_fire 13 = .ok (.getfield 294, 3) := by decide +kernel
theorem d_SR_fire_16 : decode b_SR_fire 16 = .ok (.goto 10, 3) := by decide +kernel
theorem d_SR_fire_19 : decode b_SR_fire 19 = .ok (.aload_n 0, 1) := by decide +kernel
theorem d_SR_fire_20 : decode b_SR_fire 20 = .ok (.getfield 26, 3) := by decide +kernel
theorem d_SR_fire_23 : decode b_SR_fire 23 = .ok (.getfield 198, 3) := by decide +kernel
theorem d_SR_fire_26 : decode b_SR_fire 26 = .ok (.invokevirtual 201, 3) := by decide +kernel
theorem d_SR_fire_29 : decode b_SR_fire 29 = .ok (.aload_n 0, 1) := by decide +kernel
theorem d_SR_fire_30 : decode b_SR_fire 30 = .ok (.getfield 26, 3) := by decide +kernel
theorem d_SR_fire_33 : decode b_SR_fire 33 = .ok (.iload_n 1, 1) := by decide +kernel
theorem d_SR_fire_34 : decode b_SR_fire 34 = .ok (.iload_n 2, 1) := by decide +kernel
theorem d_SR_fire_35 : decode b_SR_fire 35 = .ok (.invokevirtual 297, 3) := by decide +kernel
theorem d_SR_fire_38 : decode b_SR_fire 38 = .ok (.aload_n 0, 1) := by decide +kernel
theorem d_SR_fire_39 : decode b_SR_fire 39 = .ok (.getfield 40, 3) := by decide +kernel
theorem d_SR_fire_42 : decode b_SR_fire 42 = .ok (.aload_n 0, 1) := by decide +kernel
theorem d_SR_fire_43 : decode b_SR_fire 43 = .ok (.getfield 26, 3) := by decide +kernel
theorem d_SR_fire_46 : decode b_SR_fire 46 = .ok (.getfield 300, 3) := by decide +kernel
theorem d_SR_fire_49 : decode b_SR_fire 49 = .ok (.iload_n 1, 1) := by decide +kernel
theorem d_SR_fire_50 : decode b_SR_fire 50 = .ok (.iaload, 1) := by decide +kernel
theorem d_SR_fire_51 : decode b_SR_fire 51 = .ok (.aload_n 0, 1) := by decide +kernel
theorem d_SR_fire_52 : decode b_SR_fire 52 = .ok (.getfield 26, 3) := by decide +kernel
theorem d_SR_fire_55 : decode b_SR_fire 55 = .ok (.getfield 191, 3) := by decide +kernel
theorem d_SR_fire_58 : decode b_SR_fire 58 = .ok (.iload_n 1, 1) := by decide +kernel
theorem d_SR_fire_59 : decode b_SR_fire 59 = .ok (.laload, 1) := by decide +kernel
theorem d_SR_fire_60 : decode b_SR_fire 60 = .ok (.aload_n 0, 1) := by decide +kernel
theorem d_SR_fire_61 : decode b_SR_fire 61 = .ok (.getfield 26, 3) := by decide +kernel
theorem d_SR_fire_64 : decode b_SR_fire 64 = .ok (.getfield 195, 3) := by decide +kernel
theorem d_SR_fire_67 : decode b_SR_fire 67 = .ok (.iload_n 1, 1) := by decide +kernel
theorem d_SR_fire_68 : decode b_SR_fire 68 = .ok (.laload, 1) := by decide +kernel
theorem d_SR_fire_69 : decode b_SR_fire 69 = .ok (.iload_n 2, 1) := by decide +kernel
theorem d_SR_fire_70 : decode b_SR_fire 70 = .ok (.aload_n 0, 1) := by decide +kernel
theorem d_SR_fire_71 : decode b_SR_fire 71 = .ok (.getfield 26, 3) := by decide +kernel
theorem d_SR_fire_74 : decode b_SR_fire 74 = .ok (.getfield 209, 3) := by decide +kernel
theorem d_SR_fire_77 : decode b_SR_fire 77 = .ok (.iload_n 1, 1) := by decide +kernel
theorem d_SR_fire_78 : decode b_SR_fire 78 = .ok (.iaload, 1) := by decide +kernel
theorem d_SR_fire_79 : decode b_SR_fire 79 = .ok (.aload_n 0, 1) := by decide +kernel
theorem d_SR_fire_80 : decode b_SR_fire 80 = .ok (.getfield 47, 3) := by decide +kernel
theorem d_SR_fire_83 : decode b_SR_fire 83 = .ok (.invokevirtual 303, 3) := by decide +kernel
theorem d_SR_fire_86 : decode b_SR_fire 86 = .ok (.return_, 1) := by decide +kernel
theorem d_SR_putAndFire_0 : decode b_SR_putAndFire 0 = .ok (.aload_n 0, 1) := by decide +kernel
theorem d_SR_putAndFire_1 : decode b_SR_putAndFire 1 = .ok (.getfield 26, 3) := by decide +kernel
theorem d_SR_putAndFire_4 : decode b_SR_putAndFire 4 = .ok (.iload_n 1, 1) := by decide +kernel
theorem d_SR_putAndFire_5 : decode b_SR_putAndFire 5 = .ok (.iload_n 2, 1) := by decide +kernel
theorem d_SR_putAndFire_6 : decode b_SR_putAndFire 6 = .ok (.invokevirtual 288, 3) := by decide +kernel
theorem d_SR_putAndFire_9 : decode b_SR_putAndFire 9 = .ok (.aload_n 0, 1) := by decide +kernel
theorem d_SR_putAndFire_10 : decode b_SR_putAndFire 10 = .ok (.getfield 26, 3) := by decide +kernel
theorem d_SR_putAndFire_13 : decode b_SR_putAndFire 13 = .ok (.getfield 195, 3) := by decide +kernel
theorem d_SR_putAndFire_16 : decode b_SR_putAndFire 16 = .ok (.iload_n 1, 1) := by decide +kernel
theorem d_SR_putAndFire_17 : decode b_SR_putAndFire 17 = .ok (.laload, 1) := by decide +kernel
theorem d_SR_putAndFire_18 : decode b_SR_putAndFire 18 = .ok (.aload_n 0, 1) := by decide +kernel
theorem d_SR_putAndFire_19 : decode b_SR_putAndFire 19 = .ok (.getfield 57, 3) := by decide +kernel
theorem d_SR_putAndFire_22 : decode b_SR_putAndFire 22 = .ok (.lcmp, 1) := by decide +kernel
theorem d_SR_putAndFire_23 : decode b_SR_putAndFire 23 = .ok (.ifCond .gt 19, 3) := by decide +kernel
theorem d_SR_putAndFire_26 : decode b_SR_putAndFire 26 = .ok (.aload_n 0, 1) := by decide +kernel
theorem d_SR_putAndFire_27 : decode b_SR_putAndFire 27 = .ok (.getfield 64, 3) := by decide +kernel
theorem d_SR_putAndFire_30 : decode b_SR_putAndFire 30 = .ok (.ifCond .eq 41, 3) := by decide +kernel
theorem d_SR_putAndFire_33 : decode b_SR_putAndFire 33 = .ok (.aload_n 0, 1) := by decide +kernel
theorem d_SR_putAndFire_34 : decode b_SR_putAndFire 34 = .ok (.iload_n 1, 1) := by decide +kernel
theorem d_SR_putAndFire_35 : decode b_SR_putAndFire 35 = .ok (.iconst 2, 1) := by decide +kernel
theorem d_SR_putAndFire_36 : decode b_SR_putAndFire 36 = .ok (.invokevirtual 291, 3) := by decide +kernel
theorem d_SR_putAndFire_39 : decode b_SR_putAndFire 39 = .ok (.goto 32, 3) := by decide +kernel
theorem d_SR_putAndFire_42 : decode b_SR_putAndFire 42 = .ok (.aload_n 0, 1) := by decide +kernel
theorem d_SR_putAndFire_43 : decode b_SR_putAndFire 43 = .ok (.getfield 60, 3) := by decide +kernel
theorem d_SR_putAndFire_46 : decode b_SR_putAndFire 46 = .ok (.ifCond .le 25, 3) := by decide +kernel
theorem d_SR_putAndFire_49 : decode b_SR_putAndFire 49 = .ok (.aload_n 0, 1) := by decide +kernel
theorem d_SR_putAndFire_50 : decode b_SR_putAndFire 50 = .ok (.getfield 26, 3) := by decide +kernel
theorem d_SR_putAndFire_53 : decode b_SR_putAndFire 53 = .ok (.getfield 212, 3) := by decide +kernel
theorem d_SR_putAndFire_56 : decode b_SR_putAndFire 56 = .ok (.iload_n 1, 1) := by decide +kernel
theorem d_SR_putAndFire_57 : decode b_SR_putAndFire 57 = .ok (.iaload, 1) := by decide +kernel
theorem d_SR_putAndFire_58 : decode b_SR_putAndFire 58 = .ok (.aload_n 0, 1) := by decide +kernel
theorem d_SR_putAndFire_59 : decode b_SR_putAndFire 59 = .ok (.getfield 60, 3) := by decide +kernel
theorem d_SR_putAndFire_62 : decode b_SR_putAndFire 62 = .ok (.if_icmp .lt 9, 3) := by decide +kernel
theorem d_SR_putAndFire_65 : decode b_SR_putAndFire 65 = .ok (.aload_n 0, 1) := by decide +kernel
theorem d_SR_putAndFire_66 : decode b_SR_putAndFire 66 = .ok (.iload_n 1, 1) := by decide +kernel
theorem d_SR_putAndFire_67 : decode b_SR_putAndFire 67 = .ok (.iconst 0, 1) := by decide +kernel
theorem d_SR_putAndFire_68 : decode b_SR_putAndFire 68 = .ok (.invokevirtual 291, 3) := by decide +kernel
theorem d_SR_putAndFire_71 : decode b_SR_putAndFire 71 = .ok (.return_, 1) := by decide +kernel
theorem d_SR_putByGap_0 : decode b_SR_putByGap 0 = .ok (.lload_n 2, 1) := by decide +kernel
theorem d_SR_putByGap_1 : decode b_SR_putByGap 1 = .ok (.aload_n 0, 1) := by decide +kernel
theorem d_SR_putByGap_2 : decode b_SR_putByGap 2 = .ok (.getfield 87, 3) := by decide +kernel
theorem d_SR_putByGap_5 : decode b_SR_putByGap 5 = .ok (.getfield 243, 3) := by decide +kernel
theorem d_SR_putByGap_8 : decode b_SR_putByGap 8 = .ok (.ladd, 1) := by decide +kernel
theorem d_SR_putByGap_9 : decode b_SR_putByGap 9 = .ok (.lstore 6, 2) := by decide +kernel
theorem d_SR_putByGap_11 : decode b_SR_putByGap 11 = .ok (.aload_n 0, 1) := by decide +kernel
theorem d_SR_putByGap_12 : decode b_SR_putByGap 12 = .ok (.aload_n 0, 1) := by decide +kernel
theorem d_SR_putByGap_13 : decode b_SR_putByGap 13 = .ok (.getfield 26, 3) := by decide +kernel
theorem d_SR_putByGap_16 : decode b_SR_putByGap 16 = .ok (.iload_n 1, 1) := by decide +kernel
theorem d_SR_putByGap_17 : decode b_SR_putByGap 17 = .ok (.lload_n 2, 1) := by decide +kernel
theorem d_SR_putByGap_18 : decode b_SR_putByGap 18 = .ok (.lload 6, 2) := by decide +kernel
theorem d_SR_putByGap_20 : decode b_SR_putByGap 20 = .ok (.invokevirtual 246, 3) := by decide +kernel
theorem d_SR_putByGap_23 : decode b_SR_putByGap 23 = .ok (.invokevirtual 250, 3) := by decide +kernel
theorem d_SR_putByGap_26 : decode b_SR_putByGap 26 = .ok (.ifCond .eq 8, 3) := by decide +kernel
theorem d_SR_putByGap_29 : decode b_SR_putByGap 29 = .ok (.aload_n 0, 1) := by decide +kernel
theorem d_SR_putByGap_30 : decode b_SR_putByGap 30 = .ok (.invokevirtual 234, 3) := by decide +kernel
theorem d_SR_putByGap_33 : decode b_SR_putByGap 33 = .ok (.ireturn, 1) := by decide +kernel
theorem d_SR_putByGap_34 : decode b_SR_putByGap 34 = .ok (.aload_n 0, 1) := by decide +kernel
theorem d_SR_putByGap_35 : decode b_SR_putByGap 35 = .ok (.getfield 19, 3) := by decide +kernel
theorem d_SR_putByGap_38 : decode b_SR_putByGap 38 = .ok (.invokevirtual 237, 3) := by decide +kernel
theorem d_SR_putByGap_41 : decode b_SR_putByGap 41 = .ok (.ifCond .ne 28, 3) := by decide +kernel
theorem d_SR_putByGap_44 : decode b_SR_putByGap 44 = .ok (.aload_n 0, 1) := by decide +kernel
theorem d_SR_putByGap_45 : decode b_SR_putByGap 45 = .ok (.getfield 26, 3) := by decide +kernel
theorem d_SR_putByGap_48 : decode b_SR_putByGap 48 = .ok (.getfield 157, 3) := by decide +kernel
theorem d_SR_putByGap_51 : decode b_SR_putByGap 51 = .ok (.aload_n 0, 1) := by decide +kernel
theorem d_SR_putByGap_52 : decode b_SR_putByGap 52 = .ok (.getfield 26, 3) := by decide +kernel
theorem d_SR_putByGap_55 : decode b_SR_putByGap 55 = .ok (.iload_n 1, 1) := by decide +kernel
theorem d_SR_putByGap_56 : decode b_SR_putByGap 56 = .ok (.lload_n 2, 1) := by decide +kernel
theorem d_SR_putByGap_57 : decode b_SR_putByGap 57 = .ok (.lload 6, 2) := by decide +kernel
theorem d_SR_putByGap_59 : decode b_SR_putByGap 59 = .ok (.invokevirtual 254, 3) := by decide +kernel
theorem d_SR_putByGap_62 : decode b_SR_putByGap 62 = .ok (.isub, 1) := by decide +kernel
theorem d_SR_putByGap_63 : decode b_SR_putByGap 63 = .ok (.sipush 200, 3) := by decide +kernel
theorem d_SR_putByGap_66 : decode b_SR_putByGap 66 = .ok (.if_icmp .lt 6, 3) := by decide +kernel
theorem d_SR_putByGap_69 : decode b_SR_putByGap 69 = .ok (.bipush (-4), 2) := by decide +kernel
theorem d_SR_putByGap_71 : decode b_SR_putByGap 71 = .ok (.ireturn, 1) := by decide +kernel
theorem d_SR_putByGap_72 : decode b_SR_putByGap 72 = .ok (.aload_n 0, 1) := by decide +kernel
theorem d_SR_putByGap_73 : decode b_SR_putByGap 73 = .ok (.getfield 26, 3) := by decide +kernel
theorem d_SR_putByGap_76 : decode b_SR_putByGap 76 = .ok (.iload_n 1, 1) := by decide +kernel
theorem d_SR_putByGap_77 : decode b_SR_putByGap 77 = .ok (.lload_n 2, 1) := by decide +kernel
theorem d_SR_putByGap_78 : decode b_SR_putByGap 78 = .ok (.lload 6, 2) := by decide +kernel
theorem d_SR_putByGap_80 : decode b_SR_putByGap 80 = .ok (.invokevirtual 257, 3) := by decide +kernel
theorem d_SR_putByGap_83 : decode b_SR_putByGap 83 = .ok (.istore 8, 2) := by decide +kernel
theorem d_SR_putByGap_85 : decode b_SR_putByGap 85 = .ok (.aload_n 0, 1) := by decide +kernel
theorem d_SR_putByGap_86 : decode b_SR_putByGap 86 = .ok (.getfield 26, 3) := by decide +kernel
theorem d_SR_putByGap_89 : decode b_SR_putByGap 89 = .ok (.getfield 195, 3) := by decide +kernel
theorem d_SR_putByGap_92 : decode b_SR_putByGap 92 = .ok (.iload 8, 2) := by decide +kernel
theorem d_SR_putByGap_94 : decode b_SR_putByGap 94 = .ok (.laload, 1) := by decide +kernel
theorem d_SR_putByGap_95 : decode b_SR_putByGap 95 = .ok (.aload_n 0, 1) := by decide +kernel
theorem d_SR_putByGap_96 : decode b_SR_putByGap 96 = .ok (.getfield 57, 3) := by decide +kernel
theorem d_SR_putByGap_99 : decode b_SR_putByGap 99 = .ok (.lcmp, 1) := by decide +kernel
theorem d_SR_putByGap_100 : decode b_SR_putByGap 100 = .ok (.ifCond .le 14, 3) := by decide +kernel
theorem d_SR_putByGap_103 : decode b_SR_putByGap 103 = .ok (.aload_n 0, 1) := by decide +kernel
theorem d_SR_putByGap_104 : decode b_SR_putByGap 104 = .ok (.getfield 26, 3) := by decide +kernel
theorem d_SR_putByGap_107 : decode b_SR_putByGap 107 = .ok (.getfield 260, 3) := by decide +kernel
theorem d_SR_putByGap_110 : decode b_SR_putByGap 110 = .ok (.iload 8, 2) := by decide +kernel
theorem d_SR_putByGap_112 : decode b_SR_putByGap 112 = .ok (.iconst 0, 1) := by decide +kernel
theorem d_SR_putByGap_113 : decode b_SR_putByGap 113 = .ok (.bastore, 1) := by decide +kernel
theorem d_SR_putByGap_114 : decode b_SR_putByGap 114 = .ok (.aload_n 0, 1) := by decide +kernel
theorem d_SR_putByGap_115 : decode b_SR_putByGap 115 = .ok (.dup, 1) := by decide +kernel
theorem d_SR_putByGap_116 : decode b_SR_putByGap 116 = .ok (.getfield 71, 3) := by decide +kernel
theorem d_SR_putByGap_119 : decode b_SR_putByGap 119 = .ok (.iconst 1, 1) := by decide +kernel
theorem d_SR_putByGap_120 : decode b_SR_putByGap 120 = .ok (.iadd, 1) := by decide +kernel
theorem d_SR_putByGap_121 : decode b_SR_putByGap 121 = .ok (.putfield 71, 3) := by decide +kernel
theorem d_SR_putByGap_124 : decode b_SR_putByGap 124 = .ok (.aload_n 0, 1) := by decide +kernel
theorem d_SR_putByGap_125 : decode b_SR_putByGap 125 = .ok (.iload 8, 2) := by decide +kernel
theorem d_SR_putByGap_127 : decode b_SR_putByGap 127 = .ok (.aload_n 0, 1) := by decide +kernel
theorem d_SR_putByGap_128 : decode b_SR_putByGap 128 = .ok (.getfield 19, 3) := by decide +kernel
theorem d_SR_putByGap_131 : decode b_SR_putByGap 131 = .ok (.iload_n 1, 1) := by decide +kernel
theorem d_SR_putByGap_132 : decode b_SR_putByGap 132 = .ok (.lload_n 2, 1) := by decide +kernel
theorem d_SR_putByGap_133 : decode b_SR_putByGap 133 = .ok (.lload 4, 2) := by decide +kernel
theorem d_SR_putByGap_135 : decode b_SR_putByGap 135 = .ok (.invokevirtual 241, 3) := by decide +kernel
theorem d_SR_putByGap_138 : decode b_SR_putByGap 138 = .ok (.invokevirtual 264, 3) := by decide +kernel
theorem d_SR_putByGap_141 : decode b_SR_putByGap 141 = .ok (.iconst 1, 1) := by decide +kernel
theorem d_SR_putByGap_142 : decode b_SR_putByGap 142 = .ok (.ireturn, 1) := by decide +kernel
theorem d_SR_by_0 : decode b_SR_by 0 = .ok (.lload_n 2, 1) := by decide +kernel
theorem d_SR_by_1 : decode b_SR_by 1 = .ok (.lconst 1, 1) := by decide +kernel
theorem d_SR_by_2 : decode b_SR_by 2 = .ok (.lcmp, 1) := by decide +kernel
theorem d_SR_by_3 : decode b_SR_by 3 = .ok (.ifCond .ge 7, 3) := by decide +kernel
theorem d_SR_by_6 : decode b_SR_by 6 = .ok (.lconst 0, 1) := by decide +kernel
theorem d_SR_by_7 : decode b_SR_by 7 = .ok (.goto 8, 3) := by decide +kernel
theorem d_SR_by_10 : decode b_SR_by 10 = .ok (.lload_n 0, 1) := by decide +kernel
theorem d_SR_by_11 : decode b_SR_by 11 = .ok (.lload_n 2, 1) := by decide +kernel
theorem d_SR_by_12 : decode b_SR_by 12 = .ok (.invokestatic 228, 3) := by decide +kernel
theorem d_SR_by_15 : decode b_SR_by 15 = .ok (.lreturn, 1) := by decide +kernel
theorem d_LA_add_0 : decode b_LA_add 0 = .ok (.aload_n 0, 1) := by decide +kernel
theorem d_LA_add_1 : decode b_LA_add 1 = .ok (.getfield 26, 3) := by decide +kernel
theorem d_LA_add_4 : decode b_LA_add 4 = .ok (.bipush 16, 2) := by decide +kernel
theorem d_LA_add_6 : decode b_LA_add 6 = .ok (.if_icmp .ge 33, 3) := by decide +kernel
theorem d_LA_add_9 : decode b_LA_add 9 = .ok (.aload_n 0, 1) := by decide +kernel
theorem d_LA_add_10 : decode b_LA_add 10 = .ok (.getfield 9, 3) := by decide +kernel
theorem d_LA_add_13 : decode b_LA_add 13 = .ok (.aload_n 0, 1) := by decide +kernel
theorem d_LA_add_14 : decode b_LA_add 14 = .ok (.getfield 26, 3) := by decide +kernel
theorem d_LA_add_17 : decode b_LA_add 17 = .ok (.lload_n 1, 1) := by decide +kernel
theorem d_LA_add_18 : decode b_LA_add 18 = .ok (.lastore, 1) := by decide +kernel
theorem d_LA_add_19 : decode b_LA_add 19 = .ok (.aload_n 0, 1) := by decide +kernel
theorem d_LA_add_20 : decode b_LA_add 20 = .ok (.getfield 15, 3) := by decide +kernel
theorem d_LA_add_23 : decode b_LA_add 23 = .ok (.aload_n 0, 1) := by decide +kernel
theorem d_LA_add_24 : decode b_LA_add 24 = .ok (.getfield 26, 3) := by decide +kernel
theorem d_LA_add_27 : decode b_LA_add 27 = .ok (.lload_n 3, 1) := by decide +kernel
theorem d_LA_add_28 : decode b_LA_add 28 = .ok (.lastore, 1) := by decide +kernel
theorem d_LA_add_29 : decode b_LA_add 29 = .ok (.aload_n 0, 1) := by decide +kernel
theorem d_LA_add_30 : decode b_LA_add 30 = .ok (.dup, 1) := by decide +kernel
theorem d_LA_add_31 : decode b_LA_add 31 = .ok (.getfield 26, 3) := by decide +kernel
theorem d_LA_add_34 : decode b_LA_add 34 = .ok (.iconst 1, 1) := by decide +kernel
theorem d_LA_add_35 : decode b_LA_add 35 = .ok (.iadd, 1) := by decide +kernel
theorem d_LA_add_36 : decode b_LA_add 36 = .ok (.putfield 26, 3) := by decide +kernel
theorem d_LA_add_39 : decode b_LA_add 39 = .ok (.return_, 1) := by decide +kernel
theorem d_LA_slide_0 : decode b_LA_slide 0 = .ok (.lload_n 1, 1) := by decide +kernel
theorem d_LA_slide_1 : decode b_LA_slide 1 = .ok (.aload_n 0, 1) := by decide +kernel
theorem d_LA_slide_2 : decode b_LA_slide 2 = .ok (.getfield 18, 3) := by decide +kernel
theorem d_LA_slide_5 : decode b_LA_slide 5 = .ok (.lsub, 1) := by decide +kernel
theorem d_LA_slide_6 : decode b_LA_slide 6 = .ok (.aload_n 0, 1) := by decide +kernel
theorem d_LA_slide_7 : decode b_LA_slide 7 = .ok (.getfield 35, 3) := by decide +kernel
theorem d_LA_slide_10 : decode b_LA_slide 10 = .ok (.invokestatic 52, 3) := by decide +kernel
theorem d_LA_slide_13 : decode b_LA_slide 13 = .ok (.lstore_n 3, 1) := by decide +kernel
theorem d_LA_slide_14 : decode b_LA_slide 14 = .ok (.lload_n 1, 1) := by decide +kernel
theorem d_LA_slide_15 : decode b_LA_slide 15 = .ok (.aload_n 0, 1) := by decide +kernel
theorem d_LA_slide_16 : decode b_LA_slide 16 = .ok (.getfield 18, 3) := by decide +kernel
theorem d_LA_slide_19 : decode b_LA_slide 19 = .ok (.lsub, 1) := by decide +kernel
theorem d_LA_slide_20 : decode b_LA_slide 20 = .ok (.aload_n 0, 1) := by decide +kernel
theorem d_LA_slide_21 : decode b_LA_slide 21 = .ok (.getfield 32, 3) := by decide +kernel
theorem d_LA_slide_24 : decode b_LA_slide 24 = .ok (.lsub, 1) := by decide +kernel
theorem d_LA_slide_25 : decode b_LA_slide 25 = .ok (.aload_n 0, 1) := by decide +kernel
theorem d_LA_slide_26 : decode b_LA_slide 26 = .ok (.getfield 35, 3) := by decide +kernel
theorem d_LA_slide_29 : decode b_LA_slide 29 = .ok (.invokestatic 52, 3) := by decide +kernel
theorem d_LA_slide_32 : decode b_LA_slide 32 = .ok (.lconst 1, 1) := by decide +kernel
theorem d_LA_slide_33 : decode b_LA_slide 33 = .ok (.ladd, 1) := by decide +kernel
theorem d_LA_slide_34 : decode b_LA_slide 34 = .ok (.lstore 5, 2) := by decide +kernel
theorem d_LA_slide_36 : decode b_LA_slide 36 = .ok (.lload 5, 2) := by decide +kernel
theorem d_LA_slide_38 : decode b_LA_slide 38 = .ok (.lload_n 3, 1) := by decide +kernel
theorem d_LA_slide_39 : decode b_LA_slide 39 = .ok (.lcmp, 1) := by decide +kernel
theorem d_LA_slide_40 : decode b_LA_slide 40 = .ok (.ifCond .gt 45, 3) := by decide +kernel
theorem d_LA_slide_43 : decode b_LA_slide 43 = .ok (.aload_n 0, 1) := by decide +kernel
theorem d_LA_slide_44 : decode b_LA_slide 44 = .ok (.aload_n 0, 1) := by decide +kernel
theorem d_LA_slide_45 : decode b_LA_slide 45 = .ok (.getfield 18, 3) := by decide +kernel
theorem d_LA_slide_48 : decode b_LA_slide 48 = .ok (.aload_n 0, 1) := by decide +kernel
theorem d_LA_slide_49 : decode b_LA_slide 49 = .ok (.getfield 35, 3) := by decide +kernel
theorem d_LA_slide_52 : decode b_LA_slide 52 = .ok (.lload 5, 2) := by decide +kernel
theorem d_LA_slide_54 : decode b_LA_slide 54 = .ok (.lmul, 1) := by decide +kernel
theorem d_LA_slide_55 : decode b_LA_slide 55 = .ok (.ladd, 1) := by decide +kernel
theorem d_LA_slide_56 : decode b_LA_slide 56 = .ok (.aload_n 0, 1) := by decide +kernel
theorem d_LA_slide_57 : decode b_LA_slide 57 = .ok (.getfield 18, 3) := by decide +kernel
theorem d_LA_slide_60 : decode b_LA_slide 60 = .ok (.aload_n 0, 1) := by decide +kernel
theorem d_LA_slide_61 : decode b_LA_slide 61 = .ok (.getfield 35, 3) := by decide +kernel
theorem d_LA_slide_64 : decode b_LA_slide 64 = .ok (.lload 5, 2) := by decide +kernel
theorem d_LA_slide_66 : decode b_LA_slide 66 = .ok (.lmul, 1) := by decide +kernel
theorem d_LA_slide_67 : decode b_LA_slide 67 = .ok (.ladd, 1) := by decide +kernel
theorem d_LA_slide_68 : decode b_LA_slide 68 = .ok (.aload_n 0, 1) := by decide +kernel
theorem d_LA_slide_69 : decode b_LA_slide 69 = .ok (.getfield 32, 3) := by decide +kernel
theorem d_LA_slide_72 : decode b_LA_slide 72 = .ok (.ladd, 1) := by decide +kernel
theorem d_LA_slide_73 : decode b_LA_slide 73 = .ok (.invokevirtual 56, 3) := by decide +kernel
theorem d_LA_slide_76 : decode b_LA_slide 76 = .ok (.lload 5, 2) := by decide +kernel
theorem d_LA_slide_78 : decode b_LA_slide 78 = .ok (.lconst 1, 1) := by decide +kernel
theorem d_LA_slide_79 : decode b_LA_slide 79 = .ok (.ladd, 1) := by decide +kernel
theorem d_LA_slide_80 : decode b_LA_slide 80 = .ok (.lstore 5, 2) := by decide +kernel
theorem d_LA_slide_82 : decode b_LA_slide 82 = .ok (.goto (-46), 3) := by decide +kernel
theorem d_LA_slide_85 : decode b_LA_slide 85 = .ok (.return_, 1) := by decide +kernel
theorem d_LA_inMonths_0 : decode b_LA_inMonths 0 = .ok (.aload_n 0, 1) := by decide +kernel
theorem d_LA_inMonths_1 : decode b_LA_inMonths 1 = .ok (.getfield 18, 3) := by decide +kernel
theorem d_LA_inMonths_4 : decode b_LA_inMonths 4 = .ok (.aload_n 0, 1) := by decide +kernel
theorem d_LA_inMonths_5 : decode b_LA_inMonths 5 = .ok (.getfield 32, 3) := by decide +kernel
theorem d_LA_inMonths_8 : decode b_LA_inMonths 8 = .ok (.lload_n 1, 1) := by decide +kernel
theorem d_LA_inMonths_9 : decode b_LA_inMonths 9 = .ok (.invokestatic 59, 3) := by decide +kernel
theorem d_LA_inMonths_12 : decode b_LA_inMonths 12 = .ok (.aload_n 0, 1) := by decide +kernel
theorem d_LA_inMonths_13 : decode b_LA_inMonths 13 = .ok (.getfield 18, 3) := by decide +kernel
theorem d_LA_inMonths_16 : decode b_LA_inMonths 16 = .ok (.lsub, 1) := by decide +kernel
theorem d_LA_inMonths_17 : decode b_LA_inMonths 17 = .ok (.aload_n 0, 1) := by decide +kernel
theorem d_LA_inMonths_18 : decode b_LA_inMonths 18 = .ok (.getfield 32, 3) := by decide +kernel
theorem d_LA_inMonths_21 : decode b_LA_inMonths 21 = .ok (.invokestatic 52, 3) := by decide +kernel
theorem d_LA_inMonths_24 : decode b_LA_inMonths 24 = .ok (.lmul, 1) := by decide +kernel
theorem d_LA_inMonths_25 : decode b_LA_inMonths 25 = .ok (.ladd, 1) := by decide +kernel
theorem d_LA_inMonths_26 : decode b_LA_inMonths 26 = .ok (.lstore_n 3, 1) := by decide +kernel
theorem d_LA_inMonths_27 : decode b_LA_inMonths 27 = .ok (.aload_n 0, 1) := by decide +kernel
theorem d_LA_inMonths_28 : decode b_LA_inMonths 28 = .ok (.lload_n 3, 1) := by decide +kernel
theorem d_LA_inMonths_29 : decode b_LA_inMonths 29 = .ok (.invokestatic 65, 3) := by decide +kernel
theorem d_LA_inMonths_32 : decode b_LA_inMonths 32 = .ok (.lload_n 3, 1) := by decide +kernel
theorem d_LA_inMonths_33 : decode b_LA_inMonths 33 = .ok (.aload_n 0, 1) := by decide +kernel
theorem d_LA_inMonths_34 : decode b_LA_inMonths 34 = .ok (.getfield 32, 3) := by decide +kernel
theorem d_LA_inMonths_37 : decode b_LA_inMonths 37 = .ok (.ladd, 1) := by decide +kernel
theorem d_LA_inMonths_38 : decode b_LA_inMonths 38 = .ok (.invokestatic 65, 3) := by decide +kernel
theorem d_LA_inMonths_41 : decode b_LA_inMonths 41 = .ok (.invokevirtual 56, 3) := by decide +kernel
theorem d_LA_inMonths_44 : decode b_LA_inMonths 44 = .ok (.return_, 1) := by decide +kernel
theorem d_LA_byTurns_0 : decode b_LA_byTurns 0 = .ok (.aload_n 0, 1) := by decide +kernel
theorem d_LA_byTurns_1 : decode b_LA_byTurns 1 = .ok (.getfield 18, 3) := by decide +kernel
theorem d_LA_byTurns_4 : decode b_LA_byTurns 4 = .ok (.aload_n 0, 1) := by decide +kernel
theorem d_LA_byTurns_5 : decode b_LA_byTurns 5 = .ok (.getfield 32, 3) := by decide +kernel
theorem d_LA_byTurns_8 : decode b_LA_byTurns 8 = .ok (.aload_n 0, 1) := by decide +kernel
theorem d_LA_byTurns_9 : decode b_LA_byTurns 9 = .ok (.getfield 35, 3) := by decide +kernel
theorem d_LA_byTurns_12 : decode b_LA_byTurns 12 = .ok (.ladd, 1) := by decide +kernel
theorem d_LA_byTurns_13 : decode b_LA_byTurns 13 = .ok (.lload_n 1, 1) := by decide +kernel
theorem d_LA_byTurns_14 : decode b_LA_byTurns 14 = .ok (.aload_n 0, 1) := by decide +kernel
theorem d_LA_byTurns_15 : decode b_LA_byTurns 15 = .ok (.getfield 18, 3) := by decide +kernel
theorem d_LA_byTurns_18 : decode b_LA_byTurns 18 = .ok (.lsub, 1) := by decide +kernel
theorem d_LA_byTurns_19 : decode b_LA_byTurns 19 = .ok (.aload_n 0, 1) := by decide +kernel
theorem d_LA_byTurns_20 : decode b_LA_byTurns 20 = .ok (.getfield 32, 3) := by decide +kernel
theorem d_LA_byTurns_23 : decode b_LA_byTurns 23 = .ok (.aload_n 0, 1) := by decide +kernel
theorem d_LA_byTurns_24 : decode b_LA_byTurns 24 = .ok (.getfield 35, 3) := by decide +kernel
theorem d_LA_byTurns_27 : decode b_LA_byTurns 27 = .ok (.ladd, 1) := by decide +kernel
theorem d_LA_byTurns_28 : decode b_LA_byTurns 28 = .ok (.invokestatic 52, 3) := by decide +kernel
theorem d_LA_byTurns_31 : decode b_LA_byTurns 31 = .ok (.lmul, 1) := by decide +kernel
theorem d_LA_byTurns_32 : decode b_LA_byTurns 32 = .ok (.ladd, 1) := by decide +kernel
theorem d_LA_byTurns_33 : decode b_LA_byTurns 33 = .ok (.lstore_n 3, 1) := by decide +kernel
theorem d_LA_byTurns_34 : decode b_LA_byTurns 34 = .ok (.lload_n 1, 1) := by decide +kernel
theorem d_LA_byTurns_35 : decode b_LA_byTurns 35 = .ok (.lload_n 3, 1) := by decide +kernel
theorem d_LA_byTurns_36 : decode b_LA_byTurns 36 = .ok (.aload_n 0, 1) := by decide +kernel
theorem d_LA_byTurns_37 : decode b_LA_byTurns 37 = .ok (.getfield 32, 3) := by decide +kernel
theorem d_LA_byTurns_40 : decode b_LA_byTurns 40 = .ok (.ladd, 1) := by decide +kernel
theorem d_LA_byTurns_41 : decode b_LA_byTurns 41 = .ok (.lcmp, 1) := by decide +kernel
theorem d_LA_byTurns_42 : decode b_LA_byTurns 42 = .ok (.ifCond .ge 17, 3) := by decide +kernel
theorem d_LA_byTurns_45 : decode b_LA_byTurns 45 = .ok (.aload_n 0, 1) := by decide +kernel
theorem d_LA_byTurns_46 : decode b_LA_byTurns 46 = .ok (.lload_n 3, 1) := by decide +kernel
theorem d_LA_byTurns_47 : decode b_LA_byTurns 47 = .ok (.lload_n 3, 1) := by decide +kernel
theorem d_LA_byTurns_48 : decode b_LA_byTurns 48 = .ok (.aload_n 0, 1) := by decide +kernel
theorem d_LA_byTurns_49 : decode b_LA_byTurns 49 = .ok (.getfield 32, 3) := by decide +kernel
theorem d_LA_byTurns_52 : decode b_LA_byTurns 52 = .ok (.ladd, 1) := by decide +kernel
theorem d_LA_byTurns_53 : decode b_LA_byTurns 53 = .ok (.invokevirtual 56, 3) := by decide +kernel
theorem d_LA_byTurns_56 : decode b_LA_byTurns 56 = .ok (.goto 24, 3) := by decide +kernel
theorem d_LA_byTurns_59 : decode b_LA_byTurns 59 = .ok (.aload_n 0, 1) := by decide +kernel
theorem d_LA_byTurns_60 : decode b_LA_byTurns 60 = .ok (.lload_n 3, 1) := by decide +kernel
theorem d_LA_byTurns_61 : decode b_LA_byTurns 61 = .ok (.aload_n 0, 1) := by decide +kernel
theorem d_LA_byTurns_62 : decode b_LA_byTurns 62 = .ok (.getfield 32, 3) := by decide +kernel
theorem d_LA_byTurns_65 : decode b_LA_byTurns 65 = .ok (.ladd, 1) := by decide +kernel
theorem d_LA_byTurns_66 : decode b_LA_byTurns 66 = .ok (.lload_n 3, 1) := by decide +kernel
theorem d_LA_byTurns_67 : decode b_LA_byTurns 67 = .ok (.aload_n 0, 1) := by decide +kernel
theorem d_LA_byTurns_68 : decode b_LA_byTurns 68 = .ok (.getfield 32, 3) := by decide +kernel
theorem d_LA_byTurns_71 : decode b_LA_byTurns 71 = .ok (.ladd, 1) := by decide +kernel
theorem d_LA_byTurns_72 : decode b_LA_byTurns 72 = .ok (.aload_n 0, 1) := by decide +kernel
theorem d_LA_byTurns_73 : decode b_LA_byTurns 73 = .ok (.getfield 35, 3) := by decide +kernel
theorem d_LA_byTurns_76 : decode b_LA_byTurns 76 = .ok (.ladd, 1) := by decide +kernel
theorem d_LA_byTurns_77 : decode b_LA_byTurns 77 = .ok (.invokevirtual 56, 3) := by decide +kernel
theorem d_LA_byTurns_80 : decode b_LA_byTurns 80 = .ok (.return_, 1) := by decide +kernel
theorem d_LA_beside_0 : decode b_LA_beside 0 = .ok (.aload_n 0, 1) := by decide +kernel
theorem d_LA_beside_1 : decode b_LA_beside 1 = .ok (.getfield 18, 3) := by decide +kernel
theorem d_LA_beside_4 : decode b_LA_beside 4 = .ok (.lload_n 3, 1) := by decide +kernel
theorem d_LA_beside_5 : decode b_LA_beside 5 = .ok (.lload_n 1, 1) := by decide +kernel
theorem d_LA_beside_6 : decode b_LA_beside 6 = .ok (.aload_n 0, 1) := by decide +kernel
theorem d_LA_beside_7 : decode b_LA_beside 7 = .ok (.getfield 18, 3) := by decide +kernel
theorem d_LA_beside_10 : decode b_LA_beside 10 = .ok (.lsub, 1) := by decide +kernel
theorem d_LA_beside_11 : decode b_LA_beside 11 = .ok (.lload_n 3, 1) := by decide +kernel
theorem d_LA_beside_12 : decode b_LA_beside 12 = .ok (.invokestatic 52, 3) := by decide +kernel
theorem d_LA_beside_15 : decode b_LA_beside 15 = .ok (.lmul, 1) := by decide +kernel
theorem d_LA_beside_16 : decode b_LA_beside 16 = .ok (.ladd, 1) := by decide +kernel
theorem d_LA_beside_17 : decode b_LA_beside 17 = .ok (.lstore 5, 2) := by decide +kernel
theorem d_LA_beside_19 : decode b_LA_beside 19 = .ok (.aload_n 0, 1) := by decide +kernel
theorem d_LA_beside_20 : decode b_LA_beside 20 = .ok (.lload 5, 2) := by decide +kernel
theorem d_LA_beside_22 : decode b_LA_beside 22 = .ok (.lload 5, 2) := by decide +kernel
theorem d_LA_beside_24 : decode b_LA_beside 24 = .ok (.lload_n 3, 1) := by decide +kernel
theorem d_LA_beside_25 : decode b_LA_beside 25 = .ok (.ladd, 1) := by decide +kernel
theorem d_LA_beside_26 : decode b_LA_beside 26 = .ok (.invokevirtual 56, 3) := by decide +kernel
theorem d_LA_beside_29 : decode b_LA_beside 29 = .ok (.return_, 1) := by decide +kernel
theorem d_LA_doubling_0 : decode b_LA_doubling 0 = .ok (.lload_n 1, 1) := by decide +kernel
theorem d_LA_doubling_1 : decode b_LA_doubling 1 = .ok (.aload_n 0, 1) := by decide +kernel
theorem d_LA_doubling_2 : decode b_LA_doubling 2 = .ok (.getfield 18, 3) := by decide +kernel
theorem d_LA_doubling_5 : decode b_LA_doubling 5 = .ok (.lsub, 1) := by decide +kernel
theorem d_LA_doubling_6 : decode b_LA_doubling 6 = .ok (.lstore_n 3, 1) := by decide +kernel
theorem d_LA_doubling_7 : decode b_LA_doubling 7 = .ok (.lload_n 3, 1) := by decide +kernel
theorem d_LA_doubling_8 : decode b_LA_doubling 8 = .ok (.lconst 0, 1) := by decide +kernel
theorem d_LA_doubling_9 : decode b_LA_doubling 9 = .ok (.lcmp, 1) := by decide +kernel
theorem d_LA_doubling_10 : decode b_LA_doubling 10 = .ok (.ifCond .ge 11, 3) := by decide +kernel
theorem d_LA_doubling_13 : decode b_LA_doubling 13 = .ok (.ldc2_w 74, 3) := by decide +kernel
theorem d_LA_doubling_16 : decode b_LA_doubling 16 = .ok (.lload_n 3, 1) := by decide +kernel
theorem d_LA_doubling_17 : decode b_LA_doubling 17 = .ok (.lsub, 1) := by decide +kernel
theorem d_LA_doubling_18 : decode b_LA_doubling 18 = .ok (.goto 4, 3) := by decide +kernel
theorem d_LA_doubling_21 : decode b_LA_doubling 21 = .ok (.lload_n 3, 1) := by decide +kernel
theorem d_LA_doubling_22 : decode b_LA_doubling 22 = .ok (.lstore 5, 2) := by decide +kernel
theorem d_LA_doubling_24 : decode b_LA_doubling 24 = .ok (.lconst 0, 1) := by decide +kernel
theorem d_LA_doubling_25 : decode b_LA_doubling 25 = .ok (.lstore 7, 2) := by decide +kernel
theorem d_LA_doubling_27 : decode b_LA_doubling 27 = .ok (.lconst 1, 1) := by decide +kernel
theorem d_LA_doubling_28 : decode b_LA_doubling 28 = .ok (.lstore 9, 2) := by decide +kernel
theorem d_LA_doubling_30 : decode b_LA_doubling 30 = .ok (.iconst 0, 1) := by decide +kernel
theorem d_LA_doubling_31 : decode b_LA_doubling 31 = .ok (.istore 11, 2) := by decide +kernel
theorem d_LA_doubling_33 : decode b_LA_doubling 33 = .ok (.iload 11, 2) := by decide +kernel
theorem d_LA_doubling_35 : decode b_LA_doubling 35 = .ok (.bipush 62, 2) := by decide +kernel
theorem d_LA_doubling_37 : decode b_LA_doubling 37 = .ok (.if_icmp .ge 29, 3) := by decide +kernel
theorem d_LA_doubling_40 : decode b_LA_doubling 40 = .ok (.lload 9, 2) := by decide +kernel
theorem d_LA_doubling_42 : decode b_LA_doubling 42 = .ok (.lload 5, 2) := by decide +kernel
theorem d_LA_doubling_44 : decode b_LA_doubling 44 = .ok (.lcmp, 1) := by decide +kernel
theorem d_LA_doubling_45 : decode b_LA_doubling 45 = .ok (.ifCond .gt 21, 3) := by decide +kernel
theorem d_LA_doubling_48 : decode b_LA_doubling 48 = .ok (.lload 9, 2) := by decide +kernel
theorem d_LA_doubling_50 : decode b_LA_doubling 50 = .ok (.lstore 7, 2) := by decide +kernel
theorem d_LA_doubling_52 : decode b_LA_doubling 52 = .ok (.ldc2_w 76, 3) := by decide +kernel
theorem d_LA_doubling_55 : decode b_LA_doubling 55 = .ok (.lload 9, 2) := by decide +kernel
theorem d_LA_doubling_57 : decode b_LA_doubling 57 = .ok (.lmul, 1) := by decide +kernel
theorem d_LA_doubling_58 : decode b_LA_doubling 58 = .ok (.lstore 9, 2) := by decide +kernel
theorem d_LA_doubling_60 : decode b_LA_doubling 60 = .ok (.iinc 11 1, 3) := by decide +kernel
theorem d_LA_doubling_63 : decode b_LA_doubling 63 = .ok (.goto (-30), 3) := by decide +kernel
theorem d_LA_doubling_66 : decode b_LA_doubling 66 = .ok (.lload_n 3, 1) := by decide +kernel
theorem d_LA_doubling_67 : decode b_LA_doubling 67 = .ok (.lconst 0, 1) := by decide +kernel
theorem d_LA_doubling_68 : decode b_LA_doubling 68 = .ok (.lcmp, 1) := by decide +kernel
theorem d_LA_doubling_69 : decode b_LA_doubling 69 = .ok (.ifCond .ge 24, 3) := by decide +kernel
theorem d_LA_doubling_72 : decode b_LA_doubling 72 = .ok (.aload_n 0, 1) := by decide +kernel
theorem d_LA_doubling_73 : decode b_LA_doubling 73 = .ok (.aload_n 0, 1) := by decide +kernel
theorem d_LA_doubling_74 : decode b_LA_doubling 74 = .ok (.getfield 18, 3) := by decide +kernel
theorem d_LA_doubling_77 : decode b_LA_doubling 77 = .ok (.lload 9, 2) := by decide +kernel
theorem d_LA_doubling_79 : decode b_LA_doubling 79 = .ok (.lsub, 1) := by decide +kernel
theorem d_LA_doubling_80 : decode b_LA_doubling 80 = .ok (.aload_n 0, 1) := by decide +kernel
theorem d_LA_doubling_81 : decode b_LA_doubling 81 = .ok (.getfield 18, 3) := by decide +kernel
theorem d_LA_doubling_84 : decode b_LA_doubling 84 = .ok (.lload 7, 2) := by decide +kernel
theorem d_LA_doubling_86 : decode b_LA_doubling 86 = .ok (.lsub, 1) := by decide +kernel
theorem d_LA_doubling_87 : decode b_LA_doubling 87 = .ok (.invokevirtual 56, 3) := by decide +kernel
theorem d_LA_doubling_90 : decode b_LA_doubling 90 = .ok (.goto 21, 3) := by decide +kernel
theorem d_LA_doubling_93 : decode b_LA_doubling 93 = .ok (.aload_n 0, 1) := by decide +kernel
theorem d_LA_doubling_94 : decode b_LA_doubling 94 = .ok (.aload_n 0, 1) := by decide +kernel
theorem d_LA_doubling_95 : decode b_LA_doubling 95 = .ok (.getfield 18, 3) := by decide +kernel
theorem d_LA_doubling_98 : decode b_LA_doubling 98 = .ok (.lload 7, 2) := by decide +kernel
theorem d_LA_doubling_100 : decode b_LA_doubling 100 = .ok (.ladd, 1) := by decide +kernel
theorem d_LA_doubling_101 : decode b_LA_doubling 101 = .ok (.aload_n 0, 1) := by decide +kernel
theorem d_LA_doubling_102 : decode b_LA_doubling 102 = .ok (.getfield 18, 3) := by decide +kernel
theorem d_LA_doubling_105 : decode b_LA_doubling 105 = .ok (.lload 9, 2) := by decide +kernel
theorem d_LA_doubling_107 : decode b_LA_doubling 107 = .ok (.ladd, 1) := by decide +kernel
theorem d_LA_doubling_108 : decode b_LA_doubling 108 = .ok (.invokevirtual 56, 3) := by decide +kernel
theorem d_LA_doubling_111 : decode b_LA_doubling 111 = .ok (.return_, 1) := by decide +kernel
theorem d_LA_byOwnRule_0 : decode b_LA_byOwnRule 0 = .ok (.aload_n 0, 1) := by decide +kernel
theorem d_LA_byOwnRule_1 : decode b_LA_byOwnRule 1 = .ok (.getfield 22, 3) := by decide +kernel
theorem d_LA_byOwnRule_4 : decode b_LA_byOwnRule 4 = .ok (.ifCond .ne 11, 3) := by decide +kernel
theorem d_LA_byOwnRule_7 : decode b_LA_byOwnRule 7 = .ok (.aload_n 0, 1) := by decide +kernel
theorem d_LA_byOwnRule_8 : decode b_LA_byOwnRule 8 = .ok (.lload_n 1, 1) := by decide +kernel
theorem d_LA_byOwnRule_9 : decode b_LA_byOwnRule 9 = .ok (.invokevirtual 68, 3) := by decide +kernel
theorem d_LA_byOwnRule_12 : decode b_LA_byOwnRule 12 = .ok (.goto 41, 3) := by decide +kernel
theorem d_LA_byOwnRule_15 : decode b_LA_byOwnRule 15 = .ok (.aload_n 0, 1) := by decide +kernel
theorem d_LA_byOwnRule_16 : decode b_LA_byOwnRule 16 = .ok (.getfield 22, 3) := by decide +kernel
theorem d_LA_byOwnRule_19 : decode b_LA_byOwnRule 19 = .ok (.iconst 1, 1) := by decide +kernel
theorem d_LA_byOwnRule_20 : decode b_LA_byOwnRule 20 = .ok (.if_icmp .ne 28, 3) := by decide +kernel
theorem d_LA_byOwnRule_23 : decode b_LA_byOwnRule 23 = .ok (.aload_n 0, 1) := by decide +kernel
theorem d_LA_byOwnRule_24 : decode b_LA_byOwnRule 24 = .ok (.lload_n 1, 1) := by decide +kernel
theorem d_LA_byOwnRule_25 : decode b_LA_byOwnRule 25 = .ok (.lload_n 3, 1) := by decide +kernel
theorem d_LA_byOwnRule_26 : decode b_LA_byOwnRule 26 = .ok (.lconst 0, 1) := by decide +kernel
theorem d_LA_byOwnRule_27 : decode b_LA_byOwnRule 27 = .ok (.lcmp, 1) := by decide +kernel
theorem d_LA_byOwnRule_28 : decode b_LA_byOwnRule 28 = .ok (.ifCond .ge 10, 3) := by decide +kernel
theorem d_LA_byOwnRule_31 : decode b_LA_byOwnRule 31 = .ok (.aload_n 0, 1) := by decide +kernel
theorem d_LA_byOwnRule_32 : decode b_LA_byOwnRule 32 = .ok (.getfield 35, 3) := by decide +kernel
theorem d_LA_byOwnRule_35 : decode b_LA_byOwnRule 35 = .ok (.goto 7, 3) := by decide +kernel
theorem d_LA_byOwnRule_38 : decode b_LA_byOwnRule 38 = .ok (.aload_n 0, 1) := by decide +kernel
theorem d_LA_byOwnRule_39 : decode b_LA_byOwnRule 39 = .ok (.getfield 32, 3) := by decide +kernel
theorem d_LA_byOwnRule_42 : decode b_LA_byOwnRule 42 = .ok (.invokevirtual 49, 3) := by decide +kernel
theorem d_LA_byOwnRule_45 : decode b_LA_byOwnRule 45 = .ok (.goto 8, 3) := by decide +kernel
theorem d_LA_byOwnRule_48 : decode b_LA_byOwnRule 48 = .ok (.aload_n 0, 1) := by decide +kernel
theorem d_LA_byOwnRule_49 : decode b_LA_byOwnRule 49 = .ok (.lload_n 1, 1) := by decide +kernel
theorem d_LA_byOwnRule_50 : decode b_LA_byOwnRule 50 = .ok (.invokevirtual 71, 3) := by decide +kernel
theorem d_LA_byOwnRule_53 : decode b_LA_byOwnRule 53 = .ok (.return_, 1) := by decide +kernel
theorem d_LA_seek_0 : decode b_LA_seek 0 = .ok (.aload_n 0, 1) := by decide +kernel
theorem d_LA_seek_1 : decode b_LA_seek 1 = .ok (.iconst 0, 1) := by decide +kernel
theorem d_LA_seek_2 : decode b_LA_seek 2 = .ok (.putfield 26, 3) := by decide +kernel
theorem d_LA_seek_5 : decode b_LA_seek 5 = .ok (.aload_n 0, 1) := by decide +kernel
theorem d_LA_seek_6 : decode b_LA_seek 6 = .ok (.getfield 29, 3) := by decide +kernel
theorem d_LA_seek_9 : decode b_LA_seek 9 = .ok (.iconst 1, 1) := by decide +kernel
theorem d_LA_seek_10 : decode b_LA_seek 10 = .ok (.if_icmp .ne 11, 3) := by decide +kernel
theorem d_LA_seek_13 : decode b_LA_seek 13 = .ok (.aload_n 0, 1) := by decide +kernel
theorem d_LA_seek_14 : decode b_LA_seek 14 = .ok (.lload_n 1, 1) := by decide +kernel
theorem d_LA_seek_15 : decode b_LA_seek 15 = .ok (.invokevirtual 38, 3) := by decide +kernel
theorem d_LA_seek_18 : decode b_LA_seek 18 = .ok (.goto 45, 3) := by decide +kernel
theorem d_LA_seek_21 : decode b_LA_seek 21 = .ok (.aload_n 0, 1) := by decide +kernel
theorem d_LA_seek_22 : decode b_LA_seek 22 = .ok (.getfield 29, 3) := by decide +kernel
theorem d_LA_seek_25 : decode b_LA_seek 25 = .ok (.iconst 4, 1) := by decide +kernel
theorem d_LA_seek_26 : decode b_LA_seek 26 = .ok (.if_icmp .ne 11, 3) := by decide +kernel
theorem d_LA_seek_29 : decode b_LA_seek 29 = .ok (.aload_n 0, 1) := by decide +kernel
theorem d_LA_seek_30 : decode b_LA_seek 30 = .ok (.lload_n 1, 1) := by decide +kernel
theorem d_LA_seek_31 : decode b_LA_seek 31 = .ok (.invokevirtual 42, 3) := by decide +kernel
theorem d_LA_seek_34 : decode b_LA_seek 34 = .ok (.goto 29, 3) := by decide +kernel
theorem d_LA_seek_37 : decode b_LA_seek 37 = .ok (.aload_n 0, 1) := by decide +kernel
theorem d_LA_seek_38 : decode b_LA_seek 38 = .ok (.getfield 29, 3) := by decide +kernel
theorem d_LA_seek_41 : decode b_LA_seek 41 = .ok (.iconst 5, 1) := by decide +kernel
theorem d_LA_seek_42 : decode b_LA_seek 42 = .ok (.if_icmp .ne 12, 3) := by decide +kernel
theorem d_LA_seek_45 : decode b_LA_seek 45 = .ok (.aload_n 0, 1) := by decide +kernel
theorem d_LA_seek_46 : decode b_LA_seek 46 = .ok (.lload_n 1, 1) := by decide +kernel
theorem d_LA_seek_47 : decode b_LA_seek 47 = .ok (.lload_n 3, 1) := by decide +kernel
theorem d_LA_seek_48 : decode b_LA_seek 48 = .ok (.invokevirtual 45, 3) := by decide +kernel
theorem d_LA_seek_51 : decode b_LA_seek 51 = .ok (.goto 12, 3) := by decide +kernel
theorem d_LA_seek_54 : decode b_LA_seek 54 = .ok (.aload_n 0, 1) := by decide +kernel
theorem d_LA_seek_55 : decode b_LA_seek 55 = .ok (.lload_n 1, 1) := by decide +kernel
theorem d_LA_seek_56 : decode b_LA_seek 56 = .ok (.aload_n 0, 1) := by decide +kernel
theorem d_LA_seek_57 : decode b_LA_seek 57 = .ok (.getfield 32, 3) := by decide +kernel
theorem d_LA_seek_60 : decode b_LA_seek 60 = .ok (.invokevirtual 49, 3) := by decide +kernel
theorem d_LA_seek_63 : decode b_LA_seek 63 = .ok (.return_, 1) := by decide +kernel
theorem d_LA_keepEndsAbove_0 : decode b_LA_keepEndsAbove 0 = .ok (.iconst 0, 1) := by decide +kernel
theorem d_LA_keepEndsAbove_1 : decode b_LA_keepEndsAbove 1 = .ok (.istore_n 3, 1) := by decide +kernel
theorem d_LA_keepEndsAbove_2 : decode b_LA_keepEndsAbove 2 = .ok (.iconst 0, 1) := by decide +kernel
theorem d_LA_keepEndsAbove_3 : decode b_LA_keepEndsAbove 3 = .ok (.istore 4, 2) := by decide +kernel
theorem d_LA_keepEndsAbove_5 : decode b_LA_keepEndsAbove 5 = .ok (.iload 4, 2) := by decide +kernel
theorem d_LA_keepEndsAbove_7 : decode b_LA_keepEndsAbove 7 = .ok (.aload_n 0, 1) := by decide +kernel
theorem d_LA_keepEndsAbove_8 : decode b_LA_keepEndsAbove 8 = .ok (.getfield 26, 3) := by decide +kernel
theorem d_LA_keepEndsAbove_11 : decode b_LA_keepEndsAbove 11 = .ok (.if_icmp .ge 50, 3) := by decide +kernel
theorem d_LA_keepEndsAbove_14 : decode b_LA_keepEndsAbove 14 = .ok (.aload_n 0, 1) := by decide +kernel
theorem d_LA_keepEndsAbove_15 : decode b_LA_keepEndsAbove 15 = .ok (.getfield 15, 3) := by decide +kernel
theorem d_LA_keepEndsAbove_18 : decode b_LA_keepEndsAbove 18 = .ok (.iload 4, 2) := by decide +kernel
theorem d_LA_keepEndsAbove_20 : decode b_LA_keepEndsAbove 20 = .ok (.laload, 1) := by decide +kernel
theorem d_LA_keepEndsAbove_21 : decode b_LA_keepEndsAbove 21 = .ok (.lload_n 1, 1) := by decide +kernel
theorem d_LA_keepEndsAbove_22 : decode b_LA_keepEndsAbove 22 = .ok (.lcmp, 1) := by decide +kernel
theorem d_LA_keepEndsAbove_23 : decode b_LA_keepEndsAbove 23 = .ok (.ifCond .le 32, 3) := by decide +kernel
theorem d_LA_keepEndsAbove_26 : decode b_LA_keepEndsAbove 26 = .ok (.aload_n 0, 1) := by decide +kernel
theorem d_LA_keepEndsAbove_27 : decode b_LA_keepEndsAbove 27 = .ok (.getfield 9, 3) := by decide +kernel
theorem d_LA_keepEndsAbove_30 : decode b_LA_keepEndsAbove 30 = .ok (.iload_n 3, 1) := by decide +kernel
theorem d_LA_keepEndsAbove_31 : decode b_LA_keepEndsAbove 31 = .ok (.aload_n 0, 1) := by decide +kernel
theorem d_LA_keepEndsAbove_32 : decode b_LA_keepEndsAbove 32 = .ok (.getfield 9, 3) := by decide +kernel
theorem d_LA_keepEndsAbove_35 : decode b_LA_keepEndsAbove 35 = .ok (.iload 4, 2) := by decide +kernel
theorem d_LA_keepEndsAbove_37 : decode b_LA_keepEndsAbove 37 = .ok (.laload, 1) := by decide +kernel
theorem d_LA_keepEndsAbove_38 : decode b_LA_keepEndsAbove 38 = .ok (.lastore, 1) := by decide +kernel
theorem d_LA_keepEndsAbove_39 : decode b_LA_keepEndsAbove 39 = .ok (.aload_n 0, 1) := by decide +kernel
theorem d_LA_keepEndsAbove_40 : decode b_LA_keepEndsAbove 40 = .ok (.getfield 15, 3) := by decide +kernel
theorem d_LA_keepEndsAbove_43 : decode b_LA_keepEndsAbove 43 = .ok (.iload_n 3, 1) := by decide +kernel
theorem d_LA_keepEndsAbove_44 : decode b_LA_keepEndsAbove 44 = .ok (.aload_n 0, 1) := by decide +kernel
theorem d_LA_keepEndsAbove_45 : decode b_LA_keepEndsAbove 45 = .ok (.getfield 15, 3) := by decide +kernel
theorem d_LA_keepEndsAbove_48 : decode b_LA_keepEndsAbove 48 = .ok (.iload 4, 2) := by decide +kernel
theorem d_LA_keepEndsAbove_50 : decode b_LA_keepEndsAbove 50 = .ok (.laload, 1) := by decide +kernel
theorem d_LA_keepEndsAbove_51 : decode b_LA_keepEndsAbove 51 = .ok (.lastore, 1) := by decide +kernel
theorem d_LA_keepEndsAbove_52 : decode b_LA_keepEndsAbove 52 = .ok (.iinc 3 1, 3) := by decide +kernel
theorem d_LA_keepEndsAbove_55 : decode b_LA_keepEndsAbove 55 = .ok (.iinc 4 1, 3) := by decide +kernel
theorem d_LA_keepEndsAbove_58 : decode b_LA_keepEndsAbove 58 = .ok (.goto (-53), 3) := by decide +kernel
theorem d_LA_keepEndsAbove_61 : decode b_LA_keepEndsAbove 61 = .ok (.aload_n 0, 1) := by decide +kernel
theorem d_LA_keepEndsAbove_62 : decode b_LA_keepEndsAbove 62 = .ok (.iload_n 3, 1) := by decide +kernel
theorem d_LA_keepEndsAbove_63 : decode b_LA_keepEndsAbove 63 = .ok (.putfield 26, 3) := by decide +kernel
theorem d_LA_keepEndsAbove_66 : decode b_LA_keepEndsAbove 66 = .ok (.return_, 1) := by decide +kernel
theorem d_SS_find_0 : decode b_SS_find 0 = .ok (.iconst 0, 1) := by decide +kernel
theorem d_SS_find_1 : decode b_SS_find 1 = .ok (.istore 6, 2) := by decide +kernel
theorem d_SS_find_3 : decode b_SS_find 3 = .ok (.iload 6, 2) := by decide +kernel
theorem d_SS_find_5 : decode b_SS_find 5 = .ok (.aload_n 0, 1) := by decide +kernel
theorem d_SS_find_6 : decode b_SS_find 6 = .ok (.getfield 47, 3) := by decide +kernel
theorem d_SS_find_9 : decode b_SS_find 9 = .ok (.if_icmp .ge 57, 3) := by decide +kernel
theorem d_SS_find_12 : decode b_SS_find 12 = .ok (.aload_n 0, 1) := by decide +kernel
theorem d_SS_find_13 : decode b_SS_find 13 = .ok (.getfield 44, 3) := by decide +kernel
theorem d_SS_find_16 : decode b_SS_find 16 = .ok (.iload 6, 2) := by decide +kernel
theorem d_SS_find_18 : decode b_SS_find 18 = .ok (.iaload, 1) := by decide +kernel
theorem d_SS_find_19 : decode b_SS_find 19 = .ok (.istore 7, 2) := by decide +kernel
theorem d_SS_find_21 : decode b_SS_find 21 = .ok (.aload_n 0, 1) := by decide +kernel
theorem d_SS_find_22 : decode b_SS_find 22 = .ok (.getfield 9, 3) := by decide +kernel
theorem d_SS_find_25 : decode b_SS_find 25 = .ok (.iload 7, 2) := by decide +kernel
theorem d_SS_find_27 : decode b_SS_find 27 = .ok (.iaload, 1) := by decide +kernel
theorem d_SS_find_28 : decode b_SS_find 28 = .ok (.iload_n 1, 1) := by decide +kernel
theorem d_SS_find_29 : decode b_SS_find 29 = .ok (.if_icmp .ne 31, 3) := by decide +kernel
theorem d_SS_find_32 : decode b_SS_find 32 = .ok (.aload_n 0, 1) := by decide +kernel
theorem d_SS_find_33 : decode b_SS_find 33 = .ok (.getfield 15, 3) := by decide +kernel
theorem d_SS_find_36 : decode b_SS_find 36 = .ok (.iload 7, 2) := by decide +kernel
theorem d_SS_find_38 : decode b_SS_find 38 = .ok (.laload, 1) := by decide +kernel
theorem d_SS_find_39 : decode b_SS_find 39 = .ok (.lload_n 2, 1) := by decide +kernel
theorem d_SS_find_40 : decode b_SS_find 40 = .ok (.lcmp, 1) := by decide +kernel
theorem d_SS_find_41 : decode b_SS_find 41 = .ok (.ifCond .ne 19, 3) := by decide +kernel
theorem d_SS_find_44 : decode b_SS_find 44 = .ok (.aload_n 0, 1) := by decide +kernel
theorem d_SS_find_45 : decode b_SS_find 45 = .ok (.getfield 19, 3) := by decide +kernel
theorem d_SS_find_48 : decode b_SS_find 48 = .ok (.iload 7, 2) := by decide +kernel
theorem d_SS_find_50 : decode b_SS_find 50 = .ok (.laload, 1) := by decide +kernel
theorem d_SS_find_51 : decode b_SS_find 51 = .ok (.lload 4, 2) := by decide +kernel
theorem d_SS_find_53 : decode b_SS_find 53 = .ok (.lcmp, 1) := by decide +kernel
theorem d_SS_find_54 : decode b_SS_find 54 = .ok (.ifCond .ne 6, 3) := by decide +kernel
theorem d_SS_find_57 : decode b_SS_find 57 = .ok (.iload 7, 2) := by decide +kernel
theorem d_SS_find_59 : decode b_SS_find 59 = .ok (.ireturn, 1) := by decide +kernel
theorem d_SS_find_60 : decode b_SS_find 60 = .ok (.iinc 6 1, 3) := by decide +kernel
theorem d_SS_find_63 : decode b_SS_find 63 = .ok (.goto (-60), 3) := by decide +kernel
theorem d_SS_find_66 : decode b_SS_find 66 = .ok (.iconst (-1), 1) := by decide +kernel
theorem d_SS_find_67 : decode b_SS_find 67 = .ok (.ireturn, 1) := by decide +kernel
theorem d_SR_newOnes_0 : decode b_SR_newOnes 0 = .ok (.iconst 0, 1) := by decide +kernel
theorem d_SR_newOnes_1 : decode b_SR_newOnes 1 = .ok (.istore_n 2, 1) := by decide +kernel
theorem d_SR_newOnes_2 : decode b_SR_newOnes 2 = .ok (.iconst 0, 1) := by decide +kernel
theorem d_SR_newOnes_3 : decode b_SR_newOnes 3 = .ok (.istore_n 3, 1) := by decide +kernel
theorem d_SR_newOnes_4 : decode b_SR_newOnes 4 = .ok (.iload_n 3, 1) := by decide +kernel
theorem d_SR_newOnes_5 : decode b_SR_newOnes 5 = .ok (.aload_n 0, 1) := by decide +kernel
theorem d_SR_newOnes_6 : decode b_SR_newOnes 6 = .ok (.getfield 87, 3) := by decide +kernel
theorem d_SR_newOnes_9 : decode b_SR_newOnes 9 = .ok (.getfield 276, 3) := by decide +kernel
theorem d_SR_newOnes_12 : decode b_SR_newOnes 12 = .ok (.if_icmp .ge 42, 3) := by decide +kernel
theorem d_SR_newOnes_15 : decode b_SR_newOnes 15 = .ok (.aload_n 0, 1) := by decide +kernel
theorem d_SR_newOnes_16 : decode b_SR_newOnes 16 = .ok (.getfield 26, 3) := by decide +kernel
theorem d_SR_newOnes_19 : decode b_SR_newOnes 19 = .ok (.iload_n 1, 1) := by decide +kernel
theorem d_SR_newOnes_20 : decode b_SR_newOnes 20 = .ok (.aload_n 0, 1) := by decide +kernel
theorem d_SR_newOnes_21 : decode b_SR_newOnes 21 = .ok (.getfield 87, 3) := by decide +kernel
theorem d_SR_newOnes_24 : decode b_SR_newOnes 24 = .ok (.getfield 282, 3) := by decide +kernel
theorem d_SR_newOnes_27 : decode b_SR_newOnes 27 = .ok (.iload_n 3, 1) := by decide +kernel
theorem d_SR_newOnes_28 : decode b_SR_newOnes 28 = .ok (.laload, 1) := by decide +kernel
theorem d_SR_newOnes_29 : decode b_SR_newOnes 29 = .ok (.aload_n 0, 1) := by decide +kernel
theorem d_SR_newOnes_30 : decode b_SR_newOnes 30 = .ok (.getfield 87, 3) := by decide +kernel
theorem d_SR_newOnes_33 : decode b_SR_newOnes 33 = .ok (.getfield 283, 3) := by decide +kernel
theorem d_SR_newOnes_36 : decode b_SR_newOnes 36 = .ok (.iload_n 3, 1) := by decide +kernel
theorem d_SR_newOnes_37 : decode b_SR_newOnes 37 = .ok (.laload, 1) := by decide +kernel
theorem d_SR_newOnes_38 : decode b_SR_newOnes 38 = .ok (.invokevirtual 284, 3) := by decide +kernel
theorem d_SR_newOnes_41 : decode b_SR_newOnes 41 = .ok (.iconst (-1), 1) := by decide +kernel
theorem d_SR_newOnes_42 : decode b_SR_newOnes 42 = .ok (.if_icmp .ne 6, 3) := by decide +kernel
theorem d_SR_newOnes_45 : decode b_SR_newOnes 45 = .ok (.iinc 2 1, 3) := by decide +kernel
theorem d_SR_newOnes_48 : decode b_SR_newOnes 48 = .ok (.iinc 3 1, 3) := by decide +kernel
theorem d_SR_newOnes_51 : decode b_SR_newOnes 51 = .ok (.goto (-47), 3) := by decide +kernel
theorem d_SR_newOnes_54 : decode b_SR_newOnes 54 = .ok (.iload_n 2, 1) := by decide +kernel
theorem d_SR_newOnes_55 : decode b_SR_newOnes 55 = .ok (.ireturn, 1) := by decide +kernel
theorem d_SR_putByLayout_0 : decode b_SR_putByLayout 0 = .ok (.aload_n 0, 1) := by decide +kernel
theorem d_SR_putByLayout_1 : decode b_SR_putByLayout 1 = .ok (.getfield 87, 3) := by decide +kernel
theorem d_SR_putByLayout_4 : decode b_SR_putByLayout 4 = .ok (.lload_n 2, 1) := by decide +kernel
theorem d_SR_putByLayout_5 : decode b_SR_putByLayout 5 = .ok (.lload 4, 2) := by decide +kernel
theorem d_SR_putByLayout_7 : decode b_SR_putByLayout 7 = .ok (.invokevirtual 268, 3) := by decide +kernel
theorem d_SR_putByLayout_10 : decode b_SR_putByLayout 10 = .ok (.aload_n 0, 1) := by decide +kernel
theorem d_SR_putByLayout_11 : decode b_SR_putByLayout 11 = .ok (.getfield 87, 3) := by decide +kernel
theorem d_SR_putByLayout_14 : decode b_SR_putByLayout 14 = .ok (.aload_n 0, 1) := by decide +kernel
theorem d_SR_putByLayout_15 : decode b_SR_putByLayout 15 = .ok (.getfield 57, 3) := by decide +kernel
theorem d_SR_putByLayout_18 : decode b_SR_putByLayout 18 = .ok (.aload_n 0, 1) := by decide +kernel
theorem d_SR_putByLayout_19 : decode b_SR_putByLayout 19 = .ok (.getfield 51, 3) := by decide +kernel
theorem d_SR_putByLayout_22 : decode b_SR_putByLayout 22 = .ok (.lsub, 1) := by decide +kernel
theorem d_SR_putByLayout_23 : decode b_SR_putByLayout 23 = .ok (.invokevirtual 272, 3) := by decide +kernel
theorem d_SR_putByLayout_26 : decode b_SR_putByLayout 26 = .ok (.aload_n 0, 1) := by decide +kernel
theorem d_SR_putByLayout_27 : decode b_SR_putByLayout 27 = .ok (.getfield 87, 3) := by decide +kernel
theorem d_SR_putByLayout_30 : decode b_SR_putByLayout 30 = .ok (.getfield 276, 3) := by decide +kernel
theorem d_SR_putByLayout_33 : decode b_SR_putByLayout 33 = .ok (.ifCond .ne 8, 3) := by decide +kernel
theorem d_SR_putByLayout_36 : decode b_SR_putByLayout 36 = .ok (.aload_n 0, 1) := by decide +kernel
theorem d_SR_putByLayout_37 : decode b_SR_putByLayout 37 = .ok (.invokevirtual 234, 3) := by decide +kernel
theorem d_SR_putByLayout_40 : decode b_SR_putByLayout 40 = .ok (.ireturn, 1) := by decide +kernel
theorem d_SR_putByLayout_41 : decode b_SR_putByLayout 41 = .ok (.aload_n 0, 1) := by decide +kernel
theorem d_SR_putByLayout_42 : decode b_SR_putByLayout 42 = .ok (.getfield 19, 3) := by decide +kernel
theorem d_SR_putByLayout_45 : decode b_SR_putByLayout 45 = .ok (.invokevirtual 237, 3) := by decide +kernel
theorem d_SR_putByLayout_48 : decode b_SR_putByLayout 48 = .ok (.ifCond .ne 22, 3) := by decide +kernel
theorem d_SR_putByLayout_51 : decode b_SR_putByLayout 51 = .ok (.aload_n 0, 1) := by decide +kernel
theorem d_SR_putByLayout_52 : decode b_SR_putByLayout 52 = .ok (.getfield 26, 3) := by decide +kernel
theorem d_SR_putByLayout_55 : decode b_SR_putByLayout 55 = .ok (.getfield 157, 3) := by decide +kernel
theorem d_SR_putByLayout_58 : decode b_SR_putByLayout 58 = .ok (.aload_n 0, 1) := by decide +kernel
theorem d_SR_putByLayout_59 : decode b_SR_putByLayout 59 = .ok (.iload_n 1, 1) := by decide +kernel
theorem d_SR_putByLayout_60 : decode b_SR_putByLayout 60 = .ok (.invokevirtual 279, 3) := by decide +kernel
theorem d_SR_putByLayout_63 : decode b_SR_putByLayout 63 = .ok (.iadd, 1) := by decide +kernel
theorem d_SR_putByLayout_64 : decode b_SR_putByLayout 64 = .ok (.sipush 200, 3) := by decide +kernel
theorem d_SR_putByLayout_67 : decode b_SR_putByLayout 67 = .ok (.if_icmp .le 6, 3) := by decide +kernel
theorem d_SR_putByLayout_70 : decode b_SR_putByLayout 70 = .ok (.bipush (-4), 2) := by decide +kernel
theorem d_SR_putByLayout_72 : decode b_SR_putByLayout 72 = .ok (.ireturn, 1) := by decide +kernel
theorem d_SR_putByLayout_73 : decode b_SR_putByLayout 73 = .ok (.aload_n 0, 1) := by decide +kernel
theorem d_SR_putByLayout_74 : decode b_SR_putByLayout 74 = .ok (.dup, 1) := by decide +kernel
theorem d_SR_putByLayout_75 : decode b_SR_putByLayout 75 = .ok (.getfield 71, 3) := by decide +kernel
