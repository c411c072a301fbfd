theorem d_SR_putByLayout_78 : decode b_SR_putByLayout 78 = .ok (.iconst 1, 1) := by decide +kernel
theorem d_SR_putByLayout_79 : decode b_SR_putByLayout 79 = .ok (.iadd, 1) := by decide +kernel
theorem d_SR_putByLayout_80 : decode b_SR_putByLayout 80 = .ok (.putfield 71, 3) := by decide +kernel
theorem d_SR_putByLayout_83 : decode b_SR_putByLayout 83 = .ok (.aload_n 0, 1) := by decide +kernel
theorem d_SR_putByLayout_84 : decode b_SR_putByLayout 84 = .ok (.getfield 19, 3) := by decide +kernel
theorem d_SR_putByLayout_87 : decode b_SR_putByLayout 87 = .ok (.iload_n 1, 1) := by decide +kernel
theorem d_SR_putByLayout_88 : decode b_SR_putByLayout 88 = .ok (.lload_n 2, 1) := by decide +kernel
theorem d_SR_putByLayout_89 : decode b_SR_putByLayout 89 = .ok (.lload 4, 2) := by decide +kernel
theorem d_SR_putByLayout_91 : decode b_SR_putByLayout 91 = .ok (.invokevirtual 241, 3) := by decide +kernel
theorem d_SR_putByLayout_94 : decode b_SR_putByLayout 94 = .ok (.istore 6, 2) := by decide +kernel
theorem d_SR_putByLayout_96 : decode b_SR_putByLayout 96 = .ok (.iconst 0, 1) := by decide +kernel
theorem d_SR_putByLayout_97 : decode b_SR_putByLayout 97 = .ok (.istore 7, 2) := by decide +kernel
theorem d_SR_putByLayout_99 : decode b_SR_putByLayout 99 = .ok (.iload 7, 2) := by decide +kernel
theorem d_SR_putByLayout_101 : decode b_SR_putByLayout 101 = .ok (.aload_n 0, 1) := by decide +kernel
theorem d_SR_putByLayout_102 : decode b_SR_putByLayout 102 = .ok (.getfield 87, 3) := by decide +kernel
theorem d_SR_putByLayout_105 : decode b_SR_putByLayout 105 = .ok (.getfield 276, 3) := by decide +kernel
theorem d_SR_putByLayout_108 : decode b_SR_putByLayout 108 = .ok (.if_icmp .ge 83, 3) := by decide +kernel
theorem d_SR_putByLayout_111 : decode b_SR_putByLayout 111 = .ok (.aload_n 0, 1) := by decide +kernel
theorem d_SR_putByLayout_112 : decode b_SR_putByLayout 112 = .ok (.getfield 26, 3) := by decide +kernel
theorem d_SR_putByLayout_115 : decode b_SR_putByLayout 115 = .ok (.iload_n 1, 1) := by decide +kernel
theorem d_SR_putByLayout_116 : decode b_SR_putByLayout 116 = .ok (.aload_n 0, 1) := by decide +kernel
theorem d_SR_putByLayout_117 : decode b_SR_putByLayout 117 = .ok (.getfield 87, 3) := by decide +kernel
theorem d_SR_putByLayout_120 : decode b_SR_putByLayout 120 = .ok (.getfield 282, 3) := by decide +kernel
theorem d_SR_putByLayout_123 : decode b_SR_putByLayout 123 = .ok (.iload 7, 2) := by decide +kernel
theorem d_SR_putByLayout_125 : decode b_SR_putByLayout 125 = .ok (.laload, 1) := by decide +kernel
theorem d_SR_putByLayout_126 : decode b_SR_putByLayout 126 = .ok (.aload_n 0, 1) := by decide +kernel
theorem d_SR_putByLayout_127 : decode b_SR_putByLayout 127 = .ok (.getfield 87, 3) := by decide +kernel
theorem d_SR_putByLayout_130 : decode b_SR_putByLayout 130 = .ok (.getfield 283, 3) := by decide +kernel
theorem d_SR_putByLayout_133 : decode b_SR_putByLayout 133 = .ok (.iload 7, 2) := by decide +kernel
theorem d_SR_putByLayout_135 : decode b_SR_putByLayout 135 = .ok (.laload, 1) := by decide +kernel
theorem d_SR_putByLayout_136 : decode b_SR_putByLayout 136 = .ok (.invokevirtual 284, 3) := by decide +kernel
theorem d_SR_putByLayout_139 : decode b_SR_putByLayout 139 = .ok (.istore 8, 2) := by decide +kernel
theorem d_SR_putByLayout_141 : decode b_SR_putByLayout 141 = .ok (.iload 8, 2) := by decide +kernel
theorem d_SR_putByLayout_143 : decode b_SR_putByLayout 143 = .ok (.iconst (-1), 1) := by decide +kernel
theorem d_SR_putByLayout_144 : decode b_SR_putByLayout 144 = .ok (.if_icmp .ne 33, 3) := by decide +kernel
theorem d_SR_putByLayout_147 : decode b_SR_putByLayout 147 = .ok (.aload_n 0, 1) := by decide +kernel
theorem d_SR_putByLayout_148 : decode b_SR_putByLayout 148 = .ok (.getfield 26, 3) := by decide +kernel
theorem d_SR_putByLayout_151 : decode b_SR_putByLayout 151 = .ok (.iload_n 1, 1) := by decide +kernel
theorem d_SR_putByLayout_152 : decode b_SR_putByLayout 152 = .ok (.aload_n 0, 1) := by decide +kernel
theorem d_SR_putByLayout_153 : decode b_SR_putByLayout 153 = .ok (.getfield 87, 3) := by decide +kernel
theorem d_SR_putByLayout_156 : decode b_SR_putByLayout 156 = .ok (.getfield 282, 3) := by decide +kernel
theorem d_SR_putByLayout_159 : decode b_SR_putByLayout 159 = .ok (.iload 7, 2) := by decide +kernel
theorem d_SR_putByLayout_161 : decode b_SR_putByLayout 161 = .ok (.laload, 1) := by decide +kernel
theorem d_SR_putByLayout_162 : decode b_SR_putByLayout 162 = .ok (.aload_n 0, 1) := by decide +kernel
theorem d_SR_putByLayout_163 : decode b_SR_putByLayout 163 = .ok (.getfield 87, 3) := by decide +kernel
theorem d_SR_putByLayout_166 : decode b_SR_putByLayout 166 = .ok (.getfield 283, 3) := by decide +kernel
theorem d_SR_putByLayout_169 : decode b_SR_putByLayout 169 = .ok (.iload 7, 2) := by decide +kernel
theorem d_SR_putByLayout_171 : decode b_SR_putByLayout 171 = .ok (.laload, 1) := by decide +kernel
theorem d_SR_putByLayout_172 : decode b_SR_putByLayout 172 = .ok (.invokevirtual 287, 3) := by decide +kernel
theorem d_SR_putByLayout_175 : decode b_SR_putByLayout 175 = .ok (.istore 8, 2) := by decide +kernel
theorem d_SR_putByLayout_177 : decode b_SR_putByLayout 177 = .ok (.aload_n 0, 1) := by decide +kernel
theorem d_SR_putByLayout_178 : decode b_SR_putByLayout 178 = .ok (.iload 8, 2) := by decide +kernel
theorem d_SR_putByLayout_180 : decode b_SR_putByLayout 180 = .ok (.iload 6, 2) := by decide +kernel
theorem d_SR_putByLayout_182 : decode b_SR_putByLayout 182 = .ok (.invokevirtual 264, 3) := by decide +kernel
theorem d_SR_putByLayout_185 : decode b_SR_putByLayout 185 = .ok (.iinc 7 1, 3) := by decide +kernel
theorem d_SR_putByLayout_188 : decode b_SR_putByLayout 188 = .ok (.goto (-89), 3) := by decide +kernel
theorem d_SR_putByLayout_191 : decode b_SR_putByLayout 191 = .ok (.aload_n 0, 1) := by decide +kernel
theorem d_SR_putByLayout_192 : decode b_SR_putByLayout 192 = .ok (.getfield 87, 3) := by decide +kernel
theorem d_SR_putByLayout_195 : decode b_SR_putByLayout 195 = .ok (.getfield 276, 3) := by decide +kernel
theorem d_SR_putByLayout_198 : decode b_SR_putByLayout 198 = .ok (.ireturn, 1) := by decide +kernel
theorem d_SR_isNumbered_0 : decode b_SR_isNumbered 0 = .ok (.aload_n 0, 1) := by decide +kernel
theorem d_SR_isNumbered_1 : decode b_SR_isNumbered 1 = .ok (.getfield 19, 3) := by decide +kernel
theorem d_SR_isNumbered_4 : decode b_SR_isNumbered 4 = .ok (.getfield 355, 3) := by decide +kernel
theorem d_SR_isNumbered_7 : decode b_SR_isNumbered 7 = .ok (.iload_n 1, 1) := by decide +kernel
theorem d_SR_isNumbered_8 : decode b_SR_isNumbered 8 = .ok (.iaload, 1) := by decide +kernel
theorem d_SR_isNumbered_9 : decode b_SR_isNumbered 9 = .ok (.iconst (-1), 1) := by decide +kernel
theorem d_SR_isNumbered_10 : decode b_SR_isNumbered 10 = .ok (.if_icmp .eq 7, 3) := by decide +kernel
theorem d_SR_isNumbered_13 : decode b_SR_isNumbered 13 = .ok (.iconst 1, 1) := by decide +kernel
theorem d_SR_isNumbered_14 : decode b_SR_isNumbered 14 = .ok (.goto 4, 3) := by decide +kernel
theorem d_SR_isNumbered_17 : decode b_SR_isNumbered 17 = .ok (.iconst 0, 1) := by decide +kernel
theorem d_SR_isNumbered_18 : decode b_SR_isNumbered 18 = .ok (.ireturn, 1) := by decide +kernel
theorem d_SR_numberRows_0 : decode b_SR_numberRows 0 = .ok (.iconst 0, 1) := by decide +kernel
theorem d_SR_numberRows_1 : decode b_SR_numberRows 1 = .ok (.istore_n 1, 1) := by decide +kernel
theorem d_SR_numberRows_2 : decode b_SR_numberRows 2 = .ok (.iload_n 1, 1) := by decide +kernel
theorem d_SR_numberRows_3 : decode b_SR_numberRows 3 = .ok (.aload_n 0, 1) := by decide +kernel
theorem d_SR_numberRows_4 : decode b_SR_numberRows 4 = .ok (.getfield 19, 3) := by decide +kernel
theorem d_SR_numberRows_7 : decode b_SR_numberRows 7 = .ok (.getfield 154, 3) := by decide +kernel
theorem d_SR_numberRows_10 : decode b_SR_numberRows 10 = .ok (.if_icmp .ge 75, 3) := by decide +kernel
theorem d_SR_numberRows_13 : decode b_SR_numberRows 13 = .ok (.aload_n 0, 1) := by decide +kernel
theorem d_SR_numberRows_14 : decode b_SR_numberRows 14 = .ok (.getfield 19, 3) := by decide +kernel
theorem d_SR_numberRows_17 : decode b_SR_numberRows 17 = .ok (.getfield 309, 3) := by decide +kernel
theorem d_SR_numberRows_20 : decode b_SR_numberRows 20 = .ok (.iload_n 1, 1) := by decide +kernel
theorem d_SR_numberRows_21 : decode b_SR_numberRows 21 = .ok (.iaload, 1) := by decide +kernel
theorem d_SR_numberRows_22 : decode b_SR_numberRows 22 = .ok (.istore_n 2, 1) := by decide +kernel
theorem d_SR_numberRows_23 : decode b_SR_numberRows 23 = .ok (.aload_n 0, 1) := by decide +kernel
theorem d_SR_numberRows_24 : decode b_SR_numberRows 24 = .ok (.iload_n 2, 1) := by decide +kernel
theorem d_SR_numberRows_25 : decode b_SR_numberRows 25 = .ok (.invokevirtual 349, 3) := by decide +kernel
theorem d_SR_numberRows_28 : decode b_SR_numberRows 28 = .ok (.ifCond .ne 51, 3) := by decide +kernel
theorem d_SR_numberRows_31 : decode b_SR_numberRows 31 = .ok (.aload_n 0, 1) := by decide +kernel
theorem d_SR_numberRows_32 : decode b_SR_numberRows 32 = .ok (.getfield 19, 3) := by decide +kernel
theorem d_SR_numberRows_35 : decode b_SR_numberRows 35 = .ok (.getfield 365, 3) := by decide +kernel
theorem d_SR_numberRows_38 : decode b_SR_numberRows 38 = .ok (.iload_n 2, 1) := by decide +kernel
theorem d_SR_numberRows_39 : decode b_SR_numberRows 39 = .ok (.laload, 1) := by decide +kernel
theorem d_SR_numberRows_40 : decode b_SR_numberRows 40 = .ok (.aload_n 0, 1) := by decide +kernel
theorem d_SR_numberRows_41 : decode b_SR_numberRows 41 = .ok (.getfield 57, 3) := by decide +kernel
theorem d_SR_numberRows_44 : decode b_SR_numberRows 44 = .ok (.lcmp, 1) := by decide +kernel
theorem d_SR_numberRows_45 : decode b_SR_numberRows 45 = .ok (.ifCond .ge 34, 3) := by decide +kernel
theorem d_SR_numberRows_48 : decode b_SR_numberRows 48 = .ok (.aload_n 0, 1) := by decide +kernel
theorem d_SR_numberRows_49 : decode b_SR_numberRows 49 = .ok (.getfield 19, 3) := by decide +kernel
theorem d_SR_numberRows_52 : decode b_SR_numberRows 52 = .ok (.getfield 355, 3) := by decide +kernel
theorem d_SR_numberRows_55 : decode b_SR_numberRows 55 = .ok (.iload_n 2, 1) := by decide +kernel
theorem d_SR_numberRows_56 : decode b_SR_numberRows 56 = .ok (.aload_n 0, 1) := by decide +kernel
theorem d_SR_numberRows_57 : decode b_SR_numberRows 57 = .ok (.getfield 33, 3) := by decide +kernel
theorem d_SR_numberRows_60 : decode b_SR_numberRows 60 = .ok (.getfield 179, 3) := by decide +kernel
theorem d_SR_numberRows_63 : decode b_SR_numberRows 63 = .ok (.aload_n 0, 1) := by decide +kernel
theorem d_SR_numberRows_64 : decode b_SR_numberRows 64 = .ok (.getfield 19, 3) := by decide +kernel
theorem d_SR_numberRows_67 : decode b_SR_numberRows 67 = .ok (.getfield 364, 3) := by decide +kernel
theorem d_SR_numberRows_70 : decode b_SR_numberRows 70 = .ok (.iload_n 2, 1) := by decide +kernel
theorem d_SR_numberRows_71 : decode b_SR_numberRows 71 = .ok (.iaload, 1) := by decide +kernel
theorem d_SR_numberRows_72 : decode b_SR_numberRows 72 = .ok (.dup2, 1) := by decide +kernel
theorem d_SR_numberRows_73 : decode b_SR_numberRows 73 = .ok (.iaload, 1) := by decide +kernel
theorem d_SR_numberRows_74 : decode b_SR_numberRows 74 = .ok (.dup_x2, 1) := by decide +kernel
theorem d_SR_numberRows_75 : decode b_SR_numberRows 75 = .ok (.iconst 1, 1) := by decide +kernel
theorem d_SR_numberRows_76 : decode b_SR_numberRows 76 = .ok (.iadd, 1) := by decide +kernel
theorem d_SR_numberRows_77 : decode b_SR_numberRows 77 = .ok (.iastore, 1) := by decide +kernel
theorem d_SR_numberRows_78 : decode b_SR_numberRows 78 = .ok (.iastore, 1) := by decide +kernel
theorem d_SR_numberRows_79 : decode b_SR_numberRows 79 = .ok (.iinc 1 1, 3) := by decide +kernel
theorem d_SR_numberRows_82 : decode b_SR_numberRows 82 = .ok (.goto (-80), 3) := by decide +kernel
theorem d_SR_numberRows_85 : decode b_SR_numberRows 85 = .ok (.return_, 1) := by decide +kernel
theorem d_SR_gatherCounted_0 : decode b_SR_gatherCounted 0 = .ok (.aload_n 0, 1) := by decide +kernel
theorem d_SR_gatherCounted_1 : decode b_SR_gatherCounted 1 = .ok (.getfield 47, 3) := by decide +kernel
theorem d_SR_gatherCounted_4 : decode b_SR_gatherCounted 4 = .ok (.invokevirtual 306, 3) := by decide +kernel
theorem d_SR_gatherCounted_7 : decode b_SR_gatherCounted 7 = .ok (.iconst 0, 1) := by decide +kernel
theorem d_SR_gatherCounted_8 : decode b_SR_gatherCounted 8 = .ok (.istore 4, 2) := by decide +kernel
theorem d_SR_gatherCounted_10 : decode b_SR_gatherCounted 10 = .ok (.iload 4, 2) := by decide +kernel
theorem d_SR_gatherCounted_12 : decode b_SR_gatherCounted 12 = .ok (.aload_n 0, 1) := by decide +kernel
theorem d_SR_gatherCounted_13 : decode b_SR_gatherCounted 13 = .ok (.getfield 19, 3) := by decide +kernel
theorem d_SR_gatherCounted_16 : decode b_SR_gatherCounted 16 = .ok (.getfield 154, 3) := by decide +kernel
theorem d_SR_gatherCounted_19 : decode b_SR_gatherCounted 19 = .ok (.if_icmp .ge 81, 3) := by decide +kernel
theorem d_SR_gatherCounted_22 : decode b_SR_gatherCounted 22 = .ok (.aload_n 0, 1) := by decide +kernel
theorem d_SR_gatherCounted_23 : decode b_SR_gatherCounted 23 = .ok (.getfield 19, 3) := by decide +kernel
theorem d_SR_gatherCounted_26 : decode b_SR_gatherCounted 26 = .ok (.getfield 309, 3) := by decide +kernel
theorem d_SR_gatherCounted_29 : decode b_SR_gatherCounted 29 = .ok (.iload 4, 2) := by decide +kernel
theorem d_SR_gatherCounted_31 : decode b_SR_gatherCounted 31 = .ok (.iaload, 1) := by decide +kernel
theorem d_SR_gatherCounted_32 : decode b_SR_gatherCounted 32 = .ok (.istore 5, 2) := by decide +kernel
theorem d_SR_gatherCounted_34 : decode b_SR_gatherCounted 34 = .ok (.aload_n 0, 1) := by decide +kernel
theorem d_SR_gatherCounted_35 : decode b_SR_gatherCounted 35 = .ok (.getfield 19, 3) := by decide +kernel
theorem d_SR_gatherCounted_38 : decode b_SR_gatherCounted 38 = .ok (.getfield 364, 3) := by decide +kernel
theorem d_SR_gatherCounted_41 : decode b_SR_gatherCounted 41 = .ok (.iload 5, 2) := by decide +kernel
theorem d_SR_gatherCounted_43 : decode b_SR_gatherCounted 43 = .ok (.iaload, 1) := by decide +kernel
theorem d_SR_gatherCounted_44 : decode b_SR_gatherCounted 44 = .ok (.iload_n 1, 1) := by decide +kernel
theorem d_SR_gatherCounted_45 : decode b_SR_gatherCounted 45 = .ok (.if_icmp .ne 49, 3) := by decide +kernel
theorem d_SR_gatherCounted_48 : decode b_SR_gatherCounted 48 = .ok (.aload_n 0, 1) := by decide +kernel
theorem d_SR_gatherCounted_49 : decode b_SR_gatherCounted 49 = .ok (.getfield 19, 3) := by decide +kernel
theorem d_SR_gatherCounted_52 : decode b_SR_gatherCounted 52 = .ok (.getfield 355, 3) := by decide +kernel
theorem d_SR_gatherCounted_55 : decode b_SR_gatherCounted 55 = .ok (.iload 5, 2) := by decide +kernel
theorem d_SR_gatherCounted_57 : decode b_SR_gatherCounted 57 = .ok (.iaload, 1) := by decide +kernel
theorem d_SR_gatherCounted_58 : decode b_SR_gatherCounted 58 = .ok (.i2l, 1) := by decide +kernel
theorem d_SR_gatherCounted_59 : decode b_SR_gatherCounted 59 = .ok (.lload_n 2, 1) := by decide +kernel
theorem d_SR_gatherCounted_60 : decode b_SR_gatherCounted 60 = .ok (.lload_n 2, 1) := by decide +kernel
theorem d_SR_gatherCounted_61 : decode b_SR_gatherCounted 61 = .ok (.aload_n 0, 1) := by decide +kernel
theorem d_SR_gatherCounted_62 : decode b_SR_gatherCounted 62 = .ok (.getfield 87, 3) := by decide +kernel
theorem d_SR_gatherCounted_65 : decode b_SR_gatherCounted 65 = .ok (.getfield 243, 3) := by decide +kernel
theorem d_SR_gatherCounted_68 : decode b_SR_gatherCounted 68 = .ok (.ladd, 1) := by decide +kernel
theorem d_SR_gatherCounted_69 : decode b_SR_gatherCounted 69 = .ok (.lconst 1, 1) := by decide +kernel
theorem d_SR_gatherCounted_70 : decode b_SR_gatherCounted 70 = .ok (.lsub, 1) := by decide +kernel
theorem d_SR_gatherCounted_71 : decode b_SR_gatherCounted 71 = .ok (.invokestatic 95, 3) := by decide +kernel
theorem d_SR_gatherCounted_74 : decode b_SR_gatherCounted 74 = .ok (.ifCond .eq 20, 3) := by decide +kernel
theorem d_SR_gatherCounted_77 : decode b_SR_gatherCounted 77 = .ok (.aload_n 0, 1) := by decide +kernel
theorem d_SR_gatherCounted_78 : decode b_SR_gatherCounted 78 = .ok (.getfield 47, 3) := by decide +kernel
theorem d_SR_gatherCounted_81 : decode b_SR_gatherCounted 81 = .ok (.aload_n 0, 1) := by decide +kernel
theorem d_SR_gatherCounted_82 : decode b_SR_gatherCounted 82 = .ok (.getfield 19, 3) := by decide +kernel
theorem d_SR_gatherCounted_85 : decode b_SR_gatherCounted 85 = .ok (.getfield 316, 3) := by decide +kernel
theorem d_SR_gatherCounted_88 : decode b_SR_gatherCounted 88 = .ok (.iload 5, 2) := by decide +kernel
theorem d_SR_gatherCounted_90 : decode b_SR_gatherCounted 90 = .ok (.laload, 1) := by decide +kernel
theorem d_SR_gatherCounted_91 : decode b_SR_gatherCounted 91 = .ok (.invokevirtual 319, 3) := by decide +kernel
theorem d_SR_gatherCounted_94 : decode b_SR_gatherCounted 94 = .ok (.iinc 4 1, 3) := by decide +kernel
theorem d_SR_gatherCounted_97 : decode b_SR_gatherCounted 97 = .ok (.goto (-87), 3) := by decide +kernel
theorem d_SR_gatherCounted_100 : decode b_SR_gatherCounted 100 = .ok (.return_, 1) := by decide +kernel
theorem d_SR_fireCounted_0 : decode b_SR_fireCounted 0 = .ok (.iconst 0, 1) := by decide +kernel
theorem d_SR_fireCounted_1 : decode b_SR_fireCounted 1 = .ok (.istore_n 2, 1) := by decide +kernel
theorem d_SR_fireCounted_2 : decode b_SR_fireCounted 2 = .ok (.aload_n 0, 1) := by decide +kernel
theorem d_SR_fireCounted_3 : decode b_SR_fireCounted 3 = .ok (.getfield 33, 3) := by decide +kernel
theorem d_SR_fireCounted_6 : decode b_SR_fireCounted 6 = .ok (.getfield 368, 3) := by decide +kernel
theorem d_SR_fireCounted_9 : decode b_SR_fireCounted 9 = .ok (.iload_n 1, 1) := by decide +kernel
theorem d_SR_fireCounted_10 : decode b_SR_fireCounted 10 = .ok (.laload, 1) := by decide +kernel
theorem d_SR_fireCounted_11 : decode b_SR_fireCounted 11 = .ok (.lstore_n 3, 1) := by decide +kernel
theorem d_SR_fireCounted_12 : decode b_SR_fireCounted 12 = .ok (.lload_n 3, 1) := by decide +kernel
theorem d_SR_fireCounted_13 : decode b_SR_fireCounted 13 = .ok (.aload_n 0, 1) := by decide +kernel
theorem d_SR_fireCounted_14 : decode b_SR_fireCounted 14 = .ok (.getfield 87, 3) := by decide +kernel
theorem d_SR_fireCounted_17 : decode b_SR_fireCounted 17 = .ok (.getfield 243, 3) := by decide +kernel
theorem d_SR_fireCounted_20 : decode b_SR_fireCounted 20 = .ok (.ladd, 1) := by decide +kernel
theorem d_SR_fireCounted_21 : decode b_SR_fireCounted 21 = .ok (.aload_n 0, 1) := by decide +kernel
theorem d_SR_fireCounted_22 : decode b_SR_fireCounted 22 = .ok (.getfield 33, 3) := by decide +kernel
theorem d_SR_fireCounted_25 : decode b_SR_fireCounted 25 = .ok (.getfield 179, 3) := by decide +kernel
theorem d_SR_fireCounted_28 : decode b_SR_fireCounted 28 = .ok (.iload_n 1, 1) := by decide +kernel
theorem d_SR_fireCounted_29 : decode b_SR_fireCounted 29 = .ok (.iaload, 1) := by decide +kernel
theorem d_SR_fireCounted_30 : decode b_SR_fireCounted 30 = .ok (.i2l, 1) := by decide +kernel
theorem d_SR_fireCounted_31 : decode b_SR_fireCounted 31 = .ok (.lcmp, 1) := by decide +kernel
theorem d_SR_fireCounted_32 : decode b_SR_fireCounted 32 = .ok (.ifCond .gt 49, 3) := by decide +kernel
theorem d_SR_fireCounted_35 : decode b_SR_fireCounted 35 = .ok (.aload_n 0, 1) := by decide +kernel
theorem d_SR_fireCounted_36 : decode b_SR_fireCounted 36 = .ok (.iload_n 1, 1) := by decide +kernel
theorem d_SR_fireCounted_37 : decode b_SR_fireCounted 37 = .ok (.lload_n 3, 1) := by decide +kernel
theorem d_SR_fireCounted_38 : decode b_SR_fireCounted 38 = .ok (.invokevirtual 369, 3) := by decide +kernel
theorem d_SR_fireCounted_41 : decode b_SR_fireCounted 41 = .ok (.aload_n 0, 1) := by decide +kernel
theorem d_SR_fireCounted_42 : decode b_SR_fireCounted 42 = .ok (.getfield 40, 3) := by decide +kernel
theorem d_SR_fireCounted_45 : decode b_SR_fireCounted 45 = .ok (.iload_n 1, 1) := by decide +kernel
theorem d_SR_fireCounted_46 : decode b_SR_fireCounted 46 = .ok (.lload_n 3, 1) := by decide +kernel
theorem d_SR_fireCounted_47 : decode b_SR_fireCounted 47 = .ok (.lload_n 3, 1) := by decide +kernel
theorem d_SR_fireCounted_48 : decode b_SR_fireCounted 48 = .ok (.aload_n 0, 1) := by decide +kernel
theorem d_SR_fireCounted_49 : decode b_SR_fireCounted 49 = .ok (.getfield 87, 3) := by decide +kernel
theorem d_SR_fireCounted_52 : decode b_SR_fireCounted 52 = .ok (.getfield 243, 3) := by decide +kernel
theorem d_SR_fireCounted_55 : decode b_SR_fireCounted 55 = .ok (.ladd, 1) := by decide +kernel
theorem d_SR_fireCounted_56 : decode b_SR_fireCounted 56 = .ok (.iconst 1, 1) := by decide +kernel
theorem d_SR_fireCounted_57 : decode b_SR_fireCounted 57 = .ok (.iconst 1, 1) := by decide +kernel
theorem d_SR_fireCounted_58 : decode b_SR_fireCounted 58 = .ok (.aload_n 0, 1) := by decide +kernel
theorem d_SR_fireCounted_59 : decode b_SR_fireCounted 59 = .ok (.getfield 47, 3) := by decide +kernel
theorem d_SR_fireCounted_62 : decode b_SR_fireCounted 62 = .ok (.invokevirtual 303, 3) := by decide +kernel
theorem d_SR_fireCounted_65 : decode b_SR_fireCounted 65 = .ok (.iinc 2 1, 3) := by decide +kernel
theorem d_SR_fireCounted_68 : decode b_SR_fireCounted 68 = .ok (.lload_n 3, 1) := by decide +kernel
theorem d_SR_fireCounted_69 : decode b_SR_fireCounted 69 = .ok (.aload_n 0, 1) := by decide +kernel
theorem d_SR_fireCounted_70 : decode b_SR_fireCounted 70 = .ok (.getfield 87, 3) := by decide +kernel
theorem d_SR_fireCounted_73 : decode b_SR_fireCounted 73 = .ok (.getfield 358, 3) := by decide +kernel
theorem d_SR_fireCounted_76 : decode b_SR_fireCounted 76 = .ok (.ladd, 1) := by decide +kernel
theorem d_SR_fireCounted_77 : decode b_SR_fireCounted 77 = .ok (.lstore_n 3, 1) := by decide +kernel
theorem d_SR_fireCounted_78 : decode b_SR_fireCounted 78 = .ok (.goto (-66), 3) := by decide +kernel
theorem d_SR_fireCounted_81 : decode b_SR_fireCounted 81 = .ok (.aload_n 0, 1) := by decide +kernel
theorem d_SR_fireCounted_82 : decode b_SR_fireCounted 82 = .ok (.getfield 33, 3) := by decide +kernel
theorem d_SR_fireCounted_85 : decode b_SR_fireCounted 85 = .ok (.getfield 368, 3) := by decide +kernel
theorem d_SR_fireCounted_88 : decode b_SR_fireCounted 88 = .ok (.iload_n 1, 1) := by decide +kernel
theorem d_SR_fireCounted_89 : decode b_SR_fireCounted 89 = .ok (.lload_n 3, 1) := by decide +kernel
theorem d_SR_fireCounted_90 : decode b_SR_fireCounted 90 = .ok (.lastore, 1) := by decide +kernel
theorem d_SR_fireCounted_91 : decode b_SR_fireCounted 91 = .ok (.iload_n 2, 1) := by decide +kernel
theorem d_SR_fireCounted_92 : decode b_SR_fireCounted 92 = .ok (.ireturn, 1) := by decide +kernel
theorem d_SR_isWaitedFor_0 : decode b_SR_isWaitedFor 0 = .ok (.aload_n 0, 1) := by decide +kernel
theorem d_SR_isWaitedFor_1 : decode b_SR_isWaitedFor 1 = .ok (.getfield 87, 3) := by decide +kernel
theorem d_SR_isWaitedFor_4 : decode b_SR_isWaitedFor 4 = .ok (.getfield 358, 3) := by decide +kernel
theorem d_SR_isWaitedFor_7 : decode b_SR_isWaitedFor 7 = .ok (.aload_n 0, 1) := by decide +kernel
theorem d_SR_isWaitedFor_8 : decode b_SR_isWaitedFor 8 = .ok (.getfield 19, 3) := by decide +kernel
theorem d_SR_isWaitedFor_11 : decode b_SR_isWaitedFor 11 = .ok (.getfield 355, 3) := by decide +kernel
theorem d_SR_isWaitedFor_14 : decode b_SR_isWaitedFor 14 = .ok (.iload_n 1, 1) := by decide +kernel
theorem d_SR_isWaitedFor_15 : decode b_SR_isWaitedFor 15 = .ok (.iaload, 1) := by decide +kernel
theorem d_SR_isWaitedFor_16 : decode b_SR_isWaitedFor 16 = .ok (.i2l, 1) := by decide +kernel
theorem d_SR_isWaitedFor_17 : decode b_SR_isWaitedFor 17 = .ok (.aload_n 0, 1) := by decide +kernel
theorem d_SR_isWaitedFor_18 : decode b_SR_isWaitedFor 18 = .ok (.getfield 87, 3) := by decide +kernel
theorem d_SR_isWaitedFor_21 : decode b_SR_isWaitedFor 21 = .ok (.getfield 358, 3) := by decide +kernel
theorem d_SR_isWaitedFor_24 : decode b_SR_isWaitedFor 24 = .ok (.invokestatic 361, 3) := by decide +kernel
theorem d_SR_isWaitedFor_27 : decode b_SR_isWaitedFor 27 = .ok (.lmul, 1) := by decide +kernel
theorem d_SR_isWaitedFor_28 : decode b_SR_isWaitedFor 28 = .ok (.lstore_n 2, 1) := by decide +kernel
theorem d_SR_isWaitedFor_29 : decode b_SR_isWaitedFor 29 = .ok (.lload_n 2, 1) := by decide +kernel
theorem d_SR_isWaitedFor_30 : decode b_SR_isWaitedFor 30 = .ok (.aload_n 0, 1) := by decide +kernel
theorem d_SR_isWaitedFor_31 : decode b_SR_isWaitedFor 31 = .ok (.getfield 87, 3) := by decide +kernel
theorem d_SR_isWaitedFor_34 : decode b_SR_isWaitedFor 34 = .ok (.getfield 243, 3) := by decide +kernel
theorem d_SR_isWaitedFor_37 : decode b_SR_isWaitedFor 37 = .ok (.ladd, 1) := by decide +kernel
theorem d_SR_isWaitedFor_38 : decode b_SR_isWaitedFor 38 = .ok (.aload_n 0, 1) := by decide +kernel
theorem d_SR_isWaitedFor_39 : decode b_SR_isWaitedFor 39 = .ok (.getfield 33, 3) := by decide +kernel
theorem d_SR_isWaitedFor_42 : decode b_SR_isWaitedFor 42 = .ok (.getfield 179, 3) := by decide +kernel
theorem d_SR_isWaitedFor_45 : decode b_SR_isWaitedFor 45 = .ok (.aload_n 0, 1) := by decide +kernel
theorem d_SR_isWaitedFor_46 : decode b_SR_isWaitedFor 46 = .ok (.getfield 19, 3) := by decide +kernel
theorem d_SR_isWaitedFor_49 : decode b_SR_isWaitedFor 49 = .ok (.getfield 364, 3) := by decide +kernel
theorem d_SR_isWaitedFor_52 : decode b_SR_isWaitedFor 52 = .ok (.iload_n 1, 1) := by decide +kernel
theorem d_SR_isWaitedFor_53 : decode b_SR_isWaitedFor 53 = .ok (.iaload, 1) := by decide +kernel
theorem d_SR_isWaitedFor_54 : decode b_SR_isWaitedFor 54 = .ok (.iaload, 1) := by decide +kernel
theorem d_SR_isWaitedFor_55 : decode b_SR_isWaitedFor 55 = .ok (.i2l, 1) := by decide +kernel
theorem d_SR_isWaitedFor_56 : decode b_SR_isWaitedFor 56 = .ok (.lcmp, 1) := by decide +kernel
theorem d_SR_isWaitedFor_57 : decode b_SR_isWaitedFor 57 = .ok (.ifCond .le 7, 3) := by decide +kernel
theorem d_SR_isWaitedFor_60 : decode b_SR_isWaitedFor 60 = .ok (.iconst 1, 1) := by decide +kernel
theorem d_SR_isWaitedFor_61 : decode b_SR_isWaitedFor 61 = .ok (.goto 4, 3) := by decide +kernel
theorem d_SR_isWaitedFor_64 : decode b_SR_isWaitedFor 64 = .ok (.iconst 0, 1) := by decide +kernel
theorem d_SR_isWaitedFor_65 : decode b_SR_isWaitedFor 65 = .ok (.ireturn, 1) := by decide +kernel
theorem d_RS_sweep_0 : decode b_RS_sweep 0 = .ok (.iconst 0, 1) := by decide +kernel
theorem d_RS_sweep_1 : decode b_RS_sweep 1 = .ok (.istore_n 1, 1) := by decide +kernel
theorem d_RS_sweep_2 : decode b_RS_sweep 2 = .ok (.iconst 0, 1) := by decide +kernel
theorem d_RS_sweep_3 : decode b_RS_sweep 3 = .ok (.istore_n 2, 1) := by decide +kernel
theorem d_RS_sweep_4 : decode b_RS_sweep 4 = .ok (.iload_n 2, 1) := by decide +kernel
theorem d_RS_sweep_5 : decode b_RS_sweep 5 = .ok (.aload_n 0, 1) := by decide +kernel
theorem d_RS_sweep_6 : decode b_RS_sweep 6 = .ok (.getfield 32, 3) := by decide +kernel
theorem d_RS_sweep_9 : decode b_RS_sweep 9 = .ok (.if_icmp .ge 47, 3) := by decide +kernel
theorem d_RS_sweep_12 : decode b_RS_sweep 12 = .ok (.aload_n 0, 1) := by decide +kernel
theorem d_RS_sweep_13 : decode b_RS_sweep 13 = .ok (.getfield 29, 3) := by decide +kernel
theorem d_RS_sweep_16 : decode b_RS_sweep 16 = .ok (.iload_n 2, 1) := by decide +kernel
theorem d_RS_sweep_17 : decode b_RS_sweep 17 = .ok (.iaload, 1) := by decide +kernel
theorem d_RS_sweep_18 : decode b_RS_sweep 18 = .ok (.istore_n 3, 1) := by decide +kernel
theorem d_RS_sweep_19 : decode b_RS_sweep 19 = .ok (.aload_n 0, 1) := by decide +kernel
theorem d_RS_sweep_20 : decode b_RS_sweep 20 = .ok (.getfield 25, 3) := by decide +kernel
theorem d_RS_sweep_23 : decode b_RS_sweep 23 = .ok (.iload_n 3, 1) := by decide +kernel
theorem d_RS_sweep_24 : decode b_RS_sweep 24 = .ok (.baload, 1) := by decide +kernel
theorem d_RS_sweep_25 : decode b_RS_sweep 25 = .ok (.ifCond .ne 25, 3) := by decide +kernel
theorem d_RS_sweep_28 : decode b_RS_sweep 28 = .ok (.aload_n 0, 1) := by decide +kernel
theorem d_RS_sweep_29 : decode b_RS_sweep 29 = .ok (.getfield 29, 3) := by decide +kernel
theorem d_RS_sweep_32 : decode b_RS_sweep 32 = .ok (.iload_n 2, 1) := by decide +kernel
theorem d_RS_sweep_33 : decode b_RS_sweep 33 = .ok (.aload_n 0, 1) := by decide +kernel
theorem d_RS_sweep_34 : decode b_RS_sweep 34 = .ok (.getfield 29, 3) := by decide +kernel
theorem d_RS_sweep_37 : decode b_RS_sweep 37 = .ok (.iload_n 1, 1) := by decide +kernel
theorem d_RS_sweep_38 : decode b_RS_sweep 38 = .ok (.iaload, 1) := by decide +kernel
theorem d_RS_sweep_39 : decode b_RS_sweep 39 = .ok (.iastore, 1) := by decide +kernel
theorem d_RS_sweep_40 : decode b_RS_sweep 40 = .ok (.aload_n 0, 1) := by decide +kernel
theorem d_RS_sweep_41 : decode b_RS_sweep 41 = .ok (.getfield 29, 3) := by decide +kernel
theorem d_RS_sweep_44 : decode b_RS_sweep 44 = .ok (.iload_n 1, 1) := by decide +kernel
theorem d_RS_sweep_45 : decode b_RS_sweep 45 = .ok (.iload_n 3, 1) := by decide +kernel
theorem d_RS_sweep_46 : decode b_RS_sweep 46 = .ok (.iastore, 1) := by decide +kernel
theorem d_RS_sweep_47 : decode b_RS_sweep 47 = .ok (.iinc 1 1, 3) := by decide +kernel
theorem d_RS_sweep_50 : decode b_RS_sweep 50 = .ok (.iinc 2 1, 3) := by decide +kernel
theorem d_RS_sweep_53 : decode b_RS_sweep 53 = .ok (.goto (-49), 3) := by decide +kernel
theorem d_RS_sweep_56 : decode b_RS_sweep 56 = .ok (.aload_n 0, 1) := by decide +kernel
theorem d_RS_sweep_57 : decode b_RS_sweep 57 = .ok (.iload_n 1, 1) := by decide +kernel
theorem d_RS_sweep_58 : decode b_RS_sweep 58 = .ok (.putfield 32, 3) := by decide +kernel
theorem d_RS_sweep_61 : decode b_RS_sweep 61 = .ok (.return_, 1) := by decide +kernel
theorem d_SR_endCounted_0 : decode b_SR_endCounted 0 = .ok (.aload_n 0, 1) := by decide +kernel
theorem d_SR_endCounted_1 : decode b_SR_endCounted 1 = .ok (.invokevirtual 343, 3) := by decide +kernel
theorem d_SR_endCounted_4 : decode b_SR_endCounted 4 = .ok (.iconst 0, 1) := by decide +kernel
theorem d_SR_endCounted_5 : decode b_SR_endCounted 5 = .ok (.istore_n 1, 1) := by decide +kernel
theorem d_SR_endCounted_6 : decode b_SR_endCounted 6 = .ok (.iconst 0, 1) := by decide +kernel
theorem d_SR_endCounted_7 : decode b_SR_endCounted 7 = .ok (.istore_n 2, 1) := by decide +kernel
theorem d_SR_endCounted_8 : decode b_SR_endCounted 8 = .ok (.iload_n 2, 1) := by decide +kernel
theorem d_SR_endCounted_9 : decode b_SR_endCounted 9 = .ok (.bipush 8, 2) := by decide +kernel
theorem d_SR_endCounted_11 : decode b_SR_endCounted 11 = .ok (.if_icmp .ge 17, 3) := by decide +kernel
theorem d_SR_endCounted_14 : decode b_SR_endCounted 14 = .ok (.iload_n 1, 1) := by decide +kernel
theorem d_SR_endCounted_15 : decode b_SR_endCounted 15 = .ok (.aload_n 0, 1) := by decide +kernel
theorem d_SR_endCounted_16 : decode b_SR_endCounted 16 = .ok (.iload_n 2, 1) := by decide +kernel
theorem d_SR_endCounted_17 : decode b_SR_endCounted 17 = .ok (.invokevirtual 346, 3) := by decide +kernel
theorem d_SR_endCounted_20 : decode b_SR_endCounted 20 = .ok (.iadd, 1) := by decide +kernel
theorem d_SR_endCounted_21 : decode b_SR_endCounted 21 = .ok (.istore_n 1, 1) := by decide +kernel
theorem d_SR_endCounted_22 : decode b_SR_endCounted 22 = .ok (.iinc 2 1, 3) := by decide +kernel
theorem d_SR_endCounted_25 : decode b_SR_endCounted 25 = .ok (.goto (-17), 3) := by decide +kernel
theorem d_SR_endCounted_28 : decode b_SR_endCounted 28 = .ok (.iconst 0, 1) := by decide +kernel
theorem d_SR_endCounted_29 : decode b_SR_endCounted 29 = .ok (.istore_n 2, 1) := by decide +kernel
theorem d_SR_endCounted_30 : decode b_SR_endCounted 30 = .ok (.iload_n 2, 1) := by decide +kernel
theorem d_SR_endCounted_31 : decode b_SR_endCounted 31 = .ok (.aload_n 0, 1) := by decide +kernel
theorem d_SR_endCounted_32 : decode b_SR_endCounted 32 = .ok (.getfield 19, 3) := by decide +kernel
theorem d_SR_endCounted_35 : decode b_SR_endCounted 35 = .ok (.getfield 154, 3) := by decide +kernel
theorem d_SR_endCounted_38 : decode b_SR_endCounted 38 = .ok (.if_icmp .ge 49, 3) := by decide +kernel
theorem d_SR_endCounted_41 : decode b_SR_endCounted 41 = .ok (.aload_n 0, 1) := by decide +kernel
theorem d_SR_endCounted_42 : decode b_SR_endCounted 42 = .ok (.getfield 19, 3) := by decide +kernel
theorem d_SR_endCounted_45 : decode b_SR_endCounted 45 = .ok (.getfield 309, 3) := by decide +kernel
theorem d_SR_endCounted_48 : decode b_SR_endCounted 48 = .ok (.iload_n 2, 1) := by decide +kernel
theorem d_SR_endCounted_49 : decode b_SR_endCounted 49 = .ok (.iaload, 1) := by decide +kernel
theorem d_SR_endCounted_50 : decode b_SR_endCounted 50 = .ok (.istore_n 3, 1) := by decide +kernel
theorem d_SR_endCounted_51 : decode b_SR_endCounted 51 = .ok (.aload_n 0, 1) := by decide +kernel
theorem d_SR_endCounted_52 : decode b_SR_endCounted 52 = .ok (.getfield 19, 3) := by decide +kernel
theorem d_SR_endCounted_55 : decode b_SR_endCounted 55 = .ok (.getfield 334, 3) := by decide +kernel
theorem d_SR_endCounted_58 : decode b_SR_endCounted 58 = .ok (.iload_n 3, 1) := by decide +kernel
theorem d_SR_endCounted_59 : decode b_SR_endCounted 59 = .ok (.aload_n 0, 1) := by decide +kernel
theorem d_SR_endCounted_60 : decode b_SR_endCounted 60 = .ok (.iload_n 3, 1) := by decide +kernel
theorem d_SR_endCounted_61 : decode b_SR_endCounted 61 = .ok (.invokevirtual 349, 3) := by decide +kernel
theorem d_SR_endCounted_64 : decode b_SR_endCounted 64 = .ok (.ifCond .eq 15, 3) := by decide +kernel
theorem d_SR_endCounted_67 : decode b_SR_endCounted 67 = .ok (.aload_n 0, 1) := by decide +kernel
theorem d_SR_endCounted_68 : decode b_SR_endCounted 68 = .ok (.iload_n 3, 1) := by decide +kernel
theorem d_SR_endCounted_69 : decode b_SR_endCounted 69 = .ok (.invokevirtual 352, 3) := by decide +kernel
theorem d_SR_endCounted_72 : decode b_SR_endCounted 72 = .ok (.ifCond .ne 7, 3) := by decide +kernel
theorem d_SR_endCounted_75 : decode b_SR_endCounted 75 = .ok (.iconst 1, 1) := by decide +kernel
theorem d_SR_endCounted_76 : decode b_SR_endCounted 76 = .ok (.goto 4, 3) := by decide +kernel
theorem d_SR_endCounted_79 : decode b_SR_endCounted 79 = .ok (.iconst 0, 1) := by decide +kernel
theorem d_SR_endCounted_80 : decode b_SR_endCounted 80 = .ok (.bastore, 1) := by decide +kernel
theorem d_SR_endCounted_81 : decode b_SR_endCounted 81 = .ok (.iinc 2 1, 3) := by decide +kernel
theorem d_SR_endCounted_84 : decode b_SR_endCounted 84 = .ok (.goto (-54), 3) := by decide +kernel
theorem d_SR_endCounted_87 : decode b_SR_endCounted 87 = .ok (.aload_n 0, 1) := by decide +kernel
theorem d_SR_endCounted_88 : decode b_SR_endCounted 88 = .ok (.getfield 19, 3) := by decide +kernel
theorem d_SR_endCounted_91 : decode b_SR_endCounted 91 = .ok (.invokevirtual 340, 3) := by decide +kernel
theorem d_SR_endCounted_94 : decode b_SR_endCounted 94 = .ok (.iload_n 1, 1) := by decide +kernel
theorem d_SR_endCounted_95 : decode b_SR_endCounted 95 = .ok (.ireturn, 1) := by decide +kernel
theorem d_SS_seekDue_0 : decode b_SS_seekDue 0 = .ok (.iconst 0, 1) := by decide +kernel
theorem d_SS_seekDue_1 : decode b_SS_seekDue 1 = .ok (.istore_n 3, 1) := by decide +kernel
theorem d_SS_seekDue_2 : decode b_SS_seekDue 2 = .ok (.iconst 0, 1) := by decide +kernel
theorem d_SS_seekDue_3 : decode b_SS_seekDue 3 = .ok (.istore 4, 2) := by decide +kernel
theorem d_SS_seekDue_5 : decode b_SS_seekDue 5 = .ok (.iload 4, 2) := by decide +kernel
theorem d_SS_seekDue_7 : decode b_SS_seekDue 7 = .ok (.aload_n 0, 1) := by decide +kernel
theorem d_SS_seekDue_8 : decode b_SS_seekDue 8 = .ok (.getfield 47, 3) := by decide +kernel
theorem d_SS_seekDue_11 : decode b_SS_seekDue 11 = .ok (.if_icmp .ge 107, 3) := by decide +kernel
theorem d_SS_seekDue_14 : decode b_SS_seekDue 14 = .ok (.aload_n 0, 1) := by decide +kernel
theorem d_SS_seekDue_15 : decode b_SS_seekDue 15 = .ok (.getfield 44, 3) := by decide +kernel
theorem d_SS_seekDue_18 : decode b_SS_seekDue 18 = .ok (.iload 4, 2) := by decide +kernel
theorem d_SS_seekDue_20 : decode b_SS_seekDue 20 = .ok (.iaload, 1) := by decide +kernel
theorem d_SS_seekDue_21 : decode b_SS_seekDue 21 = .ok (.istore 5, 2) := by decide +kernel
theorem d_SS_seekDue_23 : decode b_SS_seekDue 23 = .ok (.aload_n 0, 1) := by decide +kernel
theorem d_SS_seekDue_24 : decode b_SS_seekDue 24 = .ok (.getfield 28, 3) := by decide +kernel
theorem d_SS_seekDue_27 : decode b_SS_seekDue 27 = .ok (.iload 5, 2) := by decide +kernel
theorem d_SS_seekDue_29 : decode b_SS_seekDue 29 = .ok (.baload, 1) := by decide +kernel
theorem d_SS_seekDue_30 : decode b_SS_seekDue 30 = .ok (.ifCond .ne 82, 3) := by decide +kernel
theorem d_SS_seekDue_33 : decode b_SS_seekDue 33 = .ok (.aload_n 0, 1) := by decide +kernel
theorem d_SS_seekDue_34 : decode b_SS_seekDue 34 = .ok (.getfield 19, 3) := by decide +kernel
theorem d_SS_seekDue_37 : decode b_SS_seekDue 37 = .ok (.iload 5, 2) := by decide +kernel
theorem d_SS_seekDue_39 : decode b_SS_seekDue 39 = .ok (.laload, 1) := by decide +kernel
theorem d_SS_seekDue_40 : decode b_SS_seekDue 40 = .ok (.lload_n 1, 1) := by decide +kernel
theorem d_SS_seekDue_41 : decode b_SS_seekDue 41 = .ok (.lcmp, 1) := by decide +kernel
theorem d_SS_seekDue_42 : decode b_SS_seekDue 42 = .ok (.ifCond .gt 70, 3) := by decide +kernel
theorem d_SS_seekDue_45 : decode b_SS_seekDue 45 = .ok (.iload_n 3, 1) := by decide +kernel
theorem d_SS_seekDue_46 : decode b_SS_seekDue 46 = .ok (.istore 6, 2) := by decide +kernel
theorem d_SS_seekDue_48 : decode b_SS_seekDue 48 = .ok (.iload 6, 2) := by decide +kernel
theorem d_SS_seekDue_50 : decode b_SS_seekDue 50 = .ok (.ifCond .le 50, 3) := by decide +kernel
theorem d_SS_seekDue_53 : decode b_SS_seekDue 53 = .ok (.aload_n 0, 1) := by decide +kernel
theorem d_SS_seekDue_54 : decode b_SS_seekDue 54 = .ok (.getfield 19, 3) := by decide +kernel
theorem d_SS_seekDue_57 : decode b_SS_seekDue 57 = .ok (.aload_n 0, 1) := by decide +kernel
theorem d_SS_seekDue_58 : decode b_SS_seekDue 58 = .ok (.getfield 41, 3) := by decide +kernel
theorem d_SS_seekDue_61 : decode b_SS_seekDue 61 = .ok (.iload 6, 2) := by decide +kernel
theorem d_SS_seekDue_63 : decode b_SS_seekDue 63 = .ok (.iconst 1, 1) := by decide +kernel
theorem d_SS_seekDue_64 : decode b_SS_seekDue 64 = .ok (.isub, 1) := by decide +kernel
theorem d_SS_seekDue_65 : decode b_SS_seekDue 65 = .ok (.iaload, 1) := by decide +kernel
theorem d_SS_seekDue_66 : decode b_SS_seekDue 66 = .ok (.laload, 1) := by decide +kernel
theorem d_SS_seekDue_67 : decode b_SS_seekDue 67 = .ok (.aload_n 0, 1) := by decide +kernel
theorem d_SS_seekDue_68 : decode b_SS_seekDue 68 = .ok (.getfield 19, 3) := by decide +kernel
theorem d_SS_seekDue_71 : decode b_SS_seekDue 71 = .ok (.iload 5, 2) := by decide +kernel
theorem d_SS_seekDue_73 : decode b_SS_seekDue 73 = .ok (.laload, 1) := by decide +kernel
theorem d_SS_seekDue_74 : decode b_SS_seekDue 74 = .ok (.lcmp, 1) := by decide +kernel
theorem d_SS_seekDue_75 : decode b_SS_seekDue 75 = .ok (.ifCond .le 25, 3) := by decide +kernel
theorem d_SS_seekDue_78 : decode b_SS_seekDue 78 = .ok (.aload_n 0, 1) := by decide +kernel
theorem d_SS_seekDue_79 : decode b_SS_seekDue 79 = .ok (.getfield 41, 3) := by decide +kernel
theorem d_SS_seekDue_82 : decode b_SS_seekDue 82 = .ok (.iload 6, 2) := by decide +kernel
theorem d_SS_seekDue_84 : decode b_SS_seekDue 84 = .ok (.aload_n 0, 1) := by decide +kernel
theorem d_SS_seekDue_85 : decode b_SS_seekDue 85 = .ok (.getfield 41, 3) := by decide +kernel
theorem d_SS_seekDue_88 : decode b_SS_seekDue 88 = .ok (.iload 6, 2) := by decide +kernel
theorem d_SS_seekDue_90 : decode b_SS_seekDue 90 = .ok (.iconst 1, 1) := by decide +kernel
theorem d_SS_seekDue_91 : decode b_SS_seekDue 91 = .ok (.isub, 1) := by decide +kernel
theorem d_SS_seekDue_92 : decode b_SS_seekDue 92 = .ok (.iaload, 1) := by decide +kernel
theorem d_SS_seekDue_93 : decode b_SS_seekDue 93 = .ok (.iastore, 1) := by decide +kernel
theorem d_SS_seekDue_94 : decode b_SS_seekDue 94 = .ok (.iinc 6 (-1), 3) := by decide +kernel
theorem d_SS_seekDue_97 : decode b_SS_seekDue 97 = .ok (.goto (-49), 3) := by decide +kernel
theorem d_SS_seekDue_100 : decode b_SS_seekDue 100 = .ok (.aload_n 0, 1) := by decide +kernel
theorem d_SS_seekDue_101 : decode b_SS_seekDue 101 = .ok (.getfield 41, 3) := by decide +kernel
theorem d_SS_seekDue_104 : decode b_SS_seekDue 104 = .ok (.iload 6, 2) := by decide +kernel
theorem d_SS_seekDue_106 : decode b_SS_seekDue 106 = .ok (.iload 5, 2) := by decide +kernel
theorem d_SS_seekDue_108 : decode b_SS_seekDue 108 = .ok (.iastore, 1) := by decide +kernel
theorem d_SS_seekDue_109 : decode b_SS_seekDue 109 = .ok (.iinc 3 1, 3) := by decide +kernel
theorem d_SS_seekDue_112 : decode b_SS_seekDue 112 = .ok (.iinc 4 1, 3) := by decide +kernel
theorem d_SS_seekDue_115 : decode b_SS_seekDue 115 = .ok (.goto (-110), 3) := by decide +kernel
theorem d_SS_seekDue_118 : decode b_SS_seekDue 118 = .ok (.iload_n 3, 1) := by decide +kernel
theorem d_SS_seekDue_119 : decode b_SS_seekDue 119 = .ok (.ireturn, 1) := by decide +kernel
theorem d_SS_dropEndsUpTo_0 : decode b_SS_dropEndsUpTo 0 = .ok (.iconst 0, 1) := by decide +kernel
theorem d_SS_dropEndsUpTo_1 : decode b_SS_dropEndsUpTo 1 = .ok (.istore_n 3, 1) := by decide +kernel
theorem d_SS_dropEndsUpTo_2 : decode b_SS_dropEndsUpTo 2 = .ok (.iload_n 3, 1) := by decide +kernel
theorem d_SS_dropEndsUpTo_3 : decode b_SS_dropEndsUpTo 3 = .ok (.aload_n 0, 1) := by decide +kernel
theorem d_SS_dropEndsUpTo_4 : decode b_SS_dropEndsUpTo 4 = .ok (.getfield 47, 3) := by decide +kernel
theorem d_SS_dropEndsUpTo_7 : decode b_SS_dropEndsUpTo 7 = .ok (.if_icmp .ge 37, 3) := by decide +kernel
theorem d_SS_dropEndsUpTo_10 : decode b_SS_dropEndsUpTo 10 = .ok (.aload_n 0, 1) := by decide +kernel
theorem d_SS_dropEndsUpTo_11 : decode b_SS_dropEndsUpTo 11 = .ok (.getfield 44, 3) := by decide +kernel
theorem d_SS_dropEndsUpTo_14 : decode b_SS_dropEndsUpTo 14 = .ok (.iload_n 3, 1) := by decide +kernel
theorem d_SS_dropEndsUpTo_15 : decode b_SS_dropEndsUpTo 15 = .ok (.iaload, 1) := by decide +kernel
theorem d_SS_dropEndsUpTo_16 : decode b_SS_dropEndsUpTo 16 = .ok (.istore 4, 2) := by decide +kernel
theorem d_SS_dropEndsUpTo_18 : decode b_SS_dropEndsUpTo 18 = .ok (.aload_n 0, 1) := by decide +kernel
theorem d_SS_dropEndsUpTo_19 : decode b_SS_dropEndsUpTo 19 = .ok (.getfield 19, 3) := by decide +kernel
theorem d_SS_dropEndsUpTo_22 : decode b_SS_dropEndsUpTo 22 = .ok (.iload 4, 2) := by decide +kernel
theorem d_SS_dropEndsUpTo_24 : decode b_SS_dropEndsUpTo 24 = .ok (.laload, 1) := by decide +kernel
theorem d_SS_dropEndsUpTo_25 : decode b_SS_dropEndsUpTo 25 = .ok (.lload_n 1, 1) := by decide +kernel
theorem d_SS_dropEndsUpTo_26 : decode b_SS_dropEndsUpTo 26 = .ok (.lcmp, 1) := by decide +kernel
theorem d_SS_dropEndsUpTo_27 : decode b_SS_dropEndsUpTo 27 = .ok (.ifCond .gt 11, 3) := by decide +kernel
theorem d_SS_dropEndsUpTo_30 : decode b_SS_dropEndsUpTo 30 = .ok (.aload_n 0, 1) := by decide +kernel
theorem d_SS_dropEndsUpTo_31 : decode b_SS_dropEndsUpTo 31 = .ok (.getfield 9, 3) := by decide +kernel
theorem d_SS_dropEndsUpTo_34 : decode b_SS_dropEndsUpTo 34 = .ok (.iload 4, 2) := by decide +kernel
theorem d_SS_dropEndsUpTo_36 : decode b_SS_dropEndsUpTo 36 = .ok (.iconst (-1), 1) := by decide +kernel
theorem d_SS_dropEndsUpTo_37 : decode b_SS_dropEndsUpTo 37 = .ok (.iastore, 1) := by decide +kernel
theorem d_SS_dropEndsUpTo_38 : decode b_SS_dropEndsUpTo 38 = .ok (.iinc 3 1, 3) := by decide +kernel
theorem d_SS_dropEndsUpTo_41 : decode b_SS_dropEndsUpTo 41 = .ok (.goto (-39), 3) := by decide +kernel
theorem d_SS_dropEndsUpTo_44 : decode b_SS_dropEndsUpTo 44 = .ok (.aload_n 0, 1) := by decide +kernel
theorem d_SS_dropEndsUpTo_45 : decode b_SS_dropEndsUpTo 45 = .ok (.invokevirtual 76, 3) := by decide +kernel
theorem d_SS_dropEndsUpTo_48 : decode b_SS_dropEndsUpTo 48 = .ok (.return_, 1) := by decide +kernel
theorem d_SS_uniteRows_0 : decode b_SS_uniteRows 0 = .ok (.iconst 0, 1) := by decide +kernel
theorem d_SS_uniteRows_1 : decode b_SS_uniteRows 1 = .ok (.istore_n 1, 1) := by decide +kernel
theorem d_SS_uniteRows_2 : decode b_SS_uniteRows 2 = .ok (.iload_n 1, 1) := by decide +kernel
theorem d_SS_uniteRows_3 : decode b_SS_uniteRows 3 = .ok (.iconst 5, 1) := by decide +kernel
theorem d_SS_uniteRows_4 : decode b_SS_uniteRows 4 = .ok (.if_icmp .ge 56, 3) := by decide +kernel
theorem d_SS_uniteRows_7 : decode b_SS_uniteRows 7 = .ok (.aload_n 0, 1) := by decide +kernel
theorem d_SS_uniteRows_8 : decode b_SS_uniteRows 8 = .ok (.getfield 38, 3) := by decide +kernel
theorem d_SS_uniteRows_11 : decode b_SS_uniteRows 11 = .ok (.iload_n 1, 1) := by decide +kernel
theorem d_SS_uniteRows_12 : decode b_SS_uniteRows 12 = .ok (.lconst 0, 1) := by decide +kernel
theorem d_SS_uniteRows_13 : decode b_SS_uniteRows 13 = .ok (.lastore, 1) := by decide +kernel
theorem d_SS_uniteRows_14 : decode b_SS_uniteRows 14 = .ok (.iconst 0, 1) := by decide +kernel
theorem d_SS_uniteRows_15 : decode b_SS_uniteRows 15 = .ok (.istore_n 2, 1) := by decide +kernel
theorem d_SS_uniteRows_16 : decode b_SS_uniteRows 16 = .ok (.iload_n 2, 1) := by decide +kernel
theorem d_SS_uniteRows_17 : decode b_SS_uniteRows 17 = .ok (.aload_n 0, 1) := by decide +kernel
theorem d_SS_uniteRows_18 : decode b_SS_uniteRows 18 = .ok (.getfield 47, 3) := by decide +kernel
theorem d_SS_uniteRows_21 : decode b_SS_uniteRows 21 = .ok (.if_icmp .ge 33, 3) := by decide +kernel
theorem d_SS_uniteRows_24 : decode b_SS_uniteRows 24 = .ok (.aload_n 0, 1) := by decide +kernel
theorem d_SS_uniteRows_25 : decode b_SS_uniteRows 25 = .ok (.getfield 38, 3) := by decide +kernel
theorem d_SS_uniteRows_28 : decode b_SS_uniteRows 28 = .ok (.iload_n 1, 1) := by decide +kernel
theorem d_SS_uniteRows_29 : decode b_SS_uniteRows 29 = .ok (.dup2, 1) := by decide +kernel
theorem d_SS_uniteRows_30 : decode b_SS_uniteRows 30 = .ok (.laload, 1) := by decide +kernel
theorem d_SS_uniteRows_31 : decode b_SS_uniteRows 31 = .ok (.aload_n 0, 1) := by decide +kernel
theorem d_SS_uniteRows_32 : decode b_SS_uniteRows 32 = .ok (.getfield 32, 3) := by decide +kernel
theorem d_SS_uniteRows_35 : decode b_SS_uniteRows 35 = .ok (.aload_n 0, 1) := by decide +kernel
theorem d_SS_uniteRows_36 : decode b_SS_uniteRows 36 = .ok (.getfield 44, 3) := by decide +kernel
theorem d_SS_uniteRows_39 : decode b_SS_uniteRows 39 = .ok (.iload_n 2, 1) := by decide +kernel
theorem d_SS_uniteRows_40 : decode b_SS_uniteRows 40 = .ok (.iaload, 1) := by decide +kernel
theorem d_SS_uniteRows_41 : decode b_SS_uniteRows 41 = .ok (.iconst 5, 1) := by decide +kernel
theorem d_SS_uniteRows_42 : decode b_SS_uniteRows 42 = .ok (.imul, 1) := by decide +kernel
theorem d_SS_uniteRows_43 : decode b_SS_uniteRows 43 = .ok (.iload_n 1, 1) := by decide +kernel
theorem d_SS_uniteRows_44 : decode b_SS_uniteRows 44 = .ok (.iadd, 1) := by decide +kernel
theorem d_SS_uniteRows_45 : decode b_SS_uniteRows 45 = .ok (.laload, 1) := by decide +kernel
theorem d_SS_uniteRows_46 : decode b_SS_uniteRows 46 = .ok (.lor, 1) := by decide +kernel
theorem d_SS_uniteRows_47 : decode b_SS_uniteRows 47 = .ok (.lastore, 1) := by decide +kernel
theorem d_SS_uniteRows_48 : decode b_SS_uniteRows 48 = .ok (.iinc 2 1, 3) := by decide +kernel
theorem d_SS_uniteRows_51 : decode b_SS_uniteRows 51 = .ok (.goto (-35), 3) := by decide +kernel
theorem d_SS_uniteRows_54 : decode b_SS_uniteRows 54 = .ok (.iinc 1 1, 3) := by decide +kernel
theorem d_SS_uniteRows_57 : decode b_SS_uniteRows 57 = .ok (.goto (-55), 3) := by decide +kernel
theorem d_SS_uniteRows_60 : decode b_SS_uniteRows 60 = .ok (.return_, 1) := by decide +kernel
theorem d_SR_endSpans_0 : decode b_SR_endSpans 0 = .ok (.aload_n 0, 1) := by decide +kernel
theorem d_SR_endSpans_1 : decode b_SR_endSpans 1 = .ok (.getfield 26, 3) := by decide +kernel
theorem d_SR_endSpans_4 : decode b_SR_endSpans 4 = .ok (.aload_n 0, 1) := by decide +kernel
theorem d_SR_endSpans_5 : decode b_SR_endSpans 5 = .ok (.getfield 57, 3) := by decide +kernel
theorem d_SR_endSpans_8 : decode b_SR_endSpans 8 = .ok (.invokevirtual 321, 3) := by decide +kernel
theorem d_SR_endSpans_11 : decode b_SR_endSpans 11 = .ok (.istore_n 1, 1) := by decide +kernel
theorem d_SR_endSpans_12 : decode b_SR_endSpans 12 = .ok (.iconst 0, 1) := by decide +kernel
theorem d_SR_endSpans_13 : decode b_SR_endSpans 13 = .ok (.istore_n 2, 1) := by decide +kernel
theorem d_SR_endSpans_14 : decode b_SR_endSpans 14 = .ok (.iload_n 2, 1) := by decide +kernel
theorem d_SR_endSpans_15 : decode b_SR_endSpans 15 = .ok (.iload_n 1, 1) := by decide +kernel
theorem d_SR_endSpans_16 : decode b_SR_endSpans 16 = .ok (.if_icmp .ge 23, 3) := by decide +kernel
theorem d_SR_endSpans_19 : decode b_SR_endSpans 19 = .ok (.aload_n 0, 1) := by decide +kernel
theorem d_SR_endSpans_20 : decode b_SR_endSpans 20 = .ok (.aload_n 0, 1) := by decide +kernel
theorem d_SR_endSpans_21 : decode b_SR_endSpans 21 = .ok (.getfield 26, 3) := by decide +kernel
theorem d_SR_endSpans_24 : decode b_SR_endSpans 24 = .ok (.getfield 325, 3) := by decide +kernel
theorem d_SR_endSpans_27 : decode b_SR_endSpans 27 = .ok (.iload_n 2, 1) := by decide +kernel
theorem d_SR_endSpans_28 : decode b_SR_endSpans 28 = .ok (.iaload, 1) := by decide +kernel
theorem d_SR_endSpans_29 : decode b_SR_endSpans 29 = .ok (.iconst 1, 1) := by decide +kernel
theorem d_SR_endSpans_30 : decode b_SR_endSpans 30 = .ok (.invokevirtual 291, 3) := by decide +kernel
theorem d_SR_endSpans_33 : decode b_SR_endSpans 33 = .ok (.iinc 2 1, 3) := by decide +kernel
theorem d_SR_endSpans_36 : decode b_SR_endSpans 36 = .ok (.goto (-22), 3) := by decide +kernel
theorem d_SR_endSpans_39 : decode b_SR_endSpans 39 = .ok (.aload_n 0, 1) := by decide +kernel
theorem d_SR_endSpans_40 : decode b_SR_endSpans 40 = .ok (.getfield 26, 3) := by decide +kernel
theorem d_SR_endSpans_43 : decode b_SR_endSpans 43 = .ok (.aload_n 0, 1) := by decide +kernel
theorem d_SR_endSpans_44 : decode b_SR_endSpans 44 = .ok (.getfield 57, 3) := by decide +kernel
theorem d_SR_endSpans_47 : decode b_SR_endSpans 47 = .ok (.aload_n 0, 1) := by decide +kernel
theorem d_SR_endSpans_48 : decode b_SR_endSpans 48 = .ok (.getfield 51, 3) := by decide +kernel
theorem d_SR_endSpans_51 : decode b_SR_endSpans 51 = .ok (.lsub, 1) := by decide +kernel
theorem d_SR_endSpans_52 : decode b_SR_endSpans 52 = .ok (.invokevirtual 328, 3) := by decide +kernel
theorem d_SR_endSpans_55 : decode b_SR_endSpans 55 = .ok (.aload_n 0, 1) := by decide +kernel
theorem d_SR_endSpans_56 : decode b_SR_endSpans 56 = .ok (.getfield 26, 3) := by decide +kernel
theorem d_SR_endSpans_59 : decode b_SR_endSpans 59 = .ok (.invokevirtual 331, 3) := by decide +kernel
theorem d_SR_endSpans_62 : decode b_SR_endSpans 62 = .ok (.iconst 0, 1) := by decide +kernel
theorem d_SR_endSpans_63 : decode b_SR_endSpans 63 = .ok (.istore_n 2, 1) := by decide +kernel
theorem d_SR_endSpans_64 : decode b_SR_endSpans 64 = .ok (.iload_n 2, 1) := by decide +kernel
theorem d_SR_endSpans_65 : decode b_SR_endSpans 65 = .ok (.aload_n 0, 1) := by decide +kernel
theorem d_SR_endSpans_66 : decode b_SR_endSpans 66 = .ok (.getfield 19, 3) := by decide +kernel
theorem d_SR_endSpans_69 : decode b_SR_endSpans 69 = .ok (.getfield 154, 3) := by decide +kernel
theorem d_SR_endSpans_72 : decode b_SR_endSpans 72 = .ok (.if_icmp .ge 48, 3) := by decide +kernel
theorem d_SR_endSpans_75 : decode b_SR_endSpans 75 = .ok (.aload_n 0, 1) := by decide +kernel
theorem d_SR_endSpans_76 : decode b_SR_endSpans 76 = .ok (.getfield 19, 3) := by decide +kernel
theorem d_SR_endSpans_79 : decode b_SR_endSpans 79 = .ok (.getfield 309, 3) := by decide +kernel
theorem d_SR_endSpans_82 : decode b_SR_endSpans 82 = .ok (.iload_n 2, 1) := by decide +kernel
theorem d_SR_endSpans_83 : decode b_SR_endSpans 83 = .ok (.iaload, 1) := by decide +kernel
theorem d_SR_endSpans_84 : decode b_SR_endSpans 84 = .ok (.istore_n 3, 1) := by decide +kernel
theorem d_SR_endSpans_85 : decode b_SR_endSpans 85 = .ok (.aload_n 0, 1) := by decide +kernel
theorem d_SR_endSpans_86 : decode b_SR_endSpans 86 = .ok (.getfield 19, 3) := by decide +kernel
theorem d_SR_endSpans_89 : decode b_SR_endSpans 89 = .ok (.getfield 334, 3) := by decide +kernel
theorem d_SR_endSpans_92 : decode b_SR_endSpans 92 = .ok (.iload_n 3, 1) := by decide +kernel
theorem d_SR_endSpans_93 : decode b_SR_endSpans 93 = .ok (.aload_n 0, 1) := by decide +kernel
theorem d_SR_endSpans_94 : decode b_SR_endSpans 94 = .ok (.getfield 26, 3) := by decide +kernel
theorem d_SR_endSpans_97 : decode b_SR_endSpans 97 = .ok (.getfield 337, 3) := by decide +kernel
theorem d_SR_endSpans_100 : decode b_SR_endSpans 100 = .ok (.iconst 0, 1) := by decide +kernel
theorem d_SR_endSpans_101 : decode b_SR_endSpans 101 = .ok (.iload_n 3, 1) := by decide +kernel
theorem d_SR_endSpans_102 : decode b_SR_endSpans 102 = .ok (.invokestatic 312, 3) := by decide +kernel
theorem d_SR_endSpans_105 : decode b_SR_endSpans 105 = .ok (.ifCond .ne 7, 3) := by decide +kernel
theorem d_SR_endSpans_108 : decode b_SR_endSpans 108 = .ok (.iconst 1, 1) := by decide +kernel
theorem d_SR_endSpans_109 : decode b_SR_endSpans 109 = .ok (.goto 4, 3) := by decide +kernel
theorem d_SR_endSpans_112 : decode b_SR_endSpans 112 = .ok (.iconst 0, 1) := by decide +kernel
theorem d_SR_endSpans_113 : decode b_SR_endSpans 113 = .ok (.bastore, 1) := by decide +kernel
theorem d_SR_endSpans_114 : decode b_SR_endSpans 114 = .ok (.iinc 2 1, 3) := by decide +kernel
theorem d_SR_endSpans_117 : decode b_SR_endSpans 117 = .ok (.goto (-53), 3) := by decide +kernel
theorem d_SR_endSpans_120 : decode b_SR_endSpans 120 = .ok (.aload_n 0, 1) := by decide +kernel
theorem d_SR_endSpans_121 : decode b_SR_endSpans 121 = .ok (.getfield 19, 3) := by decide +kernel
theorem d_SR_endSpans_124 : decode b_SR_endSpans 124 = .ok (.invokevirtual 340, 3) := by decide +kernel
theorem d_SR_endSpans_127 : decode b_SR_endSpans 127 = .ok (.iload_n 1, 1) := by decide +kernel
theorem d_SR_endSpans_128 : decode b_SR_endSpans 128 = .ok (.ireturn, 1) := by decide +kernel
theorem d_SR_mark_0 : decode b_SR_mark 0 = .ok (.lload_n 1, 1) := by decide +kernel
theorem d_SR_mark_1 : decode b_SR_mark 1 = .ok (.ldc2_w 55, 3) := by decide +kernel
theorem d_SR_mark_4 : decode b_SR_mark 4 = .ok (.ldc2_w 145, 3) := by decide +kernel
theorem d_SR_mark_7 : decode b_SR_mark 7 = .ok (.invokestatic 95, 3) := by decide +kernel
theorem d_SR_mark_10 : decode b_SR_mark 10 = .ok (.ifCond .ne 6, 3) := by decide +kernel
theorem d_SR_mark_13 : decode b_SR_mark 13 = .ok (.bipush (-2), 2) := by decide +kernel
theorem d_SR_mark_15 : decode b_SR_mark 15 = .ok (.ireturn, 1) := by decide +kernel
theorem d_SR_mark_16 : decode b_SR_mark 16 = .ok (.lload_n 1, 1) := by decide +kernel
theorem d_SR_mark_17 : decode b_SR_mark 17 = .ok (.aload_n 0, 1) := by decide +kernel
theorem d_SR_mark_18 : decode b_SR_mark 18 = .ok (.getfield 57, 3) := by decide +kernel
theorem d_SR_mark_21 : decode b_SR_mark 21 = .ok (.lcmp, 1) := by decide +kernel
theorem d_SR_mark_22 : decode b_SR_mark 22 = .ok (.ifCond .ge 6, 3) := by decide +kernel
theorem d_SR_mark_25 : decode b_SR_mark 25 = .ok (.bipush (-3), 2) := by decide +kernel
theorem d_SR_mark_27 : decode b_SR_mark 27 = .ok (.ireturn, 1) := by decide +kernel
theorem d_SR_mark_28 : decode b_SR_mark 28 = .ok (.aload_n 0, 1) := by decide +kernel
theorem d_SR_mark_29 : decode b_SR_mark 29 = .ok (.lload_n 1, 1) := by decide +kernel
theorem d_SR_mark_30 : decode b_SR_mark 30 = .ok (.putfield 57, 3) := by decide +kernel
theorem d_SR_mark_33 : decode b_SR_mark 33 = .ok (.aload_n 0, 1) := by decide +kernel
theorem d_SR_mark_34 : decode b_SR_mark 34 = .ok (.getfield 87, 3) := by decide +kernel
theorem d_SR_mark_37 : decode b_SR_mark 37 = .ok (.getfield 102, 3) := by decide +kernel
theorem d_SR_mark_40 : decode b_SR_mark 40 = .ok (.iconst 3, 1) := by decide +kernel
theorem d_SR_mark_41 : decode b_SR_mark 41 = .ok (.if_icmp .ne 10, 3) := by decide +kernel
theorem d_SR_mark_44 : decode b_SR_mark 44 = .ok (.aload_n 0, 1) := by decide +kernel
theorem d_SR_mark_45 : decode b_SR_mark 45 = .ok (.invokevirtual 147, 3) := by decide +kernel
theorem d_SR_mark_48 : decode b_SR_mark 48 = .ok (.goto 7, 3) := by decide +kernel
theorem d_SR_mark_51 : decode b_SR_mark 51 = .ok (.aload_n 0, 1) := by decide +kernel
theorem d_SR_mark_52 : decode b_SR_mark 52 = .ok (.invokevirtual 151, 3) := by decide +kernel
theorem d_SR_mark_55 : decode b_SR_mark 55 = .ok (.ireturn, 1) := by decide +kernel
theorem d_SR_count_0 : decode b_SR_count 0 = .ok (.iload_n 1, 1) := by decide +kernel
theorem d_SR_count_1 : decode b_SR_count 1 = .ok (.tableswitch 105 0 7 #[47, 55, 63, 71, 76, 81, 89, 97], 47) := by decide +kernel
theorem d_SR_count_48 : decode b_SR_count 48 = .ok (.aload_n 0, 1) := by decide +kernel
theorem d_SR_count_49 : decode b_SR_count 49 = .ok (.getfield 19, 3) := by decide +kernel
theorem d_SR_count_52 : decode b_SR_count 52 = .ok (.getfield 154, 3) := by decide +kernel
theorem d_SR_count_55 : decode b_SR_count 55 = .ok (.ireturn, 1) := by decide +kernel
theorem d_SR_count_56 : decode b_SR_count 56 = .ok (.aload_n 0, 1) := by decide +kernel
theorem d_SR_count_57 : decode b_SR_count 57 = .ok (.getfield 26, 3) := by decide +kernel
theorem d_SR_count_60 : decode b_SR_count 60 = .ok (.getfield 157, 3) := by decide +kernel
theorem d_SR_count_63 : decode b_SR_count 63 = .ok (.ireturn, 1) := by decide +kernel
theorem d_SR_count_64 : decode b_SR_count 64 = .ok (.aload_n 0, 1) := by decide +kernel
theorem d_SR_count_65 : decode b_SR_count 65 = .ok (.getfield 40, 3) := by decide +kernel
theorem d_SR_count_68 : decode b_SR_count 68 = .ok (.getfield 158, 3) := by decide +kernel
theorem d_SR_count_71 : decode b_SR_count 71 = .ok (.ireturn, 1) := by decide +kernel
theorem d_SR_count_72 : decode b_SR_count 72 = .ok (.aload_n 0, 1) := by decide +kernel
theorem d_SR_count_73 : decode b_SR_count 73 = .ok (.getfield 74, 3) := by decide +kernel
theorem d_SR_count_76 : decode b_SR_count 76 = .ok (.ireturn, 1) := by decide +kernel
theorem d_SR_count_77 : decode b_SR_count 77 = .ok (.aload_n 0, 1) := by decide +kernel
theorem d_SR_count_78 : decode b_SR_count 78 = .ok (.getfield 71, 3) := by decide +kernel
theorem d_SR_count_81 : decode b_SR_count 81 = .ok (.ireturn, 1) := by decide +kernel
theorem d_SR_count_82 : decode b_SR_count 82 = .ok (.aload_n 0, 1) := by decide +kernel
theorem d_SR_count_83 : decode b_SR_count 83 = .ok (.getfield 40, 3) := by decide +kernel
theorem d_SR_count_86 : decode b_SR_count 86 = .ok (.invokevirtual 161, 3) := by decide +kernel
theorem d_SR_count_89 : decode b_SR_count 89 = .ok (.ireturn, 1) := by decide +kernel
theorem d_SR_count_90 : decode b_SR_count 90 = .ok (.aload_n 0, 1) := by decide +kernel
theorem d_SR_count_91 : decode b_SR_count 91 = .ok (.getfield 40, 3) := by decide +kernel
theorem d_SR_count_94 : decode b_SR_count 94 = .ok (.getfield 163, 3) := by decide +kernel
theorem d_SR_count_97 : decode b_SR_count 97 = .ok (.ireturn, 1) := by decide +kernel
theorem d_SR_count_98 : decode b_SR_count 98 = .ok (.aload_n 0, 1) := by decide +kernel
theorem d_SR_count_99 : decode b_SR_count 99 = .ok (.getfield 40, 3) := by decide +kernel
theorem d_SR_count_102 : decode b_SR_count 102 = .ok (.getfield 166, 3) := by decide +kernel
theorem d_SR_count_105 : decode b_SR_count 105 = .ok (.ireturn, 1) := by decide +kernel
theorem d_SR_count_106 : decode b_SR_count 106 = .ok (.bipush (-2), 2) := by decide +kernel
theorem d_SR_count_108 : decode b_SR_count 108 = .ok (.ireturn, 1) := by decide +kernel
theorem d_SR_fired_0 : decode b_SR_fired 0 = .ok (.iload_n 1, 1) := by decide +kernel
theorem d_SR_fired_1 : decode b_SR_fired 1 = .ok (.i2l, 1) := by decide +kernel
theorem d_SR_fired_2 : decode b_SR_fired 2 = .ok (.lconst 0, 1) := by decide +kernel
theorem d_SR_fired_3 : decode b_SR_fired 3 = .ok (.aload_n 0, 1) := by decide +kernel
theorem d_SR_fired_4 : decode b_SR_fired 4 = .ok (.getfield 40, 3) := by decide +kernel
theorem d_SR_fired_7 : decode b_SR_fired 7 = .ok (.invokevirtual 161, 3) := by decide +kernel
theorem d_SR_fired_10 : decode b_SR_fired 10 = .ok (.iconst 1, 1) := by decide +kernel
theorem d_SR_fired_11 : decode b_SR_fired 11 = .ok (.isub, 1) := by decide +kernel
theorem d_SR_fired_12 : decode b_SR_fired 12 = .ok (.i2l, 1) := by decide +kernel
theorem d_SR_fired_13 : decode b_SR_fired 13 = .ok (.invokestatic 95, 3) := by decide +kernel
theorem d_SR_fired_16 : decode b_SR_fired 16 = .ok (.ifCond .ne 7, 3) := by decide +kernel
theorem d_SR_fired_19 : decode b_SR_fired 19 = .ok (.ldc2_w 169, 3) := by decide +kernel
theorem d_SR_fired_22 : decode b_SR_fired 22 = .ok (.lreturn, 1) := by decide +kernel
theorem d_SR_fired_23 : decode b_SR_fired 23 = .ok (.iload_n 2, 1) := by decide +kernel
theorem d_SR_fired_24 : decode b_SR_fired 24 = .ok (.i2l, 1) := by decide +kernel
theorem d_SR_fired_25 : decode b_SR_fired 25 = .ok (.lconst 0, 1) := by decide +kernel
theorem d_SR_fired_26 : decode b_SR_fired 26 = .ok (.ldc2_w 171, 3) := by decide +kernel
theorem d_SR_fired_29 : decode b_SR_fired 29 = .ok (.invokestatic 95, 3) := by decide +kernel
theorem d_SR_fired_32 : decode b_SR_fired 32 = .ok (.ifCond .ne 7, 3) := by decide +kernel
theorem d_SR_fired_35 : decode b_SR_fired 35 = .ok (.ldc2_w 173, 3) := by decide +kernel
theorem d_SR_fired_38 : decode b_SR_fired 38 = .ok (.lreturn, 1) := by decide +kernel
theorem d_SR_fired_39 : decode b_SR_fired 39 = .ok (.aload_n 0, 1) := by decide +kernel
theorem d_SR_fired_40 : decode b_SR_fired 40 = .ok (.getfield 40, 3) := by decide +kernel
theorem d_SR_fired_43 : decode b_SR_fired 43 = .ok (.iload_n 1, 1) := by decide +kernel
theorem d_SR_fired_44 : decode b_SR_fired 44 = .ok (.iload_n 2, 1) := by decide +kernel
theorem d_SR_fired_45 : decode b_SR_fired 45 = .ok (.invokevirtual 175, 3) := by decide +kernel
theorem d_SR_fired_48 : decode b_SR_fired 48 = .ok (.lreturn, 1) := by decide +kernel
theorem d_SS_ofKey_0 : decode b_SS_ofKey 0 = .ok (.iconst 0, 1) := by decide +kernel
theorem d_SS_ofKey_1 : decode b_SS_ofKey 1 = .ok (.istore_n 2, 1) := by decide +kernel
theorem d_SS_ofKey_2 : decode b_SS_ofKey 2 = .ok (.iconst 0, 1) := by decide +kernel
theorem d_SS_ofKey_3 : decode b_SS_ofKey 3 = .ok (.istore_n 3, 1) := by decide +kernel
theorem d_SS_ofKey_4 : decode b_SS_ofKey 4 = .ok (.iload_n 3, 1) := by decide +kernel
theorem d_SS_ofKey_5 : decode b_SS_ofKey 5 = .ok (.aload_n 0, 1) := by decide +kernel
theorem d_SS_ofKey_6 : decode b_SS_ofKey 6 = .ok (.getfield 47, 3) := by decide +kernel
theorem d_SS_ofKey_9 : decode b_SS_ofKey 9 = .ok (.if_icmp .ge 27, 3) := by decide +kernel
theorem d_SS_ofKey_12 : decode b_SS_ofKey 12 = .ok (.aload_n 0, 1) := by decide +kernel
theorem d_SS_ofKey_13 : decode b_SS_ofKey 13 = .ok (.getfield 9, 3) := by decide +kernel
theorem d_SS_ofKey_16 : decode b_SS_ofKey 16 = .ok (.aload_n 0, 1) := by decide +kernel
theorem d_SS_ofKey_17 : decode b_SS_ofKey 17 = .ok (.getfield 44, 3) := by decide +kernel
theorem d_SS_ofKey_20 : decode b_SS_ofKey 20 = .ok (.iload_n 3, 1) := by decide +kernel
theorem d_SS_ofKey_21 : decode b_SS_ofKey 21 = .ok (.iaload, 1) := by decide +kernel
theorem d_SS_ofKey_22 : decode b_SS_ofKey 22 = .ok (.iaload, 1) := by decide +kernel
theorem d_SS_ofKey_23 : decode b_SS_ofKey 23 = .ok (.iload_n 1, 1) := by decide +kernel
theorem d_SS_ofKey_24 : decode b_SS_ofKey 24 = .ok (.if_icmp .ne 6, 3) := by decide +kernel
theorem d_SS_ofKey_27 : decode b_SS_ofKey 27 = .ok (.iinc 2 1, 3) := by decide +kernel
theorem d_SS_ofKey_30 : decode b_SS_ofKey 30 = .ok (.iinc 3 1, 3) := by decide +kernel
theorem d_SS_ofKey_33 : decode b_SS_ofKey 33 = .ok (.goto (-29), 3) := by decide +kernel
theorem d_SS_ofKey_36 : decode b_SS_ofKey 36 = .ok (.iload_n 2, 1) := by decide +kernel
theorem d_SS_ofKey_37 : decode b_SS_ofKey 37 = .ok (.ireturn, 1) := by decide +kernel
theorem d_SR_spans_0 : decode b_SR_spans 0 = .ok (.iload_n 1, 1) := by decide +kernel
theorem d_SR_spans_1 : decode b_SR_spans 1 = .ok (.invokestatic 116, 3) := by decide +kernel
theorem d_SR_spans_4 : decode b_SR_spans 4 = .ok (.ifCond .ne 5, 3) := by decide +kernel
theorem d_SR_spans_7 : decode b_SR_spans 7 = .ok (.iconst (-1), 1) := by decide +kernel
theorem d_SR_spans_8 : decode b_SR_spans 8 = .ok (.ireturn, 1) := by decide +kernel
theorem d_SR_spans_9 : decode b_SR_spans 9 = .ok (.aload_n 0, 1) := by decide +kernel
theorem d_SR_spans_10 : decode b_SR_spans 10 = .ok (.getfield 87, 3) := by decide +kernel
theorem d_SR_spans_13 : decode b_SR_spans 13 = .ok (.getfield 102, 3) := by decide +kernel
theorem d_SR_spans_16 : decode b_SR_spans 16 = .ok (.iconst 3, 1) := by decide +kernel
theorem d_SR_spans_17 : decode b_SR_spans 17 = .ok (.if_icmp .ne 15, 3) := by decide +kernel
theorem d_SR_spans_20 : decode b_SR_spans 20 = .ok (.aload_n 0, 1) := by decide +kernel
theorem d_SR_spans_21 : decode b_SR_spans 21 = .ok (.getfield 33, 3) := by decide +kernel
theorem d_SR_spans_24 : decode b_SR_spans 24 = .ok (.getfield 179, 3) := by decide +kernel
theorem d_SR_spans_27 : decode b_SR_spans 27 = .ok (.iload_n 1, 1) := by decide +kernel
theorem d_SR_spans_28 : decode b_SR_spans 28 = .ok (.iaload, 1) := by decide +kernel
theorem d_SR_spans_29 : decode b_SR_spans 29 = .ok (.goto 11, 3) := by decide +kernel
theorem d_SR_spans_32 : decode b_SR_spans 32 = .ok (.aload_n 0, 1) := by decide +kernel
theorem d_SR_spans_33 : decode b_SR_spans 33 = .ok (.getfield 26, 3) := by decide +kernel
theorem d_SR_spans_36 : decode b_SR_spans 36 = .ok (.iload_n 1, 1) := by decide +kernel
theorem d_SR_spans_37 : decode b_SR_spans 37 = .ok (.invokevirtual 183, 3) := by decide +kernel
theorem d_SR_spans_40 : decode b_SR_spans 40 = .ok (.ireturn, 1) := by decide +kernel
theorem d_SS_nthOfKey_0 : decode b_SS_nthOfKey 0 = .ok (.iconst 0, 1) := by decide +kernel
theorem d_SS_nthOfKey_1 : decode b_SS_nthOfKey 1 = .ok (.istore_n 3, 1) := by decide +kernel
theorem d_SS_nthOfKey_2 : decode b_SS_nthOfKey 2 = .ok (.iconst 0, 1) := by decide +kernel
theorem d_SS_nthOfKey_3 : decode b_SS_nthOfKey 3 = .ok (.istore 4, 2) := by decide +kernel
theorem d_SS_nthOfKey_5 : decode b_SS_nthOfKey 5 = .ok (.iload 4, 2) := by decide +kernel
theorem d_SS_nthOfKey_7 : decode b_SS_nthOfKey 7 = .ok (.aload_n 0, 1) := by decide +kernel
theorem d_SS_nthOfKey_8 : decode b_SS_nthOfKey 8 = .ok (.getfield 47, 3) := by decide +kernel
theorem d_SS_nthOfKey_11 : decode b_SS_nthOfKey 11 = .ok (.if_icmp .ge 40, 3) := by decide +kernel
theorem d_SS_nthOfKey_14 : decode b_SS_nthOfKey 14 = .ok (.aload_n 0, 1) := by decide +kernel
theorem d_SS_nthOfKey_15 : decode b_SS_nthOfKey 15 = .ok (.getfield 44, 3) := by decide +kernel
theorem d_SS_nthOfKey_18 : decode b_SS_nthOfKey 18 = .ok (.iload 4, 2) := by decide +kernel
theorem d_SS_nthOfKey_20 : decode b_SS_nthOfKey 20 = .ok (.iaload, 1) := by decide +kernel
theorem d_SS_nthOfKey_21 : decode b_SS_nthOfKey 21 = .ok (.istore 5, 2) := by decide +kernel
theorem d_SS_nthOfKey_23 : decode b_SS_nthOfKey 23 = .ok (.aload_n 0, 1) := by decide +kernel
theorem d_SS_nthOfKey_24 : decode b_SS_nthOfKey 24 = .ok (.getfield 9, 3) := by decide +kernel
theorem d_SS_nthOfKey_27 : decode b_SS_nthOfKey 27 = .ok (.iload 5, 2) := by decide +kernel
theorem d_SS_nthOfKey_29 : decode b_SS_nthOfKey 29 = .ok (.iaload, 1) := by decide +kernel
theorem d_SS_nthOfKey_30 : decode b_SS_nthOfKey 30 = .ok (.iload_n 1, 1) := by decide +kernel
theorem d_SS_nthOfKey_31 : decode b_SS_nthOfKey 31 = .ok (.if_icmp .ne 14, 3) := by decide +kernel
theorem d_SS_nthOfKey_34 : decode b_SS_nthOfKey 34 = .ok (.iload_n 3, 1) := by decide +kernel
theorem d_SS_nthOfKey_35 : decode b_SS_nthOfKey 35 = .ok (.iload_n 2, 1) := by decide +kernel
theorem d_SS_nthOfKey_36 : decode b_SS_nthOfKey 36 = .ok (.if_icmp .ne 6, 3) := by decide +kernel
theorem d_SS_nthOfKey_39 : decode b_SS_nthOfKey 39 = .ok (.iload 5, 2) := by decide +kernel
theorem d_SS_nthOfKey_41 : decode b_SS_nthOfKey 41 = .ok (.ireturn, 1) := by decide +kernel
theorem d_SS_nthOfKey_42 : decode b_SS_nthOfKey 42 = .ok (.iinc 3 1, 3) := by decide +kernel
theorem d_SS_nthOfKey_45 : decode b_SS_nthOfKey 45 = .ok (.iinc 4 1, 3) := by decide +kernel
theorem d_SS_nthOfKey_48 : decode b_SS_nthOfKey 48 = .ok (.goto (-43), 3) := by decide +kernel
theorem d_SS_nthOfKey_51 : decode b_SS_nthOfKey 51 = .ok (.iconst (-1), 1) := by decide +kernel
theorem d_SS_nthOfKey_52 : decode b_SS_nthOfKey 52 = .ok (.ireturn, 1) := by decide +kernel
theorem d_SR_span_0 : decode b_SR_span 0 = .ok (.aload_n 0, 1) := by decide +kernel
theorem d_SR_span_1 : decode b_SR_span 1 = .ok (.getfield 26, 3) := by decide +kernel
theorem d_SR_span_4 : decode b_SR_span 4 = .ok (.iload_n 1, 1) := by decide +kernel
theorem d_SR_span_5 : decode b_SR_span 5 = .ok (.iload_n 2, 1) := by decide +kernel
theorem d_SR_span_6 : decode b_SR_span 6 = .ok (.invokevirtual 187, 3) := by decide +kernel
theorem d_SR_span_9 : decode b_SR_span 9 = .ok (.istore 4, 2) := by decide +kernel
theorem d_SR_span_11 : decode b_SR_span 11 = .ok (.iload 4, 2) := by decide +kernel
theorem d_SR_span_13 : decode b_SR_span 13 = .ok (.iconst (-1), 1) := by decide +kernel
theorem d_SR_span_14 : decode b_SR_span 14 = .ok (.if_icmp .ne 7, 3) := by decide +kernel
theorem d_SR_span_17 : decode b_SR_span 17 = .ok (.ldc2_w 169, 3) := by decide +kernel
theorem d_SR_span_20 : decode b_SR_span 20 = .ok (.lreturn, 1) := by decide +kernel
theorem d_SR_span_21 : decode b_SR_span 21 = .ok (.iload_n 3, 1) := by decide +kernel
theorem d_SR_span_22 : decode b_SR_span 22 = .ok (.tableswitch 122 1 10 #[54, 65, 122, 76, 76, 76, 76, 76, 98, 110], 54) := by decide +kernel
theorem d_SR_span_76 : decode b_SR_span 76 = .ok (.aload_n 0, 1) := by decide +kernel
theorem d_SR_span_77 : decode b_SR_span 77 = .ok (.getfield 26, 3) := by decide +kernel
theorem d_SR_span_80 : decode b_SR_span 80 = .ok (.getfield 191, 3) := by decide +kernel
theorem d_SR_span_83 : decode b_SR_span 83 = .ok (.iload 4, 2) := by decide +kernel
theorem d_SR_span_85 : decode b_SR_span 85 = .ok (.laload, 1) := by decide +kernel
theorem d_SR_span_86 : decode b_SR_span 86 = .ok (.lreturn, 1) := by decide +kernel
theorem d_SR_span_87 : decode b_SR_span 87 = .ok (.aload_n 0, 1) := by decide +kernel
theorem d_SR_span_88 : decode b_SR_span 88 = .ok (.getfield 26, 3) := by decide +kernel
theorem d_SR_span_91 : decode b_SR_span 91 = .ok (.getfield 195, 3) := by decide +kernel
theorem d_SR_span_94 : decode b_SR_span 94 = .ok (.iload 4, 2) := by decide +kernel
theorem d_SR_span_96 : decode b_SR_span 96 = .ok (.laload, 1) := by decide +kernel
theorem d_SR_span_97 : decode b_SR_span 97 = .ok (.lreturn, 1) := by decide +kernel
theorem d_SR_span_98 : decode b_SR_span 98 = .ok (.aload_n 0, 1) := by decide +kernel
theorem d_SR_span_99 : decode b_SR_span 99 = .ok (.iload 4, 2) := by decide +kernel
theorem d_SR_span_101 : decode b_SR_span 101 = .ok (.aload_n 0, 1) := by decide +kernel
theorem d_SR_span_102 : decode b_SR_span 102 = .ok (.getfield 26, 3) := by decide +kernel
theorem d_SR_span_105 : decode b_SR_span 105 = .ok (.getfield 198, 3) := by decide +kernel
theorem d_SR_span_108 : decode b_SR_span 108 = .ok (.invokevirtual 201, 3) := by decide +kernel
theorem d_SR_span_111 : decode b_SR_span 111 = .ok (.aload_n 0, 1) := by decide +kernel
theorem d_SR_span_112 : decode b_SR_span 112 = .ok (.getfield 47, 3) := by decide +kernel
theorem d_SR_span_115 : decode b_SR_span 115 = .ok (.iload_n 3, 1) := by decide +kernel
theorem d_SR_span_116 : decode b_SR_span 116 = .ok (.invokevirtual 205, 3) := by decide +kernel
theorem d_SR_span_119 : decode b_SR_span 119 = .ok (.lreturn, 1) := by decide +kernel
theorem d_SR_span_120 : decode b_SR_span 120 = .ok (.aload_n 0, 1) := by decide +kernel
theorem d_SR_span_121 : decode b_SR_span 121 = .ok (.getfield 26, 3) := by decide +kernel
theorem d_SR_span_124 : decode b_SR_span 124 = .ok (.getfield 209, 3) := by decide +kernel
theorem d_SR_span_127 : decode b_SR_span 127 = .ok (.iload 4, 2) := by decide +kernel
theorem d_SR_span_129 : decode b_SR_span 129 = .ok (.iaload, 1) := by decide +kernel
theorem d_SR_span_130 : decode b_SR_span 130 = .ok (.i2l, 1) := by decide +kernel
theorem d_SR_span_131 : decode b_SR_span 131 = .ok (.lreturn, 1) := by decide +kernel
theorem d_SR_span_132 : decode b_SR_span 132 = .ok (.aload_n 0, 1) := by decide +kernel
theorem d_SR_span_133 : decode b_SR_span 133 = .ok (.getfield 26, 3) := by decide +kernel
theorem d_SR_span_136 : decode b_SR_span 136 = .ok (.getfield 212, 3) := by decide +kernel
theorem d_SR_span_139 : decode b_SR_span 139 = .ok (.iload 4, 2) := by decide +kernel
theorem d_SR_span_141 : decode b_SR_span 141 = .ok (.iaload, 1) := by decide +kernel
theorem d_SR_span_142 : decode b_SR_span 142 = .ok (.i2l, 1) := by decide +kernel
theorem d_SR_span_143 : decode b_SR_span 143 = .ok (.lreturn, 1) := by decide +kernel
theorem d_SR_span_144 : decode b_SR_span 144 = .ok (.ldc2_w 173, 3) := by decide +kernel
theorem d_SR_span_147 : decode b_SR_span 147 = .ok (.lreturn, 1) := by decide +kernel
theorem d_SR_month_0 : decode b_SR_month 0 = .ok (.iload_n 1, 1) := by decide +kernel
theorem d_SR_month_1 : decode b_SR_month 1 = .ok (.i2l, 1) := by decide +kernel
theorem d_SR_month_2 : decode b_SR_month 2 = .ok (.ldc2_w 215, 3) := by decide +kernel
theorem d_SR_month_5 : decode b_SR_month 5 = .ok (.ldc2_w 217, 3) := by decide +kernel
theorem d_SR_month_8 : decode b_SR_month 8 = .ok (.invokestatic 95, 3) := by decide +kernel
theorem d_SR_month_11 : decode b_SR_month 11 = .ok (.ifCond .eq 12, 3) := by decide +kernel
theorem d_SR_month_14 : decode b_SR_month 14 = .ok (.iload_n 1, 1) := by decide +kernel
theorem d_SR_month_15 : decode b_SR_month 15 = .ok (.i2l, 1) := by decide +kernel
theorem d_SR_month_16 : decode b_SR_month 16 = .ok (.invokestatic 219, 3) := by decide +kernel
theorem d_SR_month_19 : decode b_SR_month 19 = .ok (.l2i, 1) := by decide +kernel
theorem d_SR_month_20 : decode b_SR_month 20 = .ok (.goto 5, 3) := by decide +kernel
theorem d_SR_month_23 : decode b_SR_month 23 = .ok (.ldc 225, 2) := by decide +kernel
theorem d_SR_month_25 : decode b_SR_month 25 = .ok (.ireturn, 1) := by decide +kernel
theorem d_SR_nearest_0 : decode b_SR_nearest 0 = .ok (.iload_n 0, 1) := by decide +kernel
theorem d_SR_nearest_1 : decode b_SR_nearest 1 = .ok (.iload_n 1, 1) := by decide +kernel
theorem d_SR_nearest_2 : decode b_SR_nearest 2 = .ok (.if_icmp .ge 7, 3) := by decide +kernel
theorem d_SR_nearest_5 : decode b_SR_nearest 5 = .ok (.iload_n 1, 1) := by decide +kernel
theorem d_SR_nearest_6 : decode b_SR_nearest 6 = .ok (.goto 13, 3) := by decide +kernel
theorem d_SR_nearest_9 : decode b_SR_nearest 9 = .ok (.iload_n 0, 1) := by decide +kernel
theorem d_SR_nearest_10 : decode b_SR_nearest 10 = .ok (.iload_n 2, 1) := by decide +kernel
theorem d_SR_nearest_11 : decode b_SR_nearest 11 = .ok (.if_icmp .le 7, 3) := by decide +kernel
theorem d_SR_nearest_14 : decode b_SR_nearest 14 = .ok (.iload_n 2, 1) := by decide +kernel
theorem d_SR_nearest_15 : decode b_SR_nearest 15 = .ok (.goto 4, 3) := by decide +kernel
theorem d_SR_nearest_18 : decode b_SR_nearest 18 = .ok (.iload_n 0, 1) := by decide +kernel
theorem d_SR_nearest_19 : decode b_SR_nearest 19 = .ok (.ireturn, 1) := by decide +kernel
theorem d_MO_nearest_0 : decode b_MO_nearest 0 = .ok (.iload_n 0, 1) := by decide +kernel
theorem d_MO_nearest_1 : decode b_MO_nearest 1 = .ok (.iload_n 1, 1) := by decide +kernel
theorem d_MO_nearest_2 : decode b_MO_nearest 2 = .ok (.if_icmp .ge 7, 3) := by decide +kernel
theorem d_MO_nearest_5 : decode b_MO_nearest 5 = .ok (.iload_n 1, 1) := by decide +kernel
theorem d_MO_nearest_6 : decode b_MO_nearest 6 = .ok (.goto 13, 3) := by decide +kernel
theorem d_MO_nearest_9 : decode b_MO_nearest 9 = .ok (.iload_n 0, 1) := by decide +kernel
theorem d_MO_nearest_10 : decode b_MO_nearest 10 = .ok (.iload_n 2, 1) := by decide +kernel
theorem d_MO_nearest_11 : decode b_MO_nearest 11 = .ok (.if_icmp .le 7, 3) := by decide +kernel
theorem d_MO_nearest_14 : decode b_MO_nearest 14 = .ok (.iload_n 2, 1) := by decide +kernel
theorem d_MO_nearest_15 : decode b_MO_nearest 15 = .ok (.goto 4, 3) := by decide +kernel
theorem d_MO_nearest_18 : decode b_MO_nearest 18 = .ok (.iload_n 0, 1) := by decide +kernel
theorem d_MO_nearest_19 : decode b_MO_nearest 19 = .ok (.ireturn, 1) := by decide +kernel
theorem d_MO_in_0 : decode b_MO_in 0 = .ok (.lload_n 0, 1) := by decide +kernel
theorem d_MO_in_1 : decode b_MO_in 1 = .ok (.lload_n 2, 1) := by decide +kernel
theorem d_MO_in_2 : decode b_MO_in 2 = .ok (.lcmp, 1) := by decide +kernel
theorem d_MO_in_3 : decode b_MO_in 3 = .ok (.ifCond .lt 14, 3) := by decide +kernel
theorem d_MO_in_6 : decode b_MO_in 6 = .ok (.lload_n 0, 1) := by decide +kernel
theorem d_MO_in_7 : decode b_MO_in 7 = .ok (.lload 4, 2) := by decide +kernel
theorem d_MO_in_9 : decode b_MO_in 9 = .ok (.lcmp, 1) := by decide +kernel
theorem d_MO_in_10 : decode b_MO_in 10 = .ok (.ifCond .gt 7, 3) := by decide +kernel
theorem d_MO_in_13 : decode b_MO_in 13 = .ok (.iconst 1, 1) := by decide +kernel
theorem d_MO_in_14 : decode b_MO_in 14 = .ok (.goto 4, 3) := by decide +kernel
theorem d_MO_in_17 : decode b_MO_in 17 = .ok (.iconst 0, 1) := by decide +kernel
theorem d_MO_in_18 : decode b_MO_in 18 = .ok (.ireturn, 1) := by decide +kernel
theorem d_MO_thrown_0 : decode b_MO_thrown 0 = .ok (.aload_n 0, 1) := by decide +kernel
theorem d_MO_thrown_1 : decode b_MO_thrown 1 = .ok (.getfield 104, 3) := by decide +kernel
theorem d_MO_thrown_4 : decode b_MO_thrown 4 = .ok (.ireturn, 1) := by decide +kernel
theorem d_MO_offset_0 : decode b_MO_offset 0 = .ok (.aload_n 0, 1) := by decide +kernel
theorem d_MO_offset_1 : decode b_MO_offset 1 = .ok (.iconst 0, 1) := by decide +kernel
theorem d_MO_offset_2 : decode b_MO_offset 2 = .ok (.putfield 104, 3) := by decide +kernel
theorem d_MO_offset_5 : decode b_MO_offset 5 = .ok (.lload_n 1, 1) := by decide +kernel
theorem d_MO_offset_6 : decode b_MO_offset 6 = .ok (.ldc2_w 107, 3) := by decide +kernel
theorem d_MO_offset_9 : decode b_MO_offset 9 = .ok (.ldc2_w 109, 3) := by decide +kernel
theorem d_MO_offset_12 : decode b_MO_offset 12 = .ok (.invokestatic 111, 3) := by decide +kernel
theorem d_MO_offset_15 : decode b_MO_offset 15 = .ok (.ifCond .ne 6, 3) := by decide +kernel
theorem d_MO_offset_18 : decode b_MO_offset 18 = .ok (.bipush (-2), 2) := by decide +kernel
theorem d_MO_offset_20 : decode b_MO_offset 20 = .ok (.ireturn, 1) := by decide +kernel
theorem d_MO_offset_21 : decode b_MO_offset 21 = .ok (.aload_n 0, 1) := by decide +kernel
theorem d_MO_offset_22 : decode b_MO_offset 22 = .ok (.getfield 115, 3) := by decide +kernel
theorem d_MO_offset_25 : decode b_MO_offset 25 = .ok (.ifCond .le 6, 3) := by decide +kernel
theorem d_MO_offset_28 : decode b_MO_offset 28 = .ok (.bipush (-3), 2) := by decide +kernel
theorem d_MO_offset_30 : decode b_MO_offset 30 = .ok (.ireturn, 1) := by decide +kernel
theorem d_MO_offset_31 : decode b_MO_offset 31 = .ok (.aload_n 0, 1) := by decide +kernel
theorem d_MO_offset_32 : decode b_MO_offset 32 = .ok (.lload_n 1, 1) := by decide +kernel
theorem d_MO_offset_33 : decode b_MO_offset 33 = .ok (.putfield 118, 3) := by decide +kernel
theorem d_MO_offset_36 : decode b_MO_offset 36 = .ok (.iconst 1, 1) := by decide +kernel
theorem d_MO_offset_37 : decode b_MO_offset 37 = .ok (.ireturn, 1) := by decide +kernel
theorem d_MO_lateness_0 : decode b_MO_lateness 0 = .ok (.aload_n 0, 1) := by decide +kernel
theorem d_MO_lateness_1 : decode b_MO_lateness 1 = .ok (.iconst 0, 1) := by decide +kernel
theorem d_MO_lateness_2 : decode b_MO_lateness 2 = .ok (.putfield 104, 3) := by decide +kernel
theorem d_MO_lateness_5 : decode b_MO_lateness 5 = .ok (.lload_n 1, 1) := by decide +kernel
theorem d_MO_lateness_6 : decode b_MO_lateness 6 = .ok (.lconst 0, 1) := by decide +kernel
theorem d_MO_lateness_7 : decode b_MO_lateness 7 = .ok (.ldc2_w 109, 3) := by decide +kernel
theorem d_MO_lateness_10 : decode b_MO_lateness 10 = .ok (.invokestatic 111, 3) := by decide +kernel
theorem d_MO_lateness_13 : decode b_MO_lateness 13 = .ok (.ifCond .ne 6, 3) := by decide +kernel
theorem d_MO_lateness_16 : decode b_MO_lateness 16 = .ok (.bipush (-2), 2) := by decide +kernel
theorem d_MO_lateness_18 : decode b_MO_lateness 18 = .ok (.ireturn, 1) := by decide +kernel
theorem d_MO_lateness_19 : decode b_MO_lateness 19 = .ok (.aload_n 0, 1) := by decide +kernel
theorem d_MO_lateness_20 : decode b_MO_lateness 20 = .ok (.getfield 115, 3) := by decide +kernel
theorem d_MO_lateness_23 : decode b_MO_lateness 23 = .ok (.ifCond .gt 11, 3) := by decide +kernel
theorem d_MO_lateness_26 : decode b_MO_lateness 26 = .ok (.aload_n 0, 1) := by decide +kernel
theorem d_MO_lateness_27 : decode b_MO_lateness 27 = .ok (.getfield 93, 3) := by decide +kernel
theorem d_MO_lateness_30 : decode b_MO_lateness 30 = .ok (.iconst 3, 1) := by decide +kernel
theorem d_MO_lateness_31 : decode b_MO_lateness 31 = .ok (.if_icmp .ne 6, 3) := by decide +kernel
theorem d_MO_lateness_34 : decode b_MO_lateness 34 = .ok (.bipush (-3), 2) := by decide +kernel
theorem d_MO_lateness_36 : decode b_MO_lateness 36 = .ok (.ireturn, 1) := by decide +kernel
theorem d_MO_lateness_37 : decode b_MO_lateness 37 = .ok (.aload_n 0, 1) := by decide +kernel
theorem d_MO_lateness_38 : decode b_MO_lateness 38 = .ok (.lload_n 1, 1) := by decide +kernel
theorem d_MO_lateness_39 : decode b_MO_lateness 39 = .ok (.putfield 121, 3) := by decide +kernel
theorem d_MO_lateness_42 : decode b_MO_lateness 42 = .ok (.iconst 1, 1) := by decide +kernel
theorem d_MO_lateness_43 : decode b_MO_lateness 43 = .ok (.ireturn, 1) := by decide +kernel
theorem d_MO_trigger_0 : decode b_MO_trigger 0 = .ok (.aload_n 0, 1) := by decide +kernel
theorem d_MO_trigger_1 : decode b_MO_trigger 1 = .ok (.iconst 0, 1) := by decide +kernel
theorem d_MO_trigger_2 : decode b_MO_trigger 2 = .ok (.putfield 104, 3) := by decide +kernel
theorem d_MO_trigger_5 : decode b_MO_trigger 5 = .ok (.iload_n 1, 1) := by decide +kernel
theorem d_MO_trigger_6 : decode b_MO_trigger 6 = .ok (.i2l, 1) := by decide +kernel
theorem d_MO_trigger_7 : decode b_MO_trigger 7 = .ok (.lconst 0, 1) := by decide +kernel
theorem d_MO_trigger_8 : decode b_MO_trigger 8 = .ok (.ldc2_w 124, 3) := by decide +kernel
theorem d_MO_trigger_11 : decode b_MO_trigger 11 = .ok (.invokestatic 111, 3) := by decide +kernel
theorem d_MO_trigger_14 : decode b_MO_trigger 14 = .ok (.ifCond .ne 6, 3) := by decide +kernel
theorem d_MO_trigger_17 : decode b_MO_trigger 17 = .ok (.bipush (-2), 2) := by decide +kernel
theorem d_MO_trigger_19 : decode b_MO_trigger 19 = .ok (.ireturn, 1) := by decide +kernel
theorem d_MO_trigger_20 : decode b_MO_trigger 20 = .ok (.aload_n 0, 1) := by decide +kernel
theorem d_MO_trigger_21 : decode b_MO_trigger 21 = .ok (.getfield 93, 3) := by decide +kernel
theorem d_MO_trigger_24 : decode b_MO_trigger 24 = .ok (.iconst 3, 1) := by decide +kernel
theorem d_MO_trigger_25 : decode b_MO_trigger 25 = .ok (.if_icmp .ne 6, 3) := by decide +kernel
theorem d_MO_trigger_28 : decode b_MO_trigger 28 = .ok (.bipush (-3), 2) := by decide +kernel
theorem d_MO_trigger_30 : decode b_MO_trigger 30 = .ok (.ireturn, 1) := by decide +kernel
theorem d_MO_trigger_31 : decode b_MO_trigger 31 = .ok (.aload_n 0, 1) := by decide +kernel
theorem d_MO_trigger_32 : decode b_MO_trigger 32 = .ok (.iload_n 1, 1) := by decide +kernel
theorem d_MO_trigger_33 : decode b_MO_trigger 33 = .ok (.putfield 126, 3) := by decide +kernel
theorem d_MO_trigger_36 : decode b_MO_trigger 36 = .ok (.aload_n 0, 1) := by decide +kernel
theorem d_MO_trigger_37 : decode b_MO_trigger 37 = .ok (.iload_n 2, 1) := by decide +kernel
theorem d_MO_trigger_38 : decode b_MO_trigger 38 = .ok (.putfield 7, 3) := by decide +kernel
theorem d_MO_trigger_41 : decode b_MO_trigger 41 = .ok (.iconst 1, 1) := by decide +kernel
theorem d_MO_trigger_42 : decode b_MO_trigger 42 = .ok (.ireturn, 1) := by decide +kernel
theorem d_MO_clears_0 : decode b_MO_clears 0 = .ok (.aload_n 0, 1) := by decide +kernel
theorem d_MO_clears_1 : decode b_MO_clears 1 = .ok (.iconst 0, 1) := by decide +kernel
theorem d_MO_clears_2 : decode b_MO_clears 2 = .ok (.putfield 104, 3) := by decide +kernel
theorem d_MO_clears_5 : decode b_MO_clears 5 = .ok (.aload_n 0, 1) := by decide +kernel
theorem d_MO_clears_6 : decode b_MO_clears 6 = .ok (.getfield 93, 3) := by decide +kernel
theorem d_MO_clears_9 : decode b_MO_clears 9 = .ok (.iconst 3, 1) := by decide +kernel
theorem d_MO_clears_10 : decode b_MO_clears 10 = .ok (.if_icmp .ne 6, 3) := by decide +kernel
theorem d_MO_clears_13 : decode b_MO_clears 13 = .ok (.bipush (-3), 2) := by decide +kernel
theorem d_MO_clears_15 : decode b_MO_clears 15 = .ok (.ireturn, 1) := by decide +kernel
theorem d_MO_clears_16 : decode b_MO_clears 16 = .ok (.aload_n 0, 1) := by decide +kernel
theorem d_MO_clears_17 : decode b_MO_clears 17 = .ok (.getfield 129, 3) := by decide +kernel
theorem d_MO_clears_20 : decode b_MO_clears 20 = .ok (.iload_n 1, 1) := by decide +kernel
theorem d_MO_clears_21 : decode b_MO_clears 21 = .ok (.if_icmp .eq 7, 3) := by decide +kernel
theorem d_MO_clears_24 : decode b_MO_clears 24 = .ok (.iconst 1, 1) := by decide +kernel
theorem d_MO_clears_25 : decode b_MO_clears 25 = .ok (.goto 4, 3) := by decide +kernel
